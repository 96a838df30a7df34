theorem dX6_isFramedSix_0 : decode cX6_isFramedSix 0 = .ok (.aload_n 0, 1) := by decide +kernel
theorem dX6_isFramedSix_1 : decode cX6_isFramedSix 1 = .ok (.invokevirtual 46, 3) := by decide +kernel
theorem dX6_isFramedSix_4 : decode cX6_isFramedSix 4 = .ok (.istore_n 1, 1) := by decide +kernel
theorem dX6_isFramedSix_5 : decode cX6_isFramedSix 5 = .ok (.iload_n 1, 1) := by decide +kernel
theorem dX6_isFramedSix_6 : decode cX6_isFramedSix 6 = .ok (.bipush 40, 2) := by decide +kernel
theorem dX6_isFramedSix_8 : decode cX6_isFramedSix 8 = .ok (.if_icmp .lt 31, 3) := by decide +kernel
theorem dX6_isFramedSix_11 : decode cX6_isFramedSix 11 = .ok (.aload_n 0, 1) := by decide +kernel
theorem dX6_isFramedSix_12 : decode cX6_isFramedSix 12 = .ok (.iconst 0, 1) := by decide +kernel
theorem dX6_isFramedSix_13 : decode cX6_isFramedSix 13 = .ok (.invokevirtual 24, 3) := by decide +kernel
theorem dX6_isFramedSix_16 : decode cX6_isFramedSix 16 = .ok (.iconst 4, 1) := by decide +kernel
theorem dX6_isFramedSix_17 : decode cX6_isFramedSix 17 = .ok (.iushr, 1) := by decide +kernel
theorem dX6_isFramedSix_18 : decode cX6_isFramedSix 18 = .ok (.bipush 6, 2) := by decide +kernel
theorem dX6_isFramedSix_20 : decode cX6_isFramedSix 20 = .ok (.if_icmp .ne 19, 3) := by decide +kernel
theorem dX6_isFramedSix_23 : decode cX6_isFramedSix 23 = .ok (.aload_n 0, 1) := by decide +kernel
theorem dX6_isFramedSix_24 : decode cX6_isFramedSix 24 = .ok (.iconst 4, 1) := by decide +kernel
theorem dX6_isFramedSix_25 : decode cX6_isFramedSix 25 = .ok (.invokevirtual 50, 3) := by decide +kernel
theorem dX6_isFramedSix_28 : decode cX6_isFramedSix 28 = .ok (.iload_n 1, 1) := by decide +kernel
theorem dX6_isFramedSix_29 : decode cX6_isFramedSix 29 = .ok (.bipush 40, 2) := by decide +kernel
theorem dX6_isFramedSix_31 : decode cX6_isFramedSix 31 = .ok (.isub, 1) := by decide +kernel
theorem dX6_isFramedSix_32 : decode cX6_isFramedSix 32 = .ok (.if_icmp .ne 7, 3) := by decide +kernel
theorem dX6_isFramedSix_35 : decode cX6_isFramedSix 35 = .ok (.iconst 1, 1) := by decide +kernel
theorem dX6_isFramedSix_36 : decode cX6_isFramedSix 36 = .ok (.goto 4, 3) := by decide +kernel
theorem dX6_isFramedSix_39 : decode cX6_isFramedSix 39 = .ok (.iconst 0, 1) := by decide +kernel
theorem dX6_isFramedSix_40 : decode cX6_isFramedSix 40 = .ok (.ireturn, 1) := by decide +kernel
theorem yv_X6_isFramedSix : YS yX6_isFramedSix cX6_isFramedSix 2 (some .boolean) 1 := ⟨kw2_11, kw1_11, kw2_12, by decide +kernel⟩
set_option maxHeartbeats 4000000 in
set_option maxRecDepth 100000 in
theorem c_X6_isFramedSix {l : Launch} {D : va_G} {cy : Nat → ClassId} {ws : va_W} {b n : Nat} {f : Nat → UInt8} (hB : PK cy ws b f n) : RO l yX6_isFramedSix cX6_isFramedSix 2 (some .boolean) 2 47 [.ref b] D cy ws (.int (bI (tg_fr6 (tg_rd f n) n))) := by
  refine ROz (by decide) (lv0 := [(0, .ref b)]) rfl (Nat.le_of_ble_eq_true rfl) ?_
  intro p e s m args below meth c ls Q S hP hK hend hl
  have hx := S.1
  have hb := S.2.1
  have hown : s.vm.findClass RX6 = some m.cls := S.2.2.2.1
  have ht : ∀ w ∈ lw_g, w.before args s = true := fun w h => S.2.2.2.2 w (List.mem_cons_of_mem _ h)
  obtain ⟨kb, ka, ar, N, hb0, ha0, hnN, hN⟩ := id hB
  refine lv_aload_n hx hb dX6_isFramedSix_0 rfl (lv_at hl 0 rfl) ?_
  refine ro_V S (c_X1_length hB) kw2_13 yv_X1_length ⟨Nat.le_of_ble_eq_true rfl, Nat.le_of_ble_eq_true rfl⟩ hK hP (va_recv hK hP (ci := 2) (q0 := kb) rfl hb0) rfl hl.1 rfl (Nat.le_of_ble_eq_true rfl) dX6_isFramedSix_1 ⟨Nat.le_refl _, Nat.le_refl _⟩ ?_
  refine lv_istore_n (lv' := [(1, .int (nI n)), (0, .ref b)]) hx hb dX6_isFramedSix_4 rfl hl (by decide) rfl (fun ls hl => ?_)
  refine lv_iload_n hx hb dX6_isFramedSix_5 rfl (lv_at hl 0 rfl) ?_
  refine nv_bipush (k := 40) hx hb dX6_isFramedSix_6 (by decide) ?_
  refine nv_icmp_lt (tgt := 39) hx hb dX6_isFramedSix_8 (by decide) (by omega) (by omega) (fun h8 => ?_) (fun h8 => ?_)
  · skip
    refine nv_iconst (k := 0) hx hb dX6_isFramedSix_39 rfl ?_
    exact hend ((bI_f (by simp only [tg_fr6]; exact decide_eq_false (by omega)))) dX6_isFramedSix_40
  refine lv_aload_n hx hb dX6_isFramedSix_11 rfl (lv_at hl 1 rfl) ?_
  refine nv_iconst (k := 0) hx hb dX6_isFramedSix_12 rfl ?_
  refine ro_V S (c_X1_octet hB (k := 0) (by omega)) kw2_14 yv_X1_octet ⟨Nat.le_of_ble_eq_true rfl, Nat.le_of_ble_eq_true rfl⟩ hK hP (va_recv hK hP (ci := 2) (q0 := kb) rfl hb0) rfl hl.1 rfl (Nat.le_of_ble_eq_true rfl) dX6_isFramedSix_13 ⟨Nat.le_refl _, Nat.le_refl _⟩ ?_
  have hq13 := tg_rd_lt f n 0
  refine nv_iconst (k := 4) hx hb dX6_isFramedSix_16 rfl ?_
  refine nv_iushr hx hb (by omega) (by omega) dX6_isFramedSix_17 ?_
  refine nv_bipush (k := 6) hx hb dX6_isFramedSix_18 (by decide) ?_
  refine nv_icmp_ne (tgt := 39) hx hb dX6_isFramedSix_20 (by decide) (by omega) (by omega) (fun h20 => ?_) (fun h20 => ?_)
  · skip
    refine nv_iconst (k := 0) hx hb dX6_isFramedSix_39 rfl ?_
    exact hend ((bI_f (by simp only [tg_fr6]; exact decide_eq_false (by omega)))) dX6_isFramedSix_40
  refine lv_aload_n hx hb dX6_isFramedSix_23 rfl (lv_at hl 1 rfl) ?_
  refine nv_iconst (k := 4) hx hb dX6_isFramedSix_24 rfl ?_
  refine ro_V S (c_X1_pair hB (a := 4) (by omega)) kw2_18 yv_X1_pair ⟨Nat.le_of_ble_eq_true rfl, Nat.le_of_ble_eq_true rfl⟩ hK hP (va_recv hK hP (ci := 2) (q0 := kb) rfl hb0) rfl hl.1 rfl (Nat.le_of_ble_eq_true rfl) dX6_isFramedSix_25 ⟨Nat.le_refl _, Nat.le_refl _⟩ ?_
  have hq25 := tg_pr_lt f n 4
  refine lv_iload_n hx hb dX6_isFramedSix_28 rfl (lv_at hl 0 rfl) ?_
  refine nv_bipush (k := 40) hx hb dX6_isFramedSix_29 (by decide) ?_
  refine nv_isub hx hb (by omega) dX6_isFramedSix_31 ?_
  refine nv_icmp_ne (tgt := 39) hx hb dX6_isFramedSix_32 (by decide) (by omega) (by omega) (fun h32 => ?_) (fun h32 => ?_)
  · skip
    refine nv_iconst (k := 0) hx hb dX6_isFramedSix_39 rfl ?_
    exact hend ((bI_f (by simp only [tg_fr6]; exact decide_eq_false (by omega)))) dX6_isFramedSix_40
  refine nv_iconst (k := 1) hx hb dX6_isFramedSix_35 rfl ?_
  refine lv_goto (tgt := 40) hx hb dX6_isFramedSix_36 (by decide) ?_
  exact hend ((bI_t (by simp only [tg_fr6]; exact decide_eq_true (by omega)))) dX6_isFramedSix_40
theorem dX6_isEchoSix_0 : decode cX6_isEchoSix 0 = .ok (.aload_n 0, 1) := by decide +kernel
theorem dX6_isEchoSix_1 : decode cX6_isEchoSix 1 = .ok (.bipush 40, 2) := by decide +kernel
theorem dX6_isEchoSix_3 : decode cX6_isEchoSix 3 = .ok (.invokevirtual 24, 3) := by decide +kernel
theorem dX6_isEchoSix_6 : decode cX6_isEchoSix 6 = .ok (.istore_n 1, 1) := by decide +kernel
theorem dX6_isEchoSix_7 : decode cX6_isEchoSix 7 = .ok (.aload_n 0, 1) := by decide +kernel
theorem dX6_isEchoSix_8 : decode cX6_isEchoSix 8 = .ok (.bipush 40, 2) := by decide +kernel
theorem dX6_isEchoSix_10 : decode cX6_isEchoSix 10 = .ok (.invokestatic 64, 3) := by decide +kernel
theorem dX6_isEchoSix_13 : decode cX6_isEchoSix 13 = .ok (.ifCond .eq 21, 3) := by decide +kernel
theorem dX6_isEchoSix_16 : decode cX6_isEchoSix 16 = .ok (.iload_n 1, 1) := by decide +kernel
theorem dX6_isEchoSix_17 : decode cX6_isEchoSix 17 = .ok (.sipush 128, 3) := by decide +kernel
theorem dX6_isEchoSix_20 : decode cX6_isEchoSix 20 = .ok (.if_icmp .eq 10, 3) := by decide +kernel
theorem dX6_isEchoSix_23 : decode cX6_isEchoSix 23 = .ok (.iload_n 1, 1) := by decide +kernel
theorem dX6_isEchoSix_24 : decode cX6_isEchoSix 24 = .ok (.sipush 129, 3) := by decide +kernel
theorem dX6_isEchoSix_27 : decode cX6_isEchoSix 27 = .ok (.if_icmp .ne 7, 3) := by decide +kernel
theorem dX6_isEchoSix_30 : decode cX6_isEchoSix 30 = .ok (.iconst 1, 1) := by decide +kernel
theorem dX6_isEchoSix_31 : decode cX6_isEchoSix 31 = .ok (.goto 4, 3) := by decide +kernel
theorem dX6_isEchoSix_34 : decode cX6_isEchoSix 34 = .ok (.iconst 0, 1) := by decide +kernel
theorem dX6_isEchoSix_35 : decode cX6_isEchoSix 35 = .ok (.ireturn, 1) := by decide +kernel
theorem yv_X6_isEchoSix : YS yX6_isEchoSix cX6_isEchoSix 2 (some .boolean) 1 := ⟨kw2_39, kw1_11, kw2_40, by decide +kernel⟩
set_option maxHeartbeats 4000000 in
set_option maxRecDepth 100000 in
theorem c_X6_isEchoSix {l : Launch} {D : va_G} {cy : Nat → ClassId} {ws : va_W} {b n : Nat} {f : Nat → UInt8} (hB : PK cy ws b f n) (hn40 : 40 ≤ n) : RO l yX6_isEchoSix cX6_isEchoSix 2 (some .boolean) 2 41 [.ref b] D cy ws (.int (bI (tg_echo6 (tg_rd f n) n))) := by
  refine ROz (by decide) (lv0 := [(0, .ref b)]) rfl (Nat.le_of_ble_eq_true rfl) ?_
  intro p e s m args below meth c ls Q S hP hK hend hl
  have hx := S.1
  have hb := S.2.1
  have hown : s.vm.findClass RX6 = some m.cls := S.2.2.2.1
  have ht : ∀ w ∈ lw_g, w.before args s = true := fun w h => S.2.2.2.2 w (List.mem_cons_of_mem _ h)
  obtain ⟨kb, ka, ar, N, hb0, ha0, hnN, hN⟩ := id hB
  refine lv_aload_n hx hb dX6_isEchoSix_0 rfl (lv_at hl 0 rfl) ?_
  refine nv_bipush (k := 40) hx hb dX6_isEchoSix_1 (by decide) ?_
  refine ro_V S (c_X1_octet hB (k := 40) (by omega)) kw2_14 yv_X1_octet ⟨Nat.le_of_ble_eq_true rfl, Nat.le_of_ble_eq_true rfl⟩ hK hP (va_recv hK hP (ci := 2) (q0 := kb) rfl hb0) rfl hl.1 rfl (Nat.le_of_ble_eq_true rfl) dX6_isEchoSix_3 ⟨Nat.le_refl _, Nat.le_refl _⟩ ?_
  have hq3 := tg_rd_lt f n 40
  refine lv_istore_n (lv' := [(1, .int (nI (tg_rd f n 40))), (0, .ref b)]) hx hb dX6_isEchoSix_6 rfl hl (by decide) rfl (fun ls hl => ?_)
  refine lv_aload_n hx hb dX6_isEchoSix_7 rfl (lv_at hl 1 rfl) ?_
  refine nv_bipush (k := 40) hx hb dX6_isEchoSix_8 (by decide) ?_
  refine ro_S S (c_X4_isLongEnoughIcmp hB (hd := 40) (by omega) (by omega)) kw2_41 yv_X4_isLongEnoughIcmp ⟨Nat.le_of_ble_eq_true rfl, Nat.le_of_ble_eq_true rfl⟩ hK hP rfl hl.1 rfl (Nat.le_of_ble_eq_true rfl) dX6_isEchoSix_10 ⟨Nat.le_refl _, Nat.le_refl _⟩ ?_
  refine nv_if_eqb (tgt := 34) hx hb dX6_isEchoSix_13 (by decide) (fun h13 => ?_) (fun h13 => ?_)
  · skip
    refine nv_iconst (k := 0) hx hb dX6_isEchoSix_34 rfl ?_
    exact hend ((bI_f (by (try simp only [tg_icmp, decide_eq_true_eq, decide_eq_false_iff_not] at *); simp only [tg_echo6]; exact decide_eq_false (by omega)))) dX6_isEchoSix_35
  refine lv_iload_n hx hb dX6_isEchoSix_16 rfl (lv_at hl 0 rfl) ?_
  refine nv_sipush (k := 128) hx hb dX6_isEchoSix_17 (by decide) ?_
  refine nv_icmp_eq (tgt := 30) hx hb dX6_isEchoSix_20 (by decide) (by omega) (by omega) (fun h20 => ?_) (fun h20 => ?_)
  · skip
    refine nv_iconst (k := 1) hx hb dX6_isEchoSix_30 rfl ?_
    refine lv_goto (tgt := 35) hx hb dX6_isEchoSix_31 (by decide) ?_
    exact hend ((bI_t (by (try simp only [tg_icmp, decide_eq_true_eq, decide_eq_false_iff_not] at *); simp only [tg_echo6]; exact decide_eq_true (by omega)))) dX6_isEchoSix_35
  refine lv_iload_n hx hb dX6_isEchoSix_23 rfl (lv_at hl 0 rfl) ?_
  refine nv_sipush (k := 129) hx hb dX6_isEchoSix_24 (by decide) ?_
  refine nv_icmp_ne (tgt := 34) hx hb dX6_isEchoSix_27 (by decide) (by omega) (by omega) (fun h27 => ?_) (fun h27 => ?_)
  · skip
    refine nv_iconst (k := 0) hx hb dX6_isEchoSix_34 rfl ?_
    exact hend ((bI_f (by (try simp only [tg_icmp, decide_eq_true_eq, decide_eq_false_iff_not] at *); simp only [tg_echo6]; exact decide_eq_false (by omega)))) dX6_isEchoSix_35
  refine nv_iconst (k := 1) hx hb dX6_isEchoSix_30 rfl ?_
  refine lv_goto (tgt := 35) hx hb dX6_isEchoSix_31 (by decide) ?_
  exact hend ((bI_t (by (try simp only [tg_icmp, decide_eq_true_eq, decide_eq_false_iff_not] at *); simp only [tg_echo6]; exact decide_eq_true (by omega)))) dX6_isEchoSix_35
theorem dX6_isKnownSix_0 : decode cX6_isKnownSix 0 = .ok (.aload_n 0, 1) := by decide +kernel
theorem dX6_isKnownSix_1 : decode cX6_isKnownSix 1 = .ok (.bipush 6, 2) := by decide +kernel
theorem dX6_isKnownSix_3 : decode cX6_isKnownSix 3 = .ok (.invokevirtual 24, 3) := by decide +kernel
theorem dX6_isKnownSix_6 : decode cX6_isKnownSix 6 = .ok (.lookupswitch 53 #[(6, 34), (17, 41), (58, 48)], 34) := by decide +kernel
theorem dX6_isKnownSix_40 : decode cX6_isKnownSix 40 = .ok (.aload_n 0, 1) := by decide +kernel
theorem dX6_isKnownSix_41 : decode cX6_isKnownSix 41 = .ok (.bipush 40, 2) := by decide +kernel
theorem dX6_isKnownSix_43 : decode cX6_isKnownSix 43 = .ok (.invokestatic 53, 3) := by decide +kernel
theorem dX6_isKnownSix_46 : decode cX6_isKnownSix 46 = .ok (.ireturn, 1) := by decide +kernel
theorem dX6_isKnownSix_47 : decode cX6_isKnownSix 47 = .ok (.aload_n 0, 1) := by decide +kernel
theorem dX6_isKnownSix_48 : decode cX6_isKnownSix 48 = .ok (.bipush 40, 2) := by decide +kernel
theorem dX6_isKnownSix_50 : decode cX6_isKnownSix 50 = .ok (.invokestatic 58, 3) := by decide +kernel
theorem dX6_isKnownSix_53 : decode cX6_isKnownSix 53 = .ok (.ireturn, 1) := by decide +kernel
theorem dX6_isKnownSix_54 : decode cX6_isKnownSix 54 = .ok (.aload_n 0, 1) := by decide +kernel
theorem dX6_isKnownSix_55 : decode cX6_isKnownSix 55 = .ok (.invokestatic 61, 3) := by decide +kernel
theorem dX6_isKnownSix_58 : decode cX6_isKnownSix 58 = .ok (.ireturn, 1) := by decide +kernel
theorem dX6_isKnownSix_59 : decode cX6_isKnownSix 59 = .ok (.iconst 0, 1) := by decide +kernel
theorem dX6_isKnownSix_60 : decode cX6_isKnownSix 60 = .ok (.ireturn, 1) := by decide +kernel
theorem yv_X6_isKnownSix : YS yX6_isKnownSix cX6_isKnownSix 1 (some .boolean) 1 := ⟨kw2_27, kw1_11, kw2_28, by decide +kernel⟩
set_option maxHeartbeats 4000000 in
set_option maxRecDepth 100000 in
theorem c_X6_isKnownSix {l : Launch} {D : va_G} {cy : Nat → ClassId} {ws : va_W} {b n : Nat} {f : Nat → UInt8} (hB : PK cy ws b f n) (hn40 : 40 ≤ n) : RO l yX6_isKnownSix cX6_isKnownSix 1 (some .boolean) 3 69 [.ref b] D cy ws (.int (bI (tg_kn6 (tg_rd f n) n))) := by
  refine ROz (by decide) (lv0 := [(0, .ref b)]) rfl (Nat.le_of_ble_eq_true rfl) ?_
  intro p e s m args below meth c ls Q S hP hK hend hl
  have hx := S.1
  have hb := S.2.1
  have hown : s.vm.findClass RX6 = some m.cls := S.2.2.2.1
  have ht : ∀ w ∈ lw_g, w.before args s = true := fun w h => S.2.2.2.2 w (List.mem_cons_of_mem _ h)
  obtain ⟨kb, ka, ar, N, hb0, ha0, hnN, hN⟩ := id hB
  have hr6 := tg_rd_lt f n 6
  refine lv_aload_n hx hb dX6_isKnownSix_0 rfl (lv_at hl 0 rfl) ?_
  refine nv_bipush (k := 6) hx hb dX6_isKnownSix_1 (by decide) ?_
  refine ro_V S (c_X1_octet hB (k := 6) (by omega)) kw2_14 yv_X1_octet ⟨Nat.le_of_ble_eq_true rfl, Nat.le_of_ble_eq_true rfl⟩ hK hP (va_recv hK hP (ci := 2) (q0 := kb) rfl hb0) rfl hl.1 rfl (Nat.le_of_ble_eq_true rfl) dX6_isKnownSix_3 ⟨Nat.le_refl _, Nat.le_refl _⟩ ?_
  have hq3 := tg_rd_lt f n 6
  by_cases hs6_0 : tg_rd f n 6 = 6
  · refine lv_lookup (off := 34) (tgt := 40) hx hb dX6_isKnownSix_6 (by decide) (by rw [hs6_0]; decide) (by decide) ?_
    refine lv_aload_n hx hb dX6_isKnownSix_40 rfl (lv_at hl 0 rfl) ?_
    refine nv_bipush (k := 40) hx hb dX6_isKnownSix_41 (by decide) ?_
    refine ro_S S (c_X4_isSoundTcp hB (hd := 40) (by omega) (by omega)) kw2_29 yv_X4_isSoundTcp ⟨Nat.le_of_ble_eq_true rfl, Nat.le_of_ble_eq_true rfl⟩ hK hP rfl hl.1 rfl (Nat.le_of_ble_eq_true rfl) dX6_isKnownSix_43 ⟨Nat.le_refl _, Nat.le_refl _⟩ ?_
    exact hend ((congrArg bI (by simp only [tg_kn6]; first | rw [if_pos (by omega)] | rw [if_neg (by omega), if_pos (by omega)] | rw [if_neg (by omega), if_neg (by omega), if_pos (by omega)]))) dX6_isKnownSix_46
  by_cases hs6_1 : tg_rd f n 6 = 17
  · refine lv_lookup (off := 41) (tgt := 47) hx hb dX6_isKnownSix_6 (by decide) (by rw [hs6_1]; decide) (by decide) ?_
    refine lv_aload_n hx hb dX6_isKnownSix_47 rfl (lv_at hl 0 rfl) ?_
    refine nv_bipush (k := 40) hx hb dX6_isKnownSix_48 (by decide) ?_
    refine ro_S S (c_X4_isSoundUdp hB (hd := 40) (by omega) (by omega)) kw2_34 yv_X4_isSoundUdp ⟨Nat.le_of_ble_eq_true rfl, Nat.le_of_ble_eq_true rfl⟩ hK hP rfl hl.1 rfl (Nat.le_of_ble_eq_true rfl) dX6_isKnownSix_50 ⟨Nat.le_refl _, Nat.le_refl _⟩ ?_
    exact hend ((congrArg bI (by simp only [tg_kn6]; first | rw [if_pos (by omega)] | rw [if_neg (by omega), if_pos (by omega)] | rw [if_neg (by omega), if_neg (by omega), if_pos (by omega)]))) dX6_isKnownSix_53
  by_cases hs6_2 : tg_rd f n 6 = 58
  · refine lv_lookup (off := 48) (tgt := 54) hx hb dX6_isKnownSix_6 (by decide) (by rw [hs6_2]; decide) (by decide) ?_
    refine lv_aload_n hx hb dX6_isKnownSix_54 rfl (lv_at hl 0 rfl) ?_
    refine ro_S S (c_X6_isEchoSix hB (by omega)) kw2_38 yv_X6_isEchoSix ⟨Nat.le_of_ble_eq_true rfl, Nat.le_of_ble_eq_true rfl⟩ hK hP rfl hl.1 rfl (Nat.le_of_ble_eq_true rfl) dX6_isKnownSix_55 ⟨Nat.le_refl _, Nat.le_refl _⟩ ?_
    exact hend ((congrArg bI (by simp only [tg_kn6]; first | rw [if_pos (by omega)] | rw [if_neg (by omega), if_pos (by omega)] | rw [if_neg (by omega), if_neg (by omega), if_pos (by omega)]))) dX6_isKnownSix_58
  refine lv_lookup (off := 53) (tgt := 59) hx hb dX6_isKnownSix_6 (by decide) (by rw [nI_toInt (by omega)]; exact (sw_ne (k := 6) hs6_0).trans ((sw_ne (k := 17) hs6_1).trans ((sw_ne (k := 58) hs6_2).trans (rfl)))) (by decide) ?_
  refine nv_iconst (k := 0) hx hb dX6_isKnownSix_59 rfl ?_
  exact hend ((bI_f (by simp only [tg_kn6]; rw [if_neg (by omega), if_neg (by omega), if_neg (by omega)]))) dX6_isKnownSix_60
theorem dX6_isPlacedSix_0 : decode cX6_isPlacedSix 0 = .ok (.aload_n 1, 1) := by decide +kernel
theorem dX6_isPlacedSix_1 : decode cX6_isPlacedSix 1 = .ok (.invokevirtual 67, 3) := by decide +kernel
theorem dX6_isPlacedSix_4 : decode cX6_isPlacedSix 4 = .ok (.ifCond .eq 10, 3) := by decide +kernel
theorem dX6_isPlacedSix_7 : decode cX6_isPlacedSix 7 = .ok (.aload_n 2, 1) := by decide +kernel
theorem dX6_isPlacedSix_8 : decode cX6_isPlacedSix 8 = .ok (.invokevirtual 73, 3) := by decide +kernel
theorem dX6_isPlacedSix_11 : decode cX6_isPlacedSix 11 = .ok (.ifCond .ne 5, 3) := by decide +kernel
theorem dX6_isPlacedSix_14 : decode cX6_isPlacedSix 14 = .ok (.iconst 0, 1) := by decide +kernel
theorem dX6_isPlacedSix_15 : decode cX6_isPlacedSix 15 = .ok (.ireturn, 1) := by decide +kernel
theorem dX6_isPlacedSix_16 : decode cX6_isPlacedSix 16 = .ok (.aload_n 1, 1) := by decide +kernel
theorem dX6_isPlacedSix_17 : decode cX6_isPlacedSix 17 = .ok (.aload_n 0, 1) := by decide +kernel
theorem dX6_isPlacedSix_18 : decode cX6_isPlacedSix 18 = .ok (.bipush 24, 2) := by decide +kernel
theorem dX6_isPlacedSix_20 : decode cX6_isPlacedSix 20 = .ok (.invokevirtual 78, 3) := by decide +kernel
theorem dX6_isPlacedSix_23 : decode cX6_isPlacedSix 23 = .ok (.aload_n 0, 1) := by decide +kernel
theorem dX6_isPlacedSix_24 : decode cX6_isPlacedSix 24 = .ok (.bipush 32, 2) := by decide +kernel
theorem dX6_isPlacedSix_26 : decode cX6_isPlacedSix 26 = .ok (.invokevirtual 78, 3) := by decide +kernel
theorem dX6_isPlacedSix_29 : decode cX6_isPlacedSix 29 = .ok (.invokevirtual 82, 3) := by decide +kernel
theorem dX6_isPlacedSix_32 : decode cX6_isPlacedSix 32 = .ok (.lstore_n 3, 1) := by decide +kernel
theorem dX6_isPlacedSix_33 : decode cX6_isPlacedSix 33 = .ok (.lload_n 3, 1) := by decide +kernel
theorem dX6_isPlacedSix_34 : decode cX6_isPlacedSix 34 = .ok (.lconst 0, 1) := by decide +kernel
theorem dX6_isPlacedSix_35 : decode cX6_isPlacedSix 35 = .ok (.lcmp, 1) := by decide +kernel
theorem dX6_isPlacedSix_36 : decode cX6_isPlacedSix 36 = .ok (.ifCond .lt 11, 3) := by decide +kernel
theorem dX6_isPlacedSix_39 : decode cX6_isPlacedSix 39 = .ok (.lload_n 3, 1) := by decide +kernel
theorem dX6_isPlacedSix_40 : decode cX6_isPlacedSix 40 = .ok (.l2i, 1) := by decide +kernel
theorem dX6_isPlacedSix_41 : decode cX6_isPlacedSix 41 = .ok (.invokestatic 86, 3) := by decide +kernel
theorem dX6_isPlacedSix_44 : decode cX6_isPlacedSix 44 = .ok (.ifCond .eq 5, 3) := by decide +kernel
theorem dX6_isPlacedSix_47 : decode cX6_isPlacedSix 47 = .ok (.iconst 0, 1) := by decide +kernel
theorem dX6_isPlacedSix_48 : decode cX6_isPlacedSix 48 = .ok (.ireturn, 1) := by decide +kernel
theorem dX6_isPlacedSix_49 : decode cX6_isPlacedSix 49 = .ok (.aload_n 1, 1) := by decide +kernel
theorem dX6_isPlacedSix_50 : decode cX6_isPlacedSix 50 = .ok (.aload_n 0, 1) := by decide +kernel
theorem dX6_isPlacedSix_51 : decode cX6_isPlacedSix 51 = .ok (.bipush 8, 2) := by decide +kernel
theorem dX6_isPlacedSix_53 : decode cX6_isPlacedSix 53 = .ok (.invokevirtual 78, 3) := by decide +kernel
theorem dX6_isPlacedSix_56 : decode cX6_isPlacedSix 56 = .ok (.aload_n 0, 1) := by decide +kernel
theorem dX6_isPlacedSix_57 : decode cX6_isPlacedSix 57 = .ok (.bipush 16, 2) := by decide +kernel
theorem dX6_isPlacedSix_59 : decode cX6_isPlacedSix 59 = .ok (.invokevirtual 78, 3) := by decide +kernel
theorem dX6_isPlacedSix_62 : decode cX6_isPlacedSix 62 = .ok (.invokevirtual 90, 3) := by decide +kernel
theorem dX6_isPlacedSix_65 : decode cX6_isPlacedSix 65 = .ok (.ifCond .ne 7, 3) := by decide +kernel
theorem dX6_isPlacedSix_68 : decode cX6_isPlacedSix 68 = .ok (.iconst 1, 1) := by decide +kernel
theorem dX6_isPlacedSix_69 : decode cX6_isPlacedSix 69 = .ok (.goto 4, 3) := by decide +kernel
theorem dX6_isPlacedSix_72 : decode cX6_isPlacedSix 72 = .ok (.iconst 0, 1) := by decide +kernel
theorem dX6_isPlacedSix_73 : decode cX6_isPlacedSix 73 = .ok (.ireturn, 1) := by decide +kernel
theorem yv_X6_isPlacedSix : YS yX6_isPlacedSix cX6_isPlacedSix 5 (some .boolean) 3 := ⟨kw2_67, kw1_11, kw2_68, by decide +kernel⟩
set_option maxHeartbeats 4000000 in
set_option maxRecDepth 100000 in
theorem c_X6_isPlacedSix {l : Launch} {D : va_G} {cy : Nat → ClassId} {ws : va_W} {b n : Nat} {f : Nat → UInt8} (hB : PK cy ws b f n) {st bits F G : Nat} (hST : STP ws st bits F G) {po u : Nat} {g : Nat → Int32} (hPL : PLP cy ws po g u) : RO l yX6_isPlacedSix cX6_isPlacedSix 5 (some .boolean) 3 72 [.ref b, .ref st, .ref po] D cy ws (.int (bI (tg_pl6 (tg_rd f n) bits F G u))) := by
  refine ROz (by decide) (lv0 := [(0, .ref b), (1, .ref st), (2, .ref po)]) rfl (Nat.le_of_ble_eq_true rfl) ?_
  intro p e s m args below meth c ls Q S hP hK hend hl
  have hx := S.1
  have hb := S.2.1
  have hown : s.vm.findClass RX6 = some m.cls := S.2.2.2.1
  have ht : ∀ w ∈ lw_g, w.before args s = true := fun w h => S.2.2.2.2 w (List.mem_cons_of_mem _ h)
  obtain ⟨kb, ka, ar, N, hb0, ha0, hnN, hN⟩ := id hB
  obtain ⟨ks, hs0, hsi⟩ := id hST
  have hbits := hsi.b
  have hF := hsi.F
  have hG := hsi.G
  obtain ⟨kp, kq, pa, hp0, hq0, hu⟩ := id hPL
  refine lv_aload_n hx hb dX6_isPlacedSix_0 rfl (lv_at hl 1 rfl) ?_
  refine ro_V S (c_X8_isSet hST) kw2_69 yv_X8_isSet ⟨Nat.le_of_ble_eq_true rfl, Nat.le_of_ble_eq_true rfl⟩ hK hP (va_recv hK hP (ci := 6) (q0 := ks) rfl hs0) rfl hl.1 rfl (Nat.le_of_ble_eq_true rfl) dX6_isPlacedSix_1 ⟨Nat.le_refl _, Nat.le_refl _⟩ ?_
  refine nv_if_eqb (tgt := 14) hx hb dX6_isPlacedSix_4 (by decide) (fun h4 => ?_) (fun h4 => ?_)
  · skip
    refine nv_iconst (k := 0) hx hb dX6_isPlacedSix_14 rfl ?_
    exact hend ((bI_f (by simp only [tg_pl6, decide_eq_true_eq, decide_eq_false_iff_not] at *; first | (simp_all; done) | (simp [*]; done) | (have hz := (dr_neg hbits).mp (by rw [← ex_1]; exact h35); simp [hz])))) dX6_isPlacedSix_15
  refine lv_aload_n hx hb dX6_isPlacedSix_7 rfl (lv_at hl 2 rfl) ?_
  refine ro_V S (c_X5_size hPL) kw2_73 yv_X5_size ⟨Nat.le_of_ble_eq_true rfl, Nat.le_of_ble_eq_true rfl⟩ hK hP (va_recv hK hP (ci := 4) (q0 := kp) rfl hp0) rfl hl.1 rfl (Nat.le_of_ble_eq_true rfl) dX6_isPlacedSix_8 ⟨Nat.le_refl _, Nat.le_refl _⟩ ?_
  refine nv_if_ne (tgt := 16) hx hb dX6_isPlacedSix_11 (by decide) (by omega) (fun h11 => ?_) (fun h11 => ?_)
  · skip
    refine lv_aload_n hx hb dX6_isPlacedSix_16 rfl (lv_at hl 1 rfl) ?_
    refine lv_aload_n hx hb dX6_isPlacedSix_17 rfl (lv_at hl 0 rfl) ?_
    refine nv_bipush (k := 24) hx hb dX6_isPlacedSix_18 (by decide) ?_
    refine ro_V S (c_X1_eight hB (a := 24) (by omega)) kw2_77 yv_X1_eight ⟨Nat.le_of_ble_eq_true rfl, Nat.le_of_ble_eq_true rfl⟩ hK hP (va_recv hK hP (ci := 2) (q0 := kb) rfl hb0) rfl hl.1 rfl (Nat.le_of_ble_eq_true rfl) dX6_isPlacedSix_20 ⟨Nat.le_refl _, Nat.le_refl _⟩ ?_
    have hq20 := tg_ei_lt f n 24
    refine lv_aload_n hx hb dX6_isPlacedSix_23 rfl (lv_at hl 0 rfl) ?_
    refine nv_bipush (k := 32) hx hb dX6_isPlacedSix_24 (by decide) ?_
    refine ro_V S (c_X1_eight hB (a := 32) (by omega)) kw2_77 yv_X1_eight ⟨Nat.le_of_ble_eq_true rfl, Nat.le_of_ble_eq_true rfl⟩ hK hP (va_recv hK hP (ci := 2) (q0 := kb) rfl hb0) rfl hl.1 rfl (Nat.le_of_ble_eq_true rfl) dX6_isPlacedSix_26 ⟨Nat.le_refl _, Nat.le_refl _⟩ ?_
    have hq26 := tg_ei_lt f n 32
    refine ro_V S (c_X8_draw hST (hi := tg_ei (tg_rd f n) 24) (lo := tg_ei (tg_rd f n) 32) (by omega) (by omega)) kw2_81 yv_X8_draw ⟨Nat.le_of_ble_eq_true rfl, Nat.le_of_ble_eq_true rfl⟩ hK hP (va_recv hK hP (ci := 6) (q0 := ks) rfl hs0) rfl hl.1 rfl (Nat.le_of_ble_eq_true rfl) dX6_isPlacedSix_29 ⟨Nat.le_refl _, Nat.le_refl _⟩ ?_
    refine lv_topl (fun x_1 ex_1 => ?_)
    refine lv_lstore_n (lv' := [(3, .long x_1), (0, .ref b), (1, .ref st), (2, .ref po)]) hx hb dX6_isPlacedSix_32 rfl hl (by decide) rfl (fun ls hl => ?_)
    refine lv_lload_n hx hb dX6_isPlacedSix_33 rfl (lv_at hl 0 rfl) ?_
    refine lv_lconst (v := lN 0) hx hb dX6_isPlacedSix_34 (by decide) ?_
    refine nv_lcmp_lt (tgt := 47) hx hb dX6_isPlacedSix_35 dX6_isPlacedSix_36 (by decide) (fun h35 => ?_) (fun h35 => ?_)
    · skip
      refine nv_iconst (k := 0) hx hb dX6_isPlacedSix_47 rfl ?_
      exact hend ((bI_f (by simp only [tg_pl6, decide_eq_true_eq, decide_eq_false_iff_not] at *; first | (simp_all; done) | (simp [*]; done) | (have hz := (dr_neg hbits).mp (by rw [← ex_1]; exact h35); simp [hz])))) dX6_isPlacedSix_48
    have ho : tg_of bits F G (tg_ei (tg_rd f n) 24) (tg_ei (tg_rd f n) 32) = true := by have := mt (dr_neg hbits).mpr (by rw [← ex_1]; exact h35); simpa using this
    have hdl := tg_dr_lt (bits := bits) (hi := tg_ei (tg_rd f n) 24) (lo := tg_ei (tg_rd f n) 32) (by simp at h4; omega)
    have ex : x_1 = lN (tg_dr bits (tg_ei (tg_rd f n) 24) (tg_ei (tg_rd f n) 32)) := by rw [ex_1, tg_draw, if_pos ho]
    subst ex
    refine lv_lload_n hx hb dX6_isPlacedSix_39 rfl (lv_at hl 0 rfl) ?_
    refine nv_l2i hx hb dX6_isPlacedSix_40 ?_
    refine ro_S S (c_X5_isOdd (x := tg_dr bits (tg_ei (tg_rd f n) 24) (tg_ei (tg_rd f n) 32)) (by omega)) kw2_82 yv_X5_isOdd ⟨Nat.le_of_ble_eq_true rfl, Nat.le_of_ble_eq_true rfl⟩ hK hP rfl hl.1 rfl (Nat.le_of_ble_eq_true rfl) dX6_isPlacedSix_41 ⟨Nat.le_refl _, Nat.le_refl _⟩ ?_
    refine nv_if_eqb (tgt := 49) hx hb dX6_isPlacedSix_44 (by decide) (fun h44 => ?_) (fun h44 => ?_)
    · skip
      refine lv_aload_n hx hb dX6_isPlacedSix_49 rfl (lv_at hl 2 rfl) ?_
      refine lv_aload_n hx hb dX6_isPlacedSix_50 rfl (lv_at hl 1 rfl) ?_
      refine nv_bipush (k := 8) hx hb dX6_isPlacedSix_51 (by decide) ?_
      refine ro_V S (c_X1_eight hB (a := 8) (by omega)) kw2_77 yv_X1_eight ⟨Nat.le_of_ble_eq_true rfl, Nat.le_of_ble_eq_true rfl⟩ hK hP (va_recv hK hP (ci := 2) (q0 := kb) rfl hb0) rfl hl.1 rfl (Nat.le_of_ble_eq_true rfl) dX6_isPlacedSix_53 ⟨Nat.le_refl _, Nat.le_refl _⟩ ?_
      have hq53 := tg_ei_lt f n 8
      refine lv_aload_n hx hb dX6_isPlacedSix_56 rfl (lv_at hl 1 rfl) ?_
      refine nv_bipush (k := 16) hx hb dX6_isPlacedSix_57 (by decide) ?_
      refine ro_V S (c_X1_eight hB (a := 16) (by omega)) kw2_77 yv_X1_eight ⟨Nat.le_of_ble_eq_true rfl, Nat.le_of_ble_eq_true rfl⟩ hK hP (va_recv hK hP (ci := 2) (q0 := kb) rfl hb0) rfl hl.1 rfl (Nat.le_of_ble_eq_true rfl) dX6_isPlacedSix_59 ⟨Nat.le_refl _, Nat.le_refl _⟩ ?_
      have hq59 := tg_ei_lt f n 16
      refine ro_V S (c_X8_covers hST (hi := tg_ei (tg_rd f n) 8) (lo := tg_ei (tg_rd f n) 16) (by omega) (by omega)) kw2_83 yv_X8_covers ⟨Nat.le_of_ble_eq_true rfl, Nat.le_of_ble_eq_true rfl⟩ hK hP (va_recv hK hP (ci := 6) (q0 := ks) rfl hs0) rfl hl.1 rfl (Nat.le_of_ble_eq_true rfl) dX6_isPlacedSix_62 ⟨Nat.le_refl _, Nat.le_refl _⟩ ?_
      refine nv_if_neb (tgt := 72) hx hb dX6_isPlacedSix_65 (by decide) (fun h65 => ?_) (fun h65 => ?_)
      · skip
        refine nv_iconst (k := 0) hx hb dX6_isPlacedSix_72 rfl ?_
        exact hend ((bI_f (by simp only [tg_pl6, decide_eq_true_eq, decide_eq_false_iff_not] at *; first | (simp_all; done) | (simp [*]; done) | (have hz := (dr_neg hbits).mp (by rw [← ex_1]; exact h35); simp [hz])))) dX6_isPlacedSix_73
      refine nv_iconst (k := 1) hx hb dX6_isPlacedSix_68 rfl ?_
      refine lv_goto (tgt := 73) hx hb dX6_isPlacedSix_69 (by decide) ?_
      exact hend ((bI_t (by simp only [tg_pl6, decide_eq_true_eq, decide_eq_false_iff_not] at *; simp_all))) dX6_isPlacedSix_73
    refine nv_iconst (k := 0) hx hb dX6_isPlacedSix_47 rfl ?_
    exact hend ((bI_f (by simp only [tg_pl6, decide_eq_true_eq, decide_eq_false_iff_not] at *; first | (simp_all; done) | (simp [*]; done) | (have hz := (dr_neg hbits).mp (by rw [← ex_1]; exact h35); simp [hz])))) dX6_isPlacedSix_48
  refine nv_iconst (k := 0) hx hb dX6_isPlacedSix_14 rfl ?_
  exact hend ((bI_f (by simp only [tg_pl6, decide_eq_true_eq, decide_eq_false_iff_not] at *; first | (simp_all; done) | (simp [*]; done) | (have hz := (dr_neg hbits).mp (by rw [← ex_1]; exact h35); simp [hz])))) dX6_isPlacedSix_15
theorem dX6_faultFromInside_0 : decode cX6_faultFromInside 0 = .ok (.aload_n 0, 1) := by decide +kernel
theorem dX6_faultFromInside_1 : decode cX6_faultFromInside 1 = .ok (.invokestatic 9, 3) := by decide +kernel
theorem dX6_faultFromInside_4 : decode cX6_faultFromInside 4 = .ok (.ifCond .ne 6, 3) := by decide +kernel
theorem dX6_faultFromInside_7 : decode cX6_faultFromInside 7 = .ok (.bipush 10, 2) := by decide +kernel
theorem dX6_faultFromInside_9 : decode cX6_faultFromInside 9 = .ok (.ireturn, 1) := by decide +kernel
theorem dX6_faultFromInside_10 : decode cX6_faultFromInside 10 = .ok (.aload_n 0, 1) := by decide +kernel
theorem dX6_faultFromInside_11 : decode cX6_faultFromInside 11 = .ok (.invokestatic 15, 3) := by decide +kernel
theorem dX6_faultFromInside_14 : decode cX6_faultFromInside 14 = .ok (.ifCond .ne 6, 3) := by decide +kernel
theorem dX6_faultFromInside_17 : decode cX6_faultFromInside 17 = .ok (.bipush 11, 2) := by decide +kernel
theorem dX6_faultFromInside_19 : decode cX6_faultFromInside 19 = .ok (.ireturn, 1) := by decide +kernel
theorem dX6_faultFromInside_20 : decode cX6_faultFromInside 20 = .ok (.aload_n 0, 1) := by decide +kernel
theorem dX6_faultFromInside_21 : decode cX6_faultFromInside 21 = .ok (.bipush 40, 2) := by decide +kernel
theorem dX6_faultFromInside_23 : decode cX6_faultFromInside 23 = .ok (.invokestatic 18, 3) := by decide +kernel
theorem dX6_faultFromInside_26 : decode cX6_faultFromInside 26 = .ok (.ifCond .ne 6, 3) := by decide +kernel
theorem dX6_faultFromInside_29 : decode cX6_faultFromInside 29 = .ok (.bipush 12, 2) := by decide +kernel
theorem dX6_faultFromInside_31 : decode cX6_faultFromInside 31 = .ok (.ireturn, 1) := by decide +kernel
theorem dX6_faultFromInside_32 : decode cX6_faultFromInside 32 = .ok (.aload_n 0, 1) := by decide +kernel
theorem dX6_faultFromInside_33 : decode cX6_faultFromInside 33 = .ok (.bipush 7, 2) := by decide +kernel
theorem dX6_faultFromInside_35 : decode cX6_faultFromInside 35 = .ok (.invokevirtual 24, 3) := by decide +kernel
theorem dX6_faultFromInside_38 : decode cX6_faultFromInside 38 = .ok (.iconst 2, 1) := by decide +kernel
theorem dX6_faultFromInside_39 : decode cX6_faultFromInside 39 = .ok (.if_icmp .ge 6, 3) := by decide +kernel
theorem dX6_faultFromInside_42 : decode cX6_faultFromInside 42 = .ok (.bipush 13, 2) := by decide +kernel
theorem dX6_faultFromInside_44 : decode cX6_faultFromInside 44 = .ok (.ireturn, 1) := by decide +kernel
theorem dX6_faultFromInside_45 : decode cX6_faultFromInside 45 = .ok (.aload_n 0, 1) := by decide +kernel
theorem dX6_faultFromInside_46 : decode cX6_faultFromInside 46 = .ok (.aload_n 1, 1) := by decide +kernel
theorem dX6_faultFromInside_47 : decode cX6_faultFromInside 47 = .ok (.aload_n 2, 1) := by decide +kernel
theorem dX6_faultFromInside_48 : decode cX6_faultFromInside 48 = .ok (.invokestatic 30, 3) := by decide +kernel
theorem dX6_faultFromInside_51 : decode cX6_faultFromInside 51 = .ok (.ifCond .eq 7, 3) := by decide +kernel
theorem dX6_faultFromInside_54 : decode cX6_faultFromInside 54 = .ok (.iconst 0, 1) := by decide +kernel
theorem dX6_faultFromInside_55 : decode cX6_faultFromInside 55 = .ok (.goto 5, 3) := by decide +kernel
theorem dX6_faultFromInside_58 : decode cX6_faultFromInside 58 = .ok (.bipush 14, 2) := by decide +kernel
theorem dX6_faultFromInside_60 : decode cX6_faultFromInside 60 = .ok (.ireturn, 1) := by decide +kernel
theorem yv_X6_faultFromInside : YS yX6_faultFromInside cX6_faultFromInside 3 (some .int) 3 := ⟨kw2_8, kw1_11, kw2_9, by decide +kernel⟩
set_option maxHeartbeats 4000000 in
set_option maxRecDepth 100000 in
theorem c_X6_faultFromInside {l : Launch} {D : va_G} {cy : Nat → ClassId} {ws : va_W} {b n : Nat} {f : Nat → UInt8} (hB : PK cy ws b f n) {st bits F G : Nat} (hST : STP ws st bits F G) {po u : Nat} {g : Nat → Int32} (hPL : PLP cy ws po g u) : RO l yX6_faultFromInside cX6_faultFromInside 3 (some .int) 4 96 [.ref b, .ref st, .ref po] D cy ws (.int (nI (tg_in (tg_rd f n) n bits F G u))) := by
  refine ROi (by decide) (lv0 := [(0, .ref b), (1, .ref st), (2, .ref po)]) rfl (Nat.le_of_ble_eq_true rfl) ?_
  intro p e s m args below meth c ls Q S hP hK hend hl
  have hx := S.1
  have hb := S.2.1
  have hown : s.vm.findClass RX6 = some m.cls := S.2.2.2.1
  have ht : ∀ w ∈ lw_g, w.before args s = true := fun w h => S.2.2.2.2 w (List.mem_cons_of_mem _ h)
  obtain ⟨kb, ka, ar, N, hb0, ha0, hnN, hN⟩ := id hB
  refine lv_aload_n hx hb dX6_faultFromInside_0 rfl (lv_at hl 0 rfl) ?_
  refine ro_S S (c_X6_isFramedSix hB) kw2_10 yv_X6_isFramedSix ⟨Nat.le_of_ble_eq_true rfl, Nat.le_of_ble_eq_true rfl⟩ hK hP rfl hl.1 rfl (Nat.le_of_ble_eq_true rfl) dX6_faultFromInside_1 ⟨Nat.le_refl _, Nat.le_refl _⟩ ?_
  refine nv_if_neb (tgt := 10) hx hb dX6_faultFromInside_4 (by decide) (fun h4 => ?_) (fun h4 => ?_)
  · skip
    have hn40 : 40 ≤ n := by have := h4; simp only [tg_fr6, decide_eq_true_eq] at this; omega
    refine lv_aload_n hx hb dX6_faultFromInside_10 rfl (lv_at hl 0 rfl) ?_
    refine ro_S S (c_X6_isKnownSix hB (by omega)) kw2_26 yv_X6_isKnownSix ⟨Nat.le_of_ble_eq_true rfl, Nat.le_of_ble_eq_true rfl⟩ hK hP rfl hl.1 rfl (Nat.le_of_ble_eq_true rfl) dX6_faultFromInside_11 ⟨Nat.le_refl _, Nat.le_refl _⟩ ?_
    refine nv_if_neb (tgt := 20) hx hb dX6_faultFromInside_14 (by decide) (fun h14 => ?_) (fun h14 => ?_)
    · skip
      refine lv_aload_n hx hb dX6_faultFromInside_20 rfl (lv_at hl 0 rfl) ?_
      refine nv_bipush (k := 40) hx hb dX6_faultFromInside_21 (by decide) ?_
      refine ro_S S (c_X9_partIsRight hB (hd := 40) (by omega) (by omega)) kw2_44 yv_X9_partIsRight ⟨Nat.le_of_ble_eq_true rfl, Nat.le_of_ble_eq_true rfl⟩ hK hP rfl hl.1 rfl (Nat.le_of_ble_eq_true rfl) dX6_faultFromInside_23 ⟨Nat.le_refl _, Nat.le_refl _⟩ ?_
      refine nv_if_neb (tgt := 32) hx hb dX6_faultFromInside_26 (by decide) (fun h26 => ?_) (fun h26 => ?_)
      · skip
        refine lv_aload_n hx hb dX6_faultFromInside_32 rfl (lv_at hl 0 rfl) ?_
        refine nv_bipush (k := 7) hx hb dX6_faultFromInside_33 (by decide) ?_
        refine ro_V S (c_X1_octet hB (k := 7) (by omega)) kw2_14 yv_X1_octet ⟨Nat.le_of_ble_eq_true rfl, Nat.le_of_ble_eq_true rfl⟩ hK hP (va_recv hK hP (ci := 2) (q0 := kb) rfl hb0) rfl hl.1 rfl (Nat.le_of_ble_eq_true rfl) dX6_faultFromInside_35 ⟨Nat.le_refl _, Nat.le_refl _⟩ ?_
        have hq35 := tg_rd_lt f n 7
        refine nv_iconst (k := 2) hx hb dX6_faultFromInside_38 rfl ?_
        refine nv_icmp_ge (tgt := 45) hx hb dX6_faultFromInside_39 (by decide) (by omega) (by omega) (fun h39 => ?_) (fun h39 => ?_)
        · skip
          refine lv_aload_n hx hb dX6_faultFromInside_45 rfl (lv_at hl 0 rfl) ?_
          refine lv_aload_n hx hb dX6_faultFromInside_46 rfl (lv_at hl 1 rfl) ?_
          refine lv_aload_n hx hb dX6_faultFromInside_47 rfl (lv_at hl 2 rfl) ?_
          refine ro_S S (c_X6_isPlacedSix hB hST hPL) kw2_66 yv_X6_isPlacedSix ⟨Nat.le_of_ble_eq_true rfl, Nat.le_of_ble_eq_true rfl⟩ hK hP rfl hl.1 rfl (Nat.le_of_ble_eq_true rfl) dX6_faultFromInside_48 ⟨Nat.le_refl _, Nat.le_refl _⟩ ?_
          refine nv_if_eqb (tgt := 58) hx hb dX6_faultFromInside_51 (by decide) (fun h51 => ?_) (fun h51 => ?_)
          · skip
            refine nv_bipush (k := 14) hx hb dX6_faultFromInside_58 (by decide) ?_
            exact hend ((congrArg nI (by simp only [tg_in]; simp_all <;> omega))) dX6_faultFromInside_60
          refine nv_iconst (k := 0) hx hb dX6_faultFromInside_54 rfl ?_
          refine lv_goto (tgt := 60) hx hb dX6_faultFromInside_55 (by decide) ?_
          exact hend ((congrArg nI (by simp only [tg_in]; simp_all <;> omega))) dX6_faultFromInside_60
        refine nv_bipush (k := 13) hx hb dX6_faultFromInside_42 (by decide) ?_
        exact hend ((congrArg nI (by simp only [tg_in]; simp_all <;> omega))) dX6_faultFromInside_44
      refine nv_bipush (k := 12) hx hb dX6_faultFromInside_29 (by decide) ?_
      exact hend ((congrArg nI (by simp only [tg_in]; simp_all <;> omega))) dX6_faultFromInside_31
    refine nv_bipush (k := 11) hx hb dX6_faultFromInside_17 (by decide) ?_
    exact hend ((congrArg nI (by simp only [tg_in]; simp_all <;> omega))) dX6_faultFromInside_19
  refine nv_bipush (k := 10) hx hb dX6_faultFromInside_7 (by decide) ?_
  exact hend ((congrArg nI (by simp only [tg_in]; simp_all <;> omega))) dX6_faultFromInside_9
theorem dX6_isFramedFour_0 : decode cX6_isFramedFour 0 = .ok (.aload_n 0, 1) := by decide +kernel
theorem dX6_isFramedFour_1 : decode cX6_isFramedFour 1 = .ok (.invokevirtual 46, 3) := by decide +kernel
theorem dX6_isFramedFour_4 : decode cX6_isFramedFour 4 = .ok (.istore_n 1, 1) := by decide +kernel
theorem dX6_isFramedFour_5 : decode cX6_isFramedFour 5 = .ok (.iload_n 1, 1) := by decide +kernel
theorem dX6_isFramedFour_6 : decode cX6_isFramedFour 6 = .ok (.bipush 20, 2) := by decide +kernel
theorem dX6_isFramedFour_8 : decode cX6_isFramedFour 8 = .ok (.if_icmp .lt 26, 3) := by decide +kernel
theorem dX6_isFramedFour_11 : decode cX6_isFramedFour 11 = .ok (.aload_n 0, 1) := by decide +kernel
theorem dX6_isFramedFour_12 : decode cX6_isFramedFour 12 = .ok (.iconst 0, 1) := by decide +kernel
theorem dX6_isFramedFour_13 : decode cX6_isFramedFour 13 = .ok (.invokevirtual 24, 3) := by decide +kernel
theorem dX6_isFramedFour_16 : decode cX6_isFramedFour 16 = .ok (.bipush 69, 2) := by decide +kernel
theorem dX6_isFramedFour_18 : decode cX6_isFramedFour 18 = .ok (.if_icmp .ne 16, 3) := by decide +kernel
theorem dX6_isFramedFour_21 : decode cX6_isFramedFour 21 = .ok (.aload_n 0, 1) := by decide +kernel
theorem dX6_isFramedFour_22 : decode cX6_isFramedFour 22 = .ok (.iconst 2, 1) := by decide +kernel
theorem dX6_isFramedFour_23 : decode cX6_isFramedFour 23 = .ok (.invokevirtual 50, 3) := by decide +kernel
theorem dX6_isFramedFour_26 : decode cX6_isFramedFour 26 = .ok (.iload_n 1, 1) := by decide +kernel
theorem dX6_isFramedFour_27 : decode cX6_isFramedFour 27 = .ok (.if_icmp .ne 7, 3) := by decide +kernel
theorem dX6_isFramedFour_30 : decode cX6_isFramedFour 30 = .ok (.iconst 1, 1) := by decide +kernel
theorem dX6_isFramedFour_31 : decode cX6_isFramedFour 31 = .ok (.goto 4, 3) := by decide +kernel
theorem dX6_isFramedFour_34 : decode cX6_isFramedFour 34 = .ok (.iconst 0, 1) := by decide +kernel
theorem dX6_isFramedFour_35 : decode cX6_isFramedFour 35 = .ok (.ireturn, 1) := by decide +kernel
theorem yv_X6_isFramedFour : YS yX6_isFramedFour cX6_isFramedFour 2 (some .boolean) 1 := ⟨kw3_162, kw1_11, kw3_163, by decide +kernel⟩
set_option maxHeartbeats 4000000 in
set_option maxRecDepth 100000 in
theorem c_X6_isFramedFour {l : Launch} {D : va_G} {cy : Nat → ClassId} {ws : va_W} {b n : Nat} {f : Nat → UInt8} (hB : PK cy ws b f n) : RO l yX6_isFramedFour cX6_isFramedFour 2 (some .boolean) 2 47 [.ref b] D cy ws (.int (bI (tg_fr4 (tg_rd f n) n))) := by
  refine ROz (by decide) (lv0 := [(0, .ref b)]) rfl (Nat.le_of_ble_eq_true rfl) ?_
  intro p e s m args below meth c ls Q S hP hK hend hl
  have hx := S.1
  have hb := S.2.1
  have hown : s.vm.findClass RX6 = some m.cls := S.2.2.2.1
  have ht : ∀ w ∈ lw_g, w.before args s = true := fun w h => S.2.2.2.2 w (List.mem_cons_of_mem _ h)
  obtain ⟨kb, ka, ar, N, hb0, ha0, hnN, hN⟩ := id hB
  refine lv_aload_n hx hb dX6_isFramedFour_0 rfl (lv_at hl 0 rfl) ?_
  refine ro_V S (c_X1_length hB) kw2_13 yv_X1_length ⟨Nat.le_of_ble_eq_true rfl, Nat.le_of_ble_eq_true rfl⟩ hK hP (va_recv hK hP (ci := 2) (q0 := kb) rfl hb0) rfl hl.1 rfl (Nat.le_of_ble_eq_true rfl) dX6_isFramedFour_1 ⟨Nat.le_refl _, Nat.le_refl _⟩ ?_
  refine lv_istore_n (lv' := [(1, .int (nI n)), (0, .ref b)]) hx hb dX6_isFramedFour_4 rfl hl (by decide) rfl (fun ls hl => ?_)
  refine lv_iload_n hx hb dX6_isFramedFour_5 rfl (lv_at hl 0 rfl) ?_
  refine nv_bipush (k := 20) hx hb dX6_isFramedFour_6 (by decide) ?_
  refine nv_icmp_lt (tgt := 34) hx hb dX6_isFramedFour_8 (by decide) (by omega) (by omega) (fun h8 => ?_) (fun h8 => ?_)
  · skip
    refine nv_iconst (k := 0) hx hb dX6_isFramedFour_34 rfl ?_
    exact hend ((bI_f (by simp only [tg_fr4]; exact decide_eq_false (by omega)))) dX6_isFramedFour_35
  refine lv_aload_n hx hb dX6_isFramedFour_11 rfl (lv_at hl 1 rfl) ?_
  refine nv_iconst (k := 0) hx hb dX6_isFramedFour_12 rfl ?_
  refine ro_V S (c_X1_octet hB (k := 0) (by omega)) kw2_14 yv_X1_octet ⟨Nat.le_of_ble_eq_true rfl, Nat.le_of_ble_eq_true rfl⟩ hK hP (va_recv hK hP (ci := 2) (q0 := kb) rfl hb0) rfl hl.1 rfl (Nat.le_of_ble_eq_true rfl) dX6_isFramedFour_13 ⟨Nat.le_refl _, Nat.le_refl _⟩ ?_
  have hq13 := tg_rd_lt f n 0
  refine nv_bipush (k := 69) hx hb dX6_isFramedFour_16 (by decide) ?_
  refine nv_icmp_ne (tgt := 34) hx hb dX6_isFramedFour_18 (by decide) (by omega) (by omega) (fun h18 => ?_) (fun h18 => ?_)
  · skip
    refine nv_iconst (k := 0) hx hb dX6_isFramedFour_34 rfl ?_
    exact hend ((bI_f (by simp only [tg_fr4]; exact decide_eq_false (by omega)))) dX6_isFramedFour_35
  refine lv_aload_n hx hb dX6_isFramedFour_21 rfl (lv_at hl 1 rfl) ?_
  refine nv_iconst (k := 2) hx hb dX6_isFramedFour_22 rfl ?_
  refine ro_V S (c_X1_pair hB (a := 2) (by omega)) kw2_18 yv_X1_pair ⟨Nat.le_of_ble_eq_true rfl, Nat.le_of_ble_eq_true rfl⟩ hK hP (va_recv hK hP (ci := 2) (q0 := kb) rfl hb0) rfl hl.1 rfl (Nat.le_of_ble_eq_true rfl) dX6_isFramedFour_23 ⟨Nat.le_refl _, Nat.le_refl _⟩ ?_
  have hq23 := tg_pr_lt f n 2
  refine lv_iload_n hx hb dX6_isFramedFour_26 rfl (lv_at hl 0 rfl) ?_
  refine nv_icmp_ne (tgt := 34) hx hb dX6_isFramedFour_27 (by decide) (by omega) (by omega) (fun h27 => ?_) (fun h27 => ?_)
  · skip
    refine nv_iconst (k := 0) hx hb dX6_isFramedFour_34 rfl ?_
    exact hend ((bI_f (by simp only [tg_fr4]; exact decide_eq_false (by omega)))) dX6_isFramedFour_35
  refine nv_iconst (k := 1) hx hb dX6_isFramedFour_30 rfl ?_
  refine lv_goto (tgt := 35) hx hb dX6_isFramedFour_31 (by decide) ?_
  exact hend ((bI_t (by simp only [tg_fr4]; exact decide_eq_true (by omega)))) dX6_isFramedFour_35
theorem dX6_hasKnownWithin_0 : decode cX6_hasKnownWithin 0 = .ok (.aload_n 0, 1) := by decide +kernel
theorem dX6_hasKnownWithin_1 : decode cX6_hasKnownWithin 1 = .ok (.invokevirtual 46, 3) := by decide +kernel
theorem dX6_hasKnownWithin_4 : decode cX6_hasKnownWithin 4 = .ok (.bipush 56, 2) := by decide +kernel
theorem dX6_hasKnownWithin_6 : decode cX6_hasKnownWithin 6 = .ok (.if_icmp .lt 7, 3) := by decide +kernel
theorem dX6_hasKnownWithin_9 : decode cX6_hasKnownWithin 9 = .ok (.iconst 1, 1) := by decide +kernel
theorem dX6_hasKnownWithin_10 : decode cX6_hasKnownWithin 10 = .ok (.goto 4, 3) := by decide +kernel
theorem dX6_hasKnownWithin_13 : decode cX6_hasKnownWithin 13 = .ok (.iconst 0, 1) := by decide +kernel
theorem dX6_hasKnownWithin_14 : decode cX6_hasKnownWithin 14 = .ok (.istore_n 1, 1) := by decide +kernel
theorem dX6_hasKnownWithin_15 : decode cX6_hasKnownWithin 15 = .ok (.iload_n 1, 1) := by decide +kernel
theorem dX6_hasKnownWithin_16 : decode cX6_hasKnownWithin 16 = .ok (.ifCond .eq 14, 3) := by decide +kernel
theorem dX6_hasKnownWithin_19 : decode cX6_hasKnownWithin 19 = .ok (.aload_n 0, 1) := by decide +kernel
theorem dX6_hasKnownWithin_20 : decode cX6_hasKnownWithin 20 = .ok (.bipush 28, 2) := by decide +kernel
theorem dX6_hasKnownWithin_22 : decode cX6_hasKnownWithin 22 = .ok (.invokevirtual 24, 3) := by decide +kernel
theorem dX6_hasKnownWithin_25 : decode cX6_hasKnownWithin 25 = .ok (.bipush 69, 2) := by decide +kernel
theorem dX6_hasKnownWithin_27 : decode cX6_hasKnownWithin 27 = .ok (.if_icmp .eq 5, 3) := by decide +kernel
theorem dX6_hasKnownWithin_30 : decode cX6_hasKnownWithin 30 = .ok (.iconst 0, 1) := by decide +kernel
theorem dX6_hasKnownWithin_31 : decode cX6_hasKnownWithin 31 = .ok (.ireturn, 1) := by decide +kernel
theorem dX6_hasKnownWithin_32 : decode cX6_hasKnownWithin 32 = .ok (.aload_n 0, 1) := by decide +kernel
theorem dX6_hasKnownWithin_33 : decode cX6_hasKnownWithin 33 = .ok (.bipush 37, 2) := by decide +kernel
theorem dX6_hasKnownWithin_35 : decode cX6_hasKnownWithin 35 = .ok (.invokevirtual 24, 3) := by decide +kernel
theorem dX6_hasKnownWithin_38 : decode cX6_hasKnownWithin 38 = .ok (.istore_n 2, 1) := by decide +kernel
theorem dX6_hasKnownWithin_39 : decode cX6_hasKnownWithin 39 = .ok (.iload_n 2, 1) := by decide +kernel
theorem dX6_hasKnownWithin_40 : decode cX6_hasKnownWithin 40 = .ok (.iconst 1, 1) := by decide +kernel
theorem dX6_hasKnownWithin_41 : decode cX6_hasKnownWithin 41 = .ok (.if_icmp .ne 20, 3) := by decide +kernel
theorem dX6_hasKnownWithin_44 : decode cX6_hasKnownWithin 44 = .ok (.aload_n 0, 1) := by decide +kernel
theorem dX6_hasKnownWithin_45 : decode cX6_hasKnownWithin 45 = .ok (.bipush 48, 2) := by decide +kernel
theorem dX6_hasKnownWithin_47 : decode cX6_hasKnownWithin 47 = .ok (.invokevirtual 24, 3) := by decide +kernel
theorem dX6_hasKnownWithin_50 : decode cX6_hasKnownWithin 50 = .ok (.bipush 8, 2) := by decide +kernel
theorem dX6_hasKnownWithin_52 : decode cX6_hasKnownWithin 52 = .ok (.if_icmp .ne 7, 3) := by decide +kernel
theorem dX6_hasKnownWithin_55 : decode cX6_hasKnownWithin 55 = .ok (.iconst 1, 1) := by decide +kernel
theorem dX6_hasKnownWithin_56 : decode cX6_hasKnownWithin 56 = .ok (.goto 4, 3) := by decide +kernel
theorem dX6_hasKnownWithin_59 : decode cX6_hasKnownWithin 59 = .ok (.iconst 0, 1) := by decide +kernel
theorem dX6_hasKnownWithin_60 : decode cX6_hasKnownWithin 60 = .ok (.ireturn, 1) := by decide +kernel
theorem dX6_hasKnownWithin_61 : decode cX6_hasKnownWithin 61 = .ok (.iload_n 2, 1) := by decide +kernel
theorem dX6_hasKnownWithin_62 : decode cX6_hasKnownWithin 62 = .ok (.invokestatic 100, 3) := by decide +kernel
theorem dX6_hasKnownWithin_65 : decode cX6_hasKnownWithin 65 = .ok (.ireturn, 1) := by decide +kernel
theorem yv_X6_hasKnownWithin : YS yX6_hasKnownWithin cX6_hasKnownWithin 3 (some .boolean) 1 := ⟨kw3_175, kw1_11, kw3_176, by decide +kernel⟩
set_option maxHeartbeats 4000000 in
set_option maxRecDepth 100000 in
theorem c_X6_hasKnownWithin {l : Launch} {D : va_G} {cy : Nat → ClassId} {ws : va_W} {b n : Nat} {f : Nat → UInt8} (hB : PK cy ws b f n) : RO l yX6_hasKnownWithin cX6_hasKnownWithin 3 (some .boolean) 1 21 [.ref b] D cy ws (.int (bI (tg_within (tg_rd f n) n))) := by
  refine ROz (by decide) (lv0 := [(0, .ref b)]) rfl (Nat.le_of_ble_eq_true rfl) ?_
  intro p e s m args below meth c ls Q S hP hK hend hl
  have hx := S.1
  have hb := S.2.1
  have hown : s.vm.findClass RX6 = some m.cls := S.2.2.2.1
  have ht : ∀ w ∈ lw_g, w.before args s = true := fun w h => S.2.2.2.2 w (List.mem_cons_of_mem _ h)
  obtain ⟨kb, ka, ar, N, hb0, ha0, hnN, hN⟩ := id hB
  refine lv_aload_n hx hb dX6_hasKnownWithin_0 rfl (lv_at hl 0 rfl) ?_
  refine ro_V S (c_X1_length hB) kw2_13 yv_X1_length ⟨Nat.le_of_ble_eq_true rfl, Nat.le_of_ble_eq_true rfl⟩ hK hP (va_recv hK hP (ci := 2) (q0 := kb) rfl hb0) rfl hl.1 rfl (Nat.le_of_ble_eq_true rfl) dX6_hasKnownWithin_1 ⟨Nat.le_refl _, Nat.le_refl _⟩ ?_
  refine nv_bipush (k := 56) hx hb dX6_hasKnownWithin_4 (by decide) ?_
  refine nv_icmp_lt (tgt := 13) hx hb dX6_hasKnownWithin_6 (by decide) (by omega) (by omega) (fun h6 => ?_) (fun h6 => ?_)
  · skip
    refine nv_iconst (k := 0) hx hb dX6_hasKnownWithin_13 rfl ?_
    refine lv_istore_n (lv' := [(1, .int (nI 0)), (0, .ref b)]) hx hb dX6_hasKnownWithin_14 rfl hl (by decide) rfl (fun ls hl => ?_)
    refine lv_iload_n hx hb dX6_hasKnownWithin_15 rfl (lv_at hl 0 rfl) ?_
    refine nv_if_eq (tgt := 30) hx hb dX6_hasKnownWithin_16 (by decide) (by omega) (fun _ => ?_) (fun h => absurd h (by decide))
    refine nv_iconst (k := 0) hx hb dX6_hasKnownWithin_30 rfl ?_
    exact hend ((bI_f (by simp only [tg_within]; exact decide_eq_false (by omega)))) dX6_hasKnownWithin_31
  refine nv_iconst (k := 1) hx hb dX6_hasKnownWithin_9 rfl ?_
  refine lv_goto (tgt := 14) hx hb dX6_hasKnownWithin_10 (by decide) ?_
  refine lv_istore_n (lv' := [(1, .int (nI 1)), (0, .ref b)]) hx hb dX6_hasKnownWithin_14 rfl hl (by decide) rfl (fun ls hl => ?_)
  refine lv_iload_n hx hb dX6_hasKnownWithin_15 rfl (lv_at hl 0 rfl) ?_
  refine nv_if_eq (tgt := 30) hx hb dX6_hasKnownWithin_16 (by decide) (by omega) (fun h => absurd h (by decide)) (fun _ => ?_)
  refine lv_aload_n hx hb dX6_hasKnownWithin_19 rfl (lv_at hl 1 rfl) ?_
  refine nv_bipush (k := 28) hx hb dX6_hasKnownWithin_20 (by decide) ?_
  refine ro_V S (c_X1_octet hB (k := 28) (by omega)) kw2_14 yv_X1_octet ⟨Nat.le_of_ble_eq_true rfl, Nat.le_of_ble_eq_true rfl⟩ hK hP (va_recv hK hP (ci := 2) (q0 := kb) rfl hb0) rfl hl.1 rfl (Nat.le_of_ble_eq_true rfl) dX6_hasKnownWithin_22 ⟨Nat.le_refl _, Nat.le_refl _⟩ ?_
  have hq22 := tg_rd_lt f n 28
  refine nv_bipush (k := 69) hx hb dX6_hasKnownWithin_25 (by decide) ?_
  refine nv_icmp_eq (tgt := 32) hx hb dX6_hasKnownWithin_27 (by decide) (by omega) (by omega) (fun h27 => ?_) (fun h27 => ?_)
  · skip
    refine lv_aload_n hx hb dX6_hasKnownWithin_32 rfl (lv_at hl 1 rfl) ?_
    refine nv_bipush (k := 37) hx hb dX6_hasKnownWithin_33 (by decide) ?_
    refine ro_V S (c_X1_octet hB (k := 37) (by omega)) kw2_14 yv_X1_octet ⟨Nat.le_of_ble_eq_true rfl, Nat.le_of_ble_eq_true rfl⟩ hK hP (va_recv hK hP (ci := 2) (q0 := kb) rfl hb0) rfl hl.1 rfl (Nat.le_of_ble_eq_true rfl) dX6_hasKnownWithin_35 ⟨Nat.le_refl _, Nat.le_refl _⟩ ?_
    have hq35 := tg_rd_lt f n 37
    refine lv_istore_n (lv' := [(2, .int (nI (tg_rd f n 37))), (1, .int (nI 1)), (0, .ref b)]) hx hb dX6_hasKnownWithin_38 rfl hl (by decide) rfl (fun ls hl => ?_)
    refine lv_iload_n hx hb dX6_hasKnownWithin_39 rfl (lv_at hl 0 rfl) ?_
    refine nv_iconst (k := 1) hx hb dX6_hasKnownWithin_40 rfl ?_
    refine nv_icmp_ne (tgt := 61) hx hb dX6_hasKnownWithin_41 (by decide) (by omega) (by omega) (fun h41 => ?_) (fun h41 => ?_)
    · skip
      refine lv_iload_n hx hb dX6_hasKnownWithin_61 rfl (lv_at hl 0 rfl) ?_
      refine ro_S S (c_X4_hasPorts (q := tg_rd f n 37) (by omega)) kw3_177 yv_X4_hasPorts ⟨Nat.le_of_ble_eq_true rfl, Nat.le_of_ble_eq_true rfl⟩ hK hP rfl hl.1 rfl (Nat.le_of_ble_eq_true rfl) dX6_hasKnownWithin_62 ⟨Nat.le_refl _, Nat.le_refl _⟩ ?_
      exact hend ((congrArg bI (by simp only [tg_within, tg_ports]; congr 1; apply propext; constructor <;> intro hz <;> omega))) dX6_hasKnownWithin_65
    refine lv_aload_n hx hb dX6_hasKnownWithin_44 rfl (lv_at hl 2 rfl) ?_
    refine nv_bipush (k := 48) hx hb dX6_hasKnownWithin_45 (by decide) ?_
    refine ro_V S (c_X1_octet hB (k := 48) (by omega)) kw2_14 yv_X1_octet ⟨Nat.le_of_ble_eq_true rfl, Nat.le_of_ble_eq_true rfl⟩ hK hP (va_recv hK hP (ci := 2) (q0 := kb) rfl hb0) rfl hl.1 rfl (Nat.le_of_ble_eq_true rfl) dX6_hasKnownWithin_47 ⟨Nat.le_refl _, Nat.le_refl _⟩ ?_
    have hq47 := tg_rd_lt f n 48
    refine nv_bipush (k := 8) hx hb dX6_hasKnownWithin_50 (by decide) ?_
    refine nv_icmp_ne (tgt := 59) hx hb dX6_hasKnownWithin_52 (by decide) (by omega) (by omega) (fun h52 => ?_) (fun h52 => ?_)
    · skip
      refine nv_iconst (k := 0) hx hb dX6_hasKnownWithin_59 rfl ?_
      exact hend ((bI_f (by simp only [tg_within]; exact decide_eq_false (by omega)))) dX6_hasKnownWithin_60
    refine nv_iconst (k := 1) hx hb dX6_hasKnownWithin_55 rfl ?_
    refine lv_goto (tgt := 60) hx hb dX6_hasKnownWithin_56 (by decide) ?_
    exact hend ((bI_t (by simp only [tg_within]; exact decide_eq_true (by omega)))) dX6_hasKnownWithin_60
  refine nv_iconst (k := 0) hx hb dX6_hasKnownWithin_30 rfl ?_
  exact hend ((bI_f (by simp only [tg_within]; exact decide_eq_false (by omega)))) dX6_hasKnownWithin_31
theorem dX6_isKnownIcmpFour_0 : decode cX6_isKnownIcmpFour 0 = .ok (.aload_n 0, 1) := by decide +kernel
theorem dX6_isKnownIcmpFour_1 : decode cX6_isKnownIcmpFour 1 = .ok (.bipush 20, 2) := by decide +kernel
theorem dX6_isKnownIcmpFour_3 : decode cX6_isKnownIcmpFour 3 = .ok (.invokestatic 64, 3) := by decide +kernel
theorem dX6_isKnownIcmpFour_6 : decode cX6_isKnownIcmpFour 6 = .ok (.ifCond .ne 5, 3) := by decide +kernel
theorem dX6_isKnownIcmpFour_9 : decode cX6_isKnownIcmpFour 9 = .ok (.iconst 0, 1) := by decide +kernel
theorem dX6_isKnownIcmpFour_10 : decode cX6_isKnownIcmpFour 10 = .ok (.ireturn, 1) := by decide +kernel
theorem dX6_isKnownIcmpFour_11 : decode cX6_isKnownIcmpFour 11 = .ok (.aload_n 0, 1) := by decide +kernel
theorem dX6_isKnownIcmpFour_12 : decode cX6_isKnownIcmpFour 12 = .ok (.bipush 21, 2) := by decide +kernel
theorem dX6_isKnownIcmpFour_14 : decode cX6_isKnownIcmpFour 14 = .ok (.invokevirtual 24, 3) := by decide +kernel
theorem dX6_isKnownIcmpFour_17 : decode cX6_isKnownIcmpFour 17 = .ok (.istore_n 1, 1) := by decide +kernel
theorem dX6_isKnownIcmpFour_18 : decode cX6_isKnownIcmpFour 18 = .ok (.aload_n 0, 1) := by decide +kernel
theorem dX6_isKnownIcmpFour_19 : decode cX6_isKnownIcmpFour 19 = .ok (.bipush 20, 2) := by decide +kernel
theorem dX6_isKnownIcmpFour_21 : decode cX6_isKnownIcmpFour 21 = .ok (.invokevirtual 24, 3) := by decide +kernel
theorem dX6_isKnownIcmpFour_24 : decode cX6_isKnownIcmpFour 24 = .ok (.lookupswitch 94 #[(0, 44), (3, 46), (8, 44), (11, 76)], 44) := by decide +kernel
theorem dX6_isKnownIcmpFour_68 : decode cX6_isKnownIcmpFour 68 = .ok (.iconst 1, 1) := by decide +kernel
theorem dX6_isKnownIcmpFour_69 : decode cX6_isKnownIcmpFour 69 = .ok (.ireturn, 1) := by decide +kernel
theorem dX6_isKnownIcmpFour_70 : decode cX6_isKnownIcmpFour 70 = .ok (.iload_n 1, 1) := by decide +kernel
theorem dX6_isKnownIcmpFour_71 : decode cX6_isKnownIcmpFour 71 = .ok (.iconst 2, 1) := by decide +kernel
theorem dX6_isKnownIcmpFour_72 : decode cX6_isKnownIcmpFour 72 = .ok (.if_icmp .eq 26, 3) := by decide +kernel
theorem dX6_isKnownIcmpFour_75 : decode cX6_isKnownIcmpFour 75 = .ok (.iload_n 1, 1) := by decide +kernel
theorem dX6_isKnownIcmpFour_76 : decode cX6_isKnownIcmpFour 76 = .ok (.bipush 14, 2) := by decide +kernel
theorem dX6_isKnownIcmpFour_78 : decode cX6_isKnownIcmpFour 78 = .ok (.if_icmp .eq 20, 3) := by decide +kernel
theorem dX6_isKnownIcmpFour_81 : decode cX6_isKnownIcmpFour 81 = .ok (.iload_n 1, 1) := by decide +kernel
theorem dX6_isKnownIcmpFour_82 : decode cX6_isKnownIcmpFour 82 = .ok (.bipush 15, 2) := by decide +kernel
theorem dX6_isKnownIcmpFour_84 : decode cX6_isKnownIcmpFour 84 = .ok (.if_icmp .gt 14, 3) := by decide +kernel
theorem dX6_isKnownIcmpFour_87 : decode cX6_isKnownIcmpFour 87 = .ok (.aload_n 0, 1) := by decide +kernel
theorem dX6_isKnownIcmpFour_88 : decode cX6_isKnownIcmpFour 88 = .ok (.invokestatic 97, 3) := by decide +kernel
theorem dX6_isKnownIcmpFour_91 : decode cX6_isKnownIcmpFour 91 = .ok (.ifCond .eq 7, 3) := by decide +kernel
theorem dX6_isKnownIcmpFour_94 : decode cX6_isKnownIcmpFour 94 = .ok (.iconst 1, 1) := by decide +kernel
theorem dX6_isKnownIcmpFour_95 : decode cX6_isKnownIcmpFour 95 = .ok (.goto 4, 3) := by decide +kernel
theorem dX6_isKnownIcmpFour_98 : decode cX6_isKnownIcmpFour 98 = .ok (.iconst 0, 1) := by decide +kernel
theorem dX6_isKnownIcmpFour_99 : decode cX6_isKnownIcmpFour 99 = .ok (.ireturn, 1) := by decide +kernel
theorem dX6_isKnownIcmpFour_100 : decode cX6_isKnownIcmpFour 100 = .ok (.iload_n 1, 1) := by decide +kernel
theorem dX6_isKnownIcmpFour_101 : decode cX6_isKnownIcmpFour 101 = .ok (.iconst 1, 1) := by decide +kernel
theorem dX6_isKnownIcmpFour_102 : decode cX6_isKnownIcmpFour 102 = .ok (.if_icmp .gt 14, 3) := by decide +kernel
theorem dX6_isKnownIcmpFour_105 : decode cX6_isKnownIcmpFour 105 = .ok (.aload_n 0, 1) := by decide +kernel
theorem dX6_isKnownIcmpFour_106 : decode cX6_isKnownIcmpFour 106 = .ok (.invokestatic 97, 3) := by decide +kernel
theorem dX6_isKnownIcmpFour_109 : decode cX6_isKnownIcmpFour 109 = .ok (.ifCond .eq 7, 3) := by decide +kernel
theorem dX6_isKnownIcmpFour_112 : decode cX6_isKnownIcmpFour 112 = .ok (.iconst 1, 1) := by decide +kernel
theorem dX6_isKnownIcmpFour_113 : decode cX6_isKnownIcmpFour 113 = .ok (.goto 4, 3) := by decide +kernel
theorem dX6_isKnownIcmpFour_116 : decode cX6_isKnownIcmpFour 116 = .ok (.iconst 0, 1) := by decide +kernel
theorem dX6_isKnownIcmpFour_117 : decode cX6_isKnownIcmpFour 117 = .ok (.ireturn, 1) := by decide +kernel
theorem dX6_isKnownIcmpFour_118 : decode cX6_isKnownIcmpFour 118 = .ok (.iconst 0, 1) := by decide +kernel
theorem dX6_isKnownIcmpFour_119 : decode cX6_isKnownIcmpFour 119 = .ok (.ireturn, 1) := by decide +kernel
theorem yv_X6_isKnownIcmpFour : YS yX6_isKnownIcmpFour cX6_isKnownIcmpFour 2 (some .boolean) 1 := ⟨kw3_172, kw1_11, kw3_173, by decide +kernel⟩
set_option maxHeartbeats 4000000 in
set_option maxRecDepth 100000 in
theorem c_X6_isKnownIcmpFour {l : Launch} {D : va_G} {cy : Nat → ClassId} {ws : va_W} {b n : Nat} {f : Nat → UInt8} (hB : PK cy ws b f n) (hn20 : 20 ≤ n) : RO l yX6_isKnownIcmpFour cX6_isKnownIcmpFour 2 (some .boolean) 2 43 [.ref b] D cy ws (.int (bI (tg_kicmp4 (tg_rd f n) n))) := by
  refine ROz (by decide) (lv0 := [(0, .ref b)]) rfl (Nat.le_of_ble_eq_true rfl) ?_
  intro p e s m args below meth c ls Q S hP hK hend hl
  have hx := S.1
  have hb := S.2.1
  have hown : s.vm.findClass RX6 = some m.cls := S.2.2.2.1
  have ht : ∀ w ∈ lw_g, w.before args s = true := fun w h => S.2.2.2.2 w (List.mem_cons_of_mem _ h)
  obtain ⟨kb, ka, ar, N, hb0, ha0, hnN, hN⟩ := id hB
  have hr20 := tg_rd_lt f n 20
  refine lv_aload_n hx hb dX6_isKnownIcmpFour_0 rfl (lv_at hl 0 rfl) ?_
  refine nv_bipush (k := 20) hx hb dX6_isKnownIcmpFour_1 (by decide) ?_
  refine ro_S S (c_X4_isLongEnoughIcmp hB (hd := 20) (by omega) (by omega)) kw2_41 yv_X4_isLongEnoughIcmp ⟨Nat.le_of_ble_eq_true rfl, Nat.le_of_ble_eq_true rfl⟩ hK hP rfl hl.1 rfl (Nat.le_of_ble_eq_true rfl) dX6_isKnownIcmpFour_3 ⟨Nat.le_refl _, Nat.le_refl _⟩ ?_
  refine nv_if_neb (tgt := 11) hx hb dX6_isKnownIcmpFour_6 (by decide) (fun h6 => ?_) (fun h6 => ?_)
  · skip
    refine lv_aload_n hx hb dX6_isKnownIcmpFour_11 rfl (lv_at hl 0 rfl) ?_
    refine nv_bipush (k := 21) hx hb dX6_isKnownIcmpFour_12 (by decide) ?_
    refine ro_V S (c_X1_octet hB (k := 21) (by omega)) kw2_14 yv_X1_octet ⟨Nat.le_of_ble_eq_true rfl, Nat.le_of_ble_eq_true rfl⟩ hK hP (va_recv hK hP (ci := 2) (q0 := kb) rfl hb0) rfl hl.1 rfl (Nat.le_of_ble_eq_true rfl) dX6_isKnownIcmpFour_14 ⟨Nat.le_refl _, Nat.le_refl _⟩ ?_
    have hq14 := tg_rd_lt f n 21
    refine lv_istore_n (lv' := [(1, .int (nI (tg_rd f n 21))), (0, .ref b)]) hx hb dX6_isKnownIcmpFour_17 rfl hl (by decide) rfl (fun ls hl => ?_)
    refine lv_aload_n hx hb dX6_isKnownIcmpFour_18 rfl (lv_at hl 1 rfl) ?_
    refine nv_bipush (k := 20) hx hb dX6_isKnownIcmpFour_19 (by decide) ?_
    refine ro_V S (c_X1_octet hB (k := 20) (by omega)) kw2_14 yv_X1_octet ⟨Nat.le_of_ble_eq_true rfl, Nat.le_of_ble_eq_true rfl⟩ hK hP (va_recv hK hP (ci := 2) (q0 := kb) rfl hb0) rfl hl.1 rfl (Nat.le_of_ble_eq_true rfl) dX6_isKnownIcmpFour_21 ⟨Nat.le_refl _, Nat.le_refl _⟩ ?_
    have hq21 := tg_rd_lt f n 20
    by_cases hs24_0 : tg_rd f n 20 = 0
    · refine lv_lookup (off := 44) (tgt := 68) hx hb dX6_isKnownIcmpFour_24 (by decide) (by rw [hs24_0]; decide) (by decide) ?_
      refine nv_iconst (k := 1) hx hb dX6_isKnownIcmpFour_68 rfl ?_
      exact hend ((bI_t (by simp only [tg_kicmp4, tg_icmp, decide_eq_true_eq, decide_eq_false_iff_not] at *; simp_all <;> omega))) dX6_isKnownIcmpFour_69
    by_cases hs24_1 : tg_rd f n 20 = 3
    · refine lv_lookup (off := 46) (tgt := 70) hx hb dX6_isKnownIcmpFour_24 (by decide) (by rw [hs24_1]; decide) (by decide) ?_
      refine lv_iload_n hx hb dX6_isKnownIcmpFour_70 rfl (lv_at hl 0 rfl) ?_
      refine nv_iconst (k := 2) hx hb dX6_isKnownIcmpFour_71 rfl ?_
      refine nv_icmp_eq (tgt := 98) hx hb dX6_isKnownIcmpFour_72 (by decide) (by omega) (by omega) (fun h72 => ?_) (fun h72 => ?_)
      · skip
        refine nv_iconst (k := 0) hx hb dX6_isKnownIcmpFour_98 rfl ?_
        exact hend ((bI_f (by simp only [tg_kicmp4, tg_icmp, decide_eq_true_eq, decide_eq_false_iff_not] at *; simp_all <;> omega))) dX6_isKnownIcmpFour_99
      refine lv_iload_n hx hb dX6_isKnownIcmpFour_75 rfl (lv_at hl 0 rfl) ?_
      refine nv_bipush (k := 14) hx hb dX6_isKnownIcmpFour_76 (by decide) ?_
      refine nv_icmp_eq (tgt := 98) hx hb dX6_isKnownIcmpFour_78 (by decide) (by omega) (by omega) (fun h78 => ?_) (fun h78 => ?_)
      · skip
        refine nv_iconst (k := 0) hx hb dX6_isKnownIcmpFour_98 rfl ?_
        exact hend ((bI_f (by simp only [tg_kicmp4, tg_icmp, decide_eq_true_eq, decide_eq_false_iff_not] at *; simp_all <;> omega))) dX6_isKnownIcmpFour_99
      refine lv_iload_n hx hb dX6_isKnownIcmpFour_81 rfl (lv_at hl 0 rfl) ?_
      refine nv_bipush (k := 15) hx hb dX6_isKnownIcmpFour_82 (by decide) ?_
      refine nv_icmp_gt (tgt := 98) hx hb dX6_isKnownIcmpFour_84 (by decide) (by omega) (by omega) (fun h84 => ?_) (fun h84 => ?_)
      · skip
        refine nv_iconst (k := 0) hx hb dX6_isKnownIcmpFour_98 rfl ?_
        exact hend ((bI_f (by simp only [tg_kicmp4, tg_icmp, decide_eq_true_eq, decide_eq_false_iff_not] at *; simp_all <;> omega))) dX6_isKnownIcmpFour_99
      refine lv_aload_n hx hb dX6_isKnownIcmpFour_87 rfl (lv_at hl 1 rfl) ?_
      refine ro_S S (c_X6_hasKnownWithin hB) kw3_174 yv_X6_hasKnownWithin ⟨Nat.le_of_ble_eq_true rfl, Nat.le_of_ble_eq_true rfl⟩ hK hP rfl hl.1 rfl (Nat.le_of_ble_eq_true rfl) dX6_isKnownIcmpFour_88 ⟨Nat.le_refl _, Nat.le_refl _⟩ ?_
      refine nv_if_eqb (tgt := 98) hx hb dX6_isKnownIcmpFour_91 (by decide) (fun h91 => ?_) (fun h91 => ?_)
      · skip
        refine nv_iconst (k := 0) hx hb dX6_isKnownIcmpFour_98 rfl ?_
        exact hend ((bI_f (by simp only [tg_kicmp4, tg_icmp, decide_eq_true_eq, decide_eq_false_iff_not] at *; simp_all <;> omega))) dX6_isKnownIcmpFour_99
      refine nv_iconst (k := 1) hx hb dX6_isKnownIcmpFour_94 rfl ?_
      refine lv_goto (tgt := 99) hx hb dX6_isKnownIcmpFour_95 (by decide) ?_
      exact hend ((bI_t (by simp only [tg_kicmp4, tg_icmp, decide_eq_true_eq, decide_eq_false_iff_not] at *; simp_all <;> omega))) dX6_isKnownIcmpFour_99
    by_cases hs24_2 : tg_rd f n 20 = 8
    · refine lv_lookup (off := 44) (tgt := 68) hx hb dX6_isKnownIcmpFour_24 (by decide) (by rw [hs24_2]; decide) (by decide) ?_
      refine nv_iconst (k := 1) hx hb dX6_isKnownIcmpFour_68 rfl ?_
      exact hend ((bI_t (by simp only [tg_kicmp4, tg_icmp, decide_eq_true_eq, decide_eq_false_iff_not] at *; simp_all <;> omega))) dX6_isKnownIcmpFour_69
    by_cases hs24_3 : tg_rd f n 20 = 11
    · refine lv_lookup (off := 76) (tgt := 100) hx hb dX6_isKnownIcmpFour_24 (by decide) (by rw [hs24_3]; decide) (by decide) ?_
      refine lv_iload_n hx hb dX6_isKnownIcmpFour_100 rfl (lv_at hl 0 rfl) ?_
      refine nv_iconst (k := 1) hx hb dX6_isKnownIcmpFour_101 rfl ?_
      refine nv_icmp_gt (tgt := 116) hx hb dX6_isKnownIcmpFour_102 (by decide) (by omega) (by omega) (fun h102 => ?_) (fun h102 => ?_)
      · skip
        refine nv_iconst (k := 0) hx hb dX6_isKnownIcmpFour_116 rfl ?_
        exact hend ((bI_f (by simp only [tg_kicmp4, tg_icmp, decide_eq_true_eq, decide_eq_false_iff_not] at *; simp_all <;> omega))) dX6_isKnownIcmpFour_117
      refine lv_aload_n hx hb dX6_isKnownIcmpFour_105 rfl (lv_at hl 1 rfl) ?_
      refine ro_S S (c_X6_hasKnownWithin hB) kw3_174 yv_X6_hasKnownWithin ⟨Nat.le_of_ble_eq_true rfl, Nat.le_of_ble_eq_true rfl⟩ hK hP rfl hl.1 rfl (Nat.le_of_ble_eq_true rfl) dX6_isKnownIcmpFour_106 ⟨Nat.le_refl _, Nat.le_refl _⟩ ?_
      refine nv_if_eqb (tgt := 116) hx hb dX6_isKnownIcmpFour_109 (by decide) (fun h109 => ?_) (fun h109 => ?_)
      · skip
        refine nv_iconst (k := 0) hx hb dX6_isKnownIcmpFour_116 rfl ?_
        exact hend ((bI_f (by simp only [tg_kicmp4, tg_icmp, decide_eq_true_eq, decide_eq_false_iff_not] at *; simp_all <;> omega))) dX6_isKnownIcmpFour_117
      refine nv_iconst (k := 1) hx hb dX6_isKnownIcmpFour_112 rfl ?_
      refine lv_goto (tgt := 117) hx hb dX6_isKnownIcmpFour_113 (by decide) ?_
      exact hend ((bI_t (by simp only [tg_kicmp4, tg_icmp, decide_eq_true_eq, decide_eq_false_iff_not] at *; simp_all <;> omega))) dX6_isKnownIcmpFour_117
    refine lv_lookup (off := 94) (tgt := 118) hx hb dX6_isKnownIcmpFour_24 (by decide) (by rw [nI_toInt (by omega)]; exact (sw_ne (k := 0) hs24_0).trans ((sw_ne (k := 3) hs24_1).trans ((sw_ne (k := 8) hs24_2).trans ((sw_ne (k := 11) hs24_3).trans (rfl))))) (by decide) ?_
    refine nv_iconst (k := 0) hx hb dX6_isKnownIcmpFour_118 rfl ?_
    exact hend ((bI_f (by simp only [tg_kicmp4, tg_icmp, decide_eq_true_eq, decide_eq_false_iff_not] at *; simp_all <;> omega))) dX6_isKnownIcmpFour_119
  refine nv_iconst (k := 0) hx hb dX6_isKnownIcmpFour_9 rfl ?_
  exact hend ((bI_f (by simp only [tg_kicmp4, tg_icmp, decide_eq_true_eq, decide_eq_false_iff_not] at *; simp_all <;> omega))) dX6_isKnownIcmpFour_10
theorem dX6_isKnownFour_0 : decode cX6_isKnownFour 0 = .ok (.aload_n 0, 1) := by decide +kernel
theorem dX6_isKnownFour_1 : decode cX6_isKnownFour 1 = .ok (.bipush 6, 2) := by decide +kernel
theorem dX6_isKnownFour_3 : decode cX6_isKnownFour 3 = .ok (.invokevirtual 50, 3) := by decide +kernel
theorem dX6_isKnownFour_6 : decode cX6_isKnownFour 6 = .ok (.sipush 16383, 3) := by decide +kernel
theorem dX6_isKnownFour_9 : decode cX6_isKnownFour 9 = .ok (.iand, 1) := by decide +kernel
theorem dX6_isKnownFour_10 : decode cX6_isKnownFour 10 = .ok (.ifCond .eq 5, 3) := by decide +kernel
theorem dX6_isKnownFour_13 : decode cX6_isKnownFour 13 = .ok (.iconst 0, 1) := by decide +kernel
theorem dX6_isKnownFour_14 : decode cX6_isKnownFour 14 = .ok (.ireturn, 1) := by decide +kernel
theorem dX6_isKnownFour_15 : decode cX6_isKnownFour 15 = .ok (.aload_n 0, 1) := by decide +kernel
theorem dX6_isKnownFour_16 : decode cX6_isKnownFour 16 = .ok (.bipush 9, 2) := by decide +kernel
theorem dX6_isKnownFour_18 : decode cX6_isKnownFour 18 = .ok (.invokevirtual 24, 3) := by decide +kernel
theorem dX6_isKnownFour_21 : decode cX6_isKnownFour 21 = .ok (.lookupswitch 54 #[(1, 49), (6, 35), (17, 42)], 35) := by decide +kernel
theorem dX6_isKnownFour_56 : decode cX6_isKnownFour 56 = .ok (.aload_n 0, 1) := by decide +kernel
theorem dX6_isKnownFour_57 : decode cX6_isKnownFour 57 = .ok (.bipush 20, 2) := by decide +kernel
theorem dX6_isKnownFour_59 : decode cX6_isKnownFour 59 = .ok (.invokestatic 53, 3) := by decide +kernel
theorem dX6_isKnownFour_62 : decode cX6_isKnownFour 62 = .ok (.ireturn, 1) := by decide +kernel
theorem dX6_isKnownFour_63 : decode cX6_isKnownFour 63 = .ok (.aload_n 0, 1) := by decide +kernel
theorem dX6_isKnownFour_64 : decode cX6_isKnownFour 64 = .ok (.bipush 20, 2) := by decide +kernel
theorem dX6_isKnownFour_66 : decode cX6_isKnownFour 66 = .ok (.invokestatic 58, 3) := by decide +kernel
theorem dX6_isKnownFour_69 : decode cX6_isKnownFour 69 = .ok (.ireturn, 1) := by decide +kernel
theorem dX6_isKnownFour_70 : decode cX6_isKnownFour 70 = .ok (.aload_n 0, 1) := by decide +kernel
theorem dX6_isKnownFour_71 : decode cX6_isKnownFour 71 = .ok (.invokestatic 94, 3) := by decide +kernel
theorem dX6_isKnownFour_74 : decode cX6_isKnownFour 74 = .ok (.ireturn, 1) := by decide +kernel
theorem dX6_isKnownFour_75 : decode cX6_isKnownFour 75 = .ok (.iconst 0, 1) := by decide +kernel
theorem dX6_isKnownFour_76 : decode cX6_isKnownFour 76 = .ok (.ireturn, 1) := by decide +kernel
theorem yv_X6_isKnownFour : YS yX6_isKnownFour cX6_isKnownFour 1 (some .boolean) 1 := ⟨kw3_169, kw1_11, kw3_170, by decide +kernel⟩
set_option maxHeartbeats 4000000 in
set_option maxRecDepth 100000 in
theorem c_X6_isKnownFour {l : Launch} {D : va_G} {cy : Nat → ClassId} {ws : va_W} {b n : Nat} {f : Nat → UInt8} (hB : PK cy ws b f n) (hn20 : 20 ≤ n) : RO l yX6_isKnownFour cX6_isKnownFour 1 (some .boolean) 3 69 [.ref b] D cy ws (.int (bI (tg_kn4 (tg_rd f n) n))) := by
  refine ROz (by decide) (lv0 := [(0, .ref b)]) rfl (Nat.le_of_ble_eq_true rfl) ?_
  intro p e s m args below meth c ls Q S hP hK hend hl
  have hx := S.1
  have hb := S.2.1
  have hown : s.vm.findClass RX6 = some m.cls := S.2.2.2.1
  have ht : ∀ w ∈ lw_g, w.before args s = true := fun w h => S.2.2.2.2 w (List.mem_cons_of_mem _ h)
  obtain ⟨kb, ka, ar, N, hb0, ha0, hnN, hN⟩ := id hB
  have hr9 := tg_rd_lt f n 9
  refine lv_aload_n hx hb dX6_isKnownFour_0 rfl (lv_at hl 0 rfl) ?_
  refine nv_bipush (k := 6) hx hb dX6_isKnownFour_1 (by decide) ?_
  refine ro_V S (c_X1_pair hB (a := 6) (by omega)) kw2_18 yv_X1_pair ⟨Nat.le_of_ble_eq_true rfl, Nat.le_of_ble_eq_true rfl⟩ hK hP (va_recv hK hP (ci := 2) (q0 := kb) rfl hb0) rfl hl.1 rfl (Nat.le_of_ble_eq_true rfl) dX6_isKnownFour_3 ⟨Nat.le_refl _, Nat.le_refl _⟩ ?_
  have hq3 := tg_pr_lt f n 6
  refine nv_sipush (k := 16383) hx hb dX6_isKnownFour_6 (by decide) ?_
  refine nv_iand 14 hx hb (by omega) (by decide) dX6_isKnownFour_9 ?_
  refine nv_if_eq (tgt := 15) hx hb dX6_isKnownFour_10 (by decide) (by omega) (fun h10 => ?_) (fun h10 => ?_)
  · skip
    refine lv_aload_n hx hb dX6_isKnownFour_15 rfl (lv_at hl 0 rfl) ?_
    refine nv_bipush (k := 9) hx hb dX6_isKnownFour_16 (by decide) ?_
    refine ro_V S (c_X1_octet hB (k := 9) (by omega)) kw2_14 yv_X1_octet ⟨Nat.le_of_ble_eq_true rfl, Nat.le_of_ble_eq_true rfl⟩ hK hP (va_recv hK hP (ci := 2) (q0 := kb) rfl hb0) rfl hl.1 rfl (Nat.le_of_ble_eq_true rfl) dX6_isKnownFour_18 ⟨Nat.le_refl _, Nat.le_refl _⟩ ?_
    have hq18 := tg_rd_lt f n 9
    by_cases hs21_0 : tg_rd f n 9 = 1
    · refine lv_lookup (off := 49) (tgt := 70) hx hb dX6_isKnownFour_21 (by decide) (by rw [hs21_0]; decide) (by decide) ?_
      refine lv_aload_n hx hb dX6_isKnownFour_70 rfl (lv_at hl 0 rfl) ?_
      refine ro_S S (c_X6_isKnownIcmpFour hB (by omega)) kw3_171 yv_X6_isKnownIcmpFour ⟨Nat.le_of_ble_eq_true rfl, Nat.le_of_ble_eq_true rfl⟩ hK hP rfl hl.1 rfl (Nat.le_of_ble_eq_true rfl) dX6_isKnownFour_71 ⟨Nat.le_refl _, Nat.le_refl _⟩ ?_
      exact hend ((congrArg bI (by simp only [tg_kn4]; first | rw [if_neg (by omega), if_pos (by omega)] | rw [if_neg (by omega), if_neg (by omega), if_pos (by omega)] | rw [if_neg (by omega), if_neg (by omega), if_neg (by omega), if_pos (by omega)]))) dX6_isKnownFour_74
    by_cases hs21_1 : tg_rd f n 9 = 6
    · refine lv_lookup (off := 35) (tgt := 56) hx hb dX6_isKnownFour_21 (by decide) (by rw [hs21_1]; decide) (by decide) ?_
      refine lv_aload_n hx hb dX6_isKnownFour_56 rfl (lv_at hl 0 rfl) ?_
      refine nv_bipush (k := 20) hx hb dX6_isKnownFour_57 (by decide) ?_
      refine ro_S S (c_X4_isSoundTcp hB (hd := 20) (by omega) (by omega)) kw2_29 yv_X4_isSoundTcp ⟨Nat.le_of_ble_eq_true rfl, Nat.le_of_ble_eq_true rfl⟩ hK hP rfl hl.1 rfl (Nat.le_of_ble_eq_true rfl) dX6_isKnownFour_59 ⟨Nat.le_refl _, Nat.le_refl _⟩ ?_
      exact hend ((congrArg bI (by simp only [tg_kn4]; first | rw [if_neg (by omega), if_pos (by omega)] | rw [if_neg (by omega), if_neg (by omega), if_pos (by omega)] | rw [if_neg (by omega), if_neg (by omega), if_neg (by omega), if_pos (by omega)]))) dX6_isKnownFour_62
    by_cases hs21_2 : tg_rd f n 9 = 17
    · refine lv_lookup (off := 42) (tgt := 63) hx hb dX6_isKnownFour_21 (by decide) (by rw [hs21_2]; decide) (by decide) ?_
      refine lv_aload_n hx hb dX6_isKnownFour_63 rfl (lv_at hl 0 rfl) ?_
      refine nv_bipush (k := 20) hx hb dX6_isKnownFour_64 (by decide) ?_
      refine ro_S S (c_X4_isSoundUdp hB (hd := 20) (by omega) (by omega)) kw2_34 yv_X4_isSoundUdp ⟨Nat.le_of_ble_eq_true rfl, Nat.le_of_ble_eq_true rfl⟩ hK hP rfl hl.1 rfl (Nat.le_of_ble_eq_true rfl) dX6_isKnownFour_66 ⟨Nat.le_refl _, Nat.le_refl _⟩ ?_
      exact hend ((congrArg bI (by simp only [tg_kn4]; first | rw [if_neg (by omega), if_pos (by omega)] | rw [if_neg (by omega), if_neg (by omega), if_pos (by omega)] | rw [if_neg (by omega), if_neg (by omega), if_neg (by omega), if_pos (by omega)]))) dX6_isKnownFour_69
    refine lv_lookup (off := 54) (tgt := 75) hx hb dX6_isKnownFour_21 (by decide) (by rw [nI_toInt (by omega)]; exact (sw_ne (k := 1) hs21_0).trans ((sw_ne (k := 6) hs21_1).trans ((sw_ne (k := 17) hs21_2).trans (rfl)))) (by decide) ?_
    refine nv_iconst (k := 0) hx hb dX6_isKnownFour_75 rfl ?_
    exact hend ((bI_f (by simp only [tg_kn4]; first | rw [if_pos (by omega)] | rw [if_neg (by omega), if_neg (by omega), if_neg (by omega), if_neg (by omega)]))) dX6_isKnownFour_76
  refine nv_iconst (k := 0) hx hb dX6_isKnownFour_13 rfl ?_
  exact hend ((bI_f (by simp only [tg_kn4]; first | rw [if_pos (by omega)] | rw [if_neg (by omega), if_neg (by omega), if_neg (by omega), if_neg (by omega)]))) dX6_isKnownFour_14
theorem dX6_isPlacedFour_0 : decode cX6_isPlacedFour 0 = .ok (.aload_n 1, 1) := by decide +kernel
theorem dX6_isPlacedFour_1 : decode cX6_isPlacedFour 1 = .ok (.invokevirtual 67, 3) := by decide +kernel
theorem dX6_isPlacedFour_4 : decode cX6_isPlacedFour 4 = .ok (.ifCond .eq 32, 3) := by decide +kernel
theorem dX6_isPlacedFour_7 : decode cX6_isPlacedFour 7 = .ok (.aload_n 2, 1) := by decide +kernel
theorem dX6_isPlacedFour_8 : decode cX6_isPlacedFour 8 = .ok (.aload_n 0, 1) := by decide +kernel
theorem dX6_isPlacedFour_9 : decode cX6_isPlacedFour 9 = .ok (.bipush 16, 2) := by decide +kernel
theorem dX6_isPlacedFour_11 : decode cX6_isPlacedFour 11 = .ok (.invokevirtual 103, 3) := by decide +kernel
theorem dX6_isPlacedFour_14 : decode cX6_isPlacedFour 14 = .ok (.invokevirtual 106, 3) := by decide +kernel
theorem dX6_isPlacedFour_17 : decode cX6_isPlacedFour 17 = .ok (.ifCond .eq 19, 3) := by decide +kernel
theorem dX6_isPlacedFour_20 : decode cX6_isPlacedFour 20 = .ok (.aload_n 0, 1) := by decide +kernel
theorem dX6_isPlacedFour_21 : decode cX6_isPlacedFour 21 = .ok (.bipush 12, 2) := by decide +kernel
theorem dX6_isPlacedFour_23 : decode cX6_isPlacedFour 23 = .ok (.invokevirtual 103, 3) := by decide +kernel
theorem dX6_isPlacedFour_26 : decode cX6_isPlacedFour 26 = .ok (.invokestatic 86, 3) := by decide +kernel
theorem dX6_isPlacedFour_29 : decode cX6_isPlacedFour 29 = .ok (.ifCond .ne 7, 3) := by decide +kernel
theorem dX6_isPlacedFour_32 : decode cX6_isPlacedFour 32 = .ok (.iconst 1, 1) := by decide +kernel
theorem dX6_isPlacedFour_33 : decode cX6_isPlacedFour 33 = .ok (.goto 4, 3) := by decide +kernel
theorem dX6_isPlacedFour_36 : decode cX6_isPlacedFour 36 = .ok (.iconst 0, 1) := by decide +kernel
theorem dX6_isPlacedFour_37 : decode cX6_isPlacedFour 37 = .ok (.istore_n 3, 1) := by decide +kernel
theorem dX6_isPlacedFour_38 : decode cX6_isPlacedFour 38 = .ok (.iload_n 3, 1) := by decide +kernel
theorem dX6_isPlacedFour_39 : decode cX6_isPlacedFour 39 = .ok (.ifCond .eq 10, 3) := by decide +kernel
theorem dX6_isPlacedFour_42 : decode cX6_isPlacedFour 42 = .ok (.aload_n 0, 1) := by decide +kernel
theorem dX6_isPlacedFour_43 : decode cX6_isPlacedFour 43 = .ok (.invokestatic 109, 3) := by decide +kernel
theorem dX6_isPlacedFour_46 : decode cX6_isPlacedFour 46 = .ok (.ifCond .ne 5, 3) := by decide +kernel
theorem dX6_isPlacedFour_49 : decode cX6_isPlacedFour 49 = .ok (.iload_n 3, 1) := by decide +kernel
theorem dX6_isPlacedFour_50 : decode cX6_isPlacedFour 50 = .ok (.ireturn, 1) := by decide +kernel
theorem dX6_isPlacedFour_51 : decode cX6_isPlacedFour 51 = .ok (.aload_n 2, 1) := by decide +kernel
theorem dX6_isPlacedFour_52 : decode cX6_isPlacedFour 52 = .ok (.aload_n 0, 1) := by decide +kernel
theorem dX6_isPlacedFour_53 : decode cX6_isPlacedFour 53 = .ok (.bipush 40, 2) := by decide +kernel
theorem dX6_isPlacedFour_55 : decode cX6_isPlacedFour 55 = .ok (.invokevirtual 103, 3) := by decide +kernel
theorem dX6_isPlacedFour_58 : decode cX6_isPlacedFour 58 = .ok (.invokevirtual 106, 3) := by decide +kernel
theorem dX6_isPlacedFour_61 : decode cX6_isPlacedFour 61 = .ok (.ifCond .eq 19, 3) := by decide +kernel
theorem dX6_isPlacedFour_64 : decode cX6_isPlacedFour 64 = .ok (.aload_n 0, 1) := by decide +kernel
theorem dX6_isPlacedFour_65 : decode cX6_isPlacedFour 65 = .ok (.bipush 44, 2) := by decide +kernel
theorem dX6_isPlacedFour_67 : decode cX6_isPlacedFour 67 = .ok (.invokevirtual 103, 3) := by decide +kernel
theorem dX6_isPlacedFour_70 : decode cX6_isPlacedFour 70 = .ok (.invokestatic 86, 3) := by decide +kernel
theorem dX6_isPlacedFour_73 : decode cX6_isPlacedFour 73 = .ok (.ifCond .ne 7, 3) := by decide +kernel
theorem dX6_isPlacedFour_76 : decode cX6_isPlacedFour 76 = .ok (.iconst 1, 1) := by decide +kernel
theorem dX6_isPlacedFour_77 : decode cX6_isPlacedFour 77 = .ok (.goto 4, 3) := by decide +kernel
theorem dX6_isPlacedFour_80 : decode cX6_isPlacedFour 80 = .ok (.iconst 0, 1) := by decide +kernel
theorem dX6_isPlacedFour_81 : decode cX6_isPlacedFour 81 = .ok (.ireturn, 1) := by decide +kernel
theorem yv_X6_isPlacedFour : YS yX6_isPlacedFour cX6_isPlacedFour 4 (some .boolean) 3 := ⟨kw3_179, kw1_11, kw3_180, by decide +kernel⟩
set_option maxHeartbeats 4000000 in
set_option maxRecDepth 100000 in
theorem c_X6_isPlacedFour {l : Launch} {D : va_G} {cy : Nat → ClassId} {ws : va_W} {b n : Nat} {f : Nat → UInt8} (hB : PK cy ws b f n) {st bits F G : Nat} (hST : STP ws st bits F G) {po u : Nat} {g : Nat → Int32} (hPL : PLP cy ws po g u) : RO l yX6_isPlacedFour cX6_isPlacedFour 4 (some .boolean) 2 47 [.ref b, .ref st, .ref po] D cy ws (.int (bI (tg_pl4 (tg_rd f n) bits g u))) := by
  refine ROz (by decide) (lv0 := [(0, .ref b), (1, .ref st), (2, .ref po)]) rfl (Nat.le_of_ble_eq_true rfl) ?_
  intro p e s m args below meth c ls Q S hP hK hend hl
  have hx := S.1
  have hb := S.2.1
  have hown : s.vm.findClass RX6 = some m.cls := S.2.2.2.1
  have ht : ∀ w ∈ lw_g, w.before args s = true := fun w h => S.2.2.2.2 w (List.mem_cons_of_mem _ h)
  obtain ⟨kb, ka, ar, N, hb0, ha0, hnN, hN⟩ := id hB
  obtain ⟨ks, hs0, hsi⟩ := id hST
  have hbits := hsi.b
  have hF := hsi.F
  have hG := hsi.G
  obtain ⟨kp, kq, pa, hp0, hq0, hu⟩ := id hPL
  refine lv_aload_n hx hb dX6_isPlacedFour_0 rfl (lv_at hl 1 rfl) ?_
  refine ro_V S (c_X8_isSet hST) kw2_69 yv_X8_isSet ⟨Nat.le_of_ble_eq_true rfl, Nat.le_of_ble_eq_true rfl⟩ hK hP (va_recv hK hP (ci := 6) (q0 := ks) rfl hs0) rfl hl.1 rfl (Nat.le_of_ble_eq_true rfl) dX6_isPlacedFour_1 ⟨Nat.le_refl _, Nat.le_refl _⟩ ?_
  refine nv_if_eqb (tgt := 36) hx hb dX6_isPlacedFour_4 (by decide) (fun h4 => ?_) (fun h4 => ?_)
  · skip
    refine nv_iconst (k := 0) hx hb dX6_isPlacedFour_36 rfl ?_
    refine lv_istore_n (lv' := [(3, .int (nI 0)), (0, .ref b), (1, .ref st), (2, .ref po)]) hx hb dX6_isPlacedFour_37 rfl hl (by decide) rfl (fun ls hl => ?_)
    refine lv_iload_n hx hb dX6_isPlacedFour_38 rfl (lv_at hl 0 rfl) ?_
    refine nv_if_eq (tgt := 49) hx hb dX6_isPlacedFour_39 (by decide) (by omega) (fun _ => ?_) (fun h => absurd h (by decide))
    refine lv_iload_n hx hb dX6_isPlacedFour_49 rfl (lv_at hl 0 rfl) ?_
    exact hend ((bI_f (by simp only [tg_pl4] at *; simp_all))) dX6_isPlacedFour_50
  refine lv_aload_n hx hb dX6_isPlacedFour_7 rfl (lv_at hl 2 rfl) ?_
  refine lv_aload_n hx hb dX6_isPlacedFour_8 rfl (lv_at hl 0 rfl) ?_
  refine nv_bipush (k := 16) hx hb dX6_isPlacedFour_9 (by decide) ?_
  refine ro_V S (c_X1_quad hB (a := 16) (by omega)) kw3_181 yv_X1_quad ⟨Nat.le_of_ble_eq_true rfl, Nat.le_of_ble_eq_true rfl⟩ hK hP (va_recv hK hP (ci := 2) (q0 := kb) rfl hb0) rfl hl.1 rfl (Nat.le_of_ble_eq_true rfl) dX6_isPlacedFour_11 ⟨Nat.le_refl _, Nat.le_refl _⟩ ?_
  have hq11 := tg_qd_lt f n 16
  refine ro_V S (c_X5_has hPL (x := tg_qd (tg_rd f n) 16) (by omega)) kw3_185 yv_X5_has ⟨Nat.le_of_ble_eq_true rfl, Nat.le_of_ble_eq_true rfl⟩ hK hP (va_recv hK hP (ci := 4) (q0 := kp) rfl hp0) rfl hl.1 rfl (Nat.le_of_ble_eq_true rfl) dX6_isPlacedFour_14 ⟨Nat.le_refl _, Nat.le_refl _⟩ ?_
  refine nv_if_eqb (tgt := 36) hx hb dX6_isPlacedFour_17 (by decide) (fun h17 => ?_) (fun h17 => ?_)
  · skip
    refine nv_iconst (k := 0) hx hb dX6_isPlacedFour_36 rfl ?_
    refine lv_istore_n (lv' := [(3, .int (nI 0)), (0, .ref b), (1, .ref st), (2, .ref po)]) hx hb dX6_isPlacedFour_37 rfl hl (by decide) rfl (fun ls hl => ?_)
    refine lv_iload_n hx hb dX6_isPlacedFour_38 rfl (lv_at hl 0 rfl) ?_
    refine nv_if_eq (tgt := 49) hx hb dX6_isPlacedFour_39 (by decide) (by omega) (fun _ => ?_) (fun h => absurd h (by decide))
    refine lv_iload_n hx hb dX6_isPlacedFour_49 rfl (lv_at hl 0 rfl) ?_
    exact hend ((bI_f (by simp only [tg_pl4] at *; simp_all))) dX6_isPlacedFour_50
  refine lv_aload_n hx hb dX6_isPlacedFour_20 rfl (lv_at hl 0 rfl) ?_
  refine nv_bipush (k := 12) hx hb dX6_isPlacedFour_21 (by decide) ?_
  refine ro_V S (c_X1_quad hB (a := 12) (by omega)) kw3_181 yv_X1_quad ⟨Nat.le_of_ble_eq_true rfl, Nat.le_of_ble_eq_true rfl⟩ hK hP (va_recv hK hP (ci := 2) (q0 := kb) rfl hb0) rfl hl.1 rfl (Nat.le_of_ble_eq_true rfl) dX6_isPlacedFour_23 ⟨Nat.le_refl _, Nat.le_refl _⟩ ?_
  have hq23 := tg_qd_lt f n 12
  refine ro_S S (c_X5_isOdd (x := tg_qd (tg_rd f n) 12) (by omega)) kw2_82 yv_X5_isOdd ⟨Nat.le_of_ble_eq_true rfl, Nat.le_of_ble_eq_true rfl⟩ hK hP rfl hl.1 rfl (Nat.le_of_ble_eq_true rfl) dX6_isPlacedFour_26 ⟨Nat.le_refl _, Nat.le_refl _⟩ ?_
  refine nv_if_neb (tgt := 36) hx hb dX6_isPlacedFour_29 (by decide) (fun h29 => ?_) (fun h29 => ?_)
  · skip
    refine nv_iconst (k := 0) hx hb dX6_isPlacedFour_36 rfl ?_
    refine lv_istore_n (lv' := [(3, .int (nI 0)), (0, .ref b), (1, .ref st), (2, .ref po)]) hx hb dX6_isPlacedFour_37 rfl hl (by decide) rfl (fun ls hl => ?_)
    refine lv_iload_n hx hb dX6_isPlacedFour_38 rfl (lv_at hl 0 rfl) ?_
    refine nv_if_eq (tgt := 49) hx hb dX6_isPlacedFour_39 (by decide) (by omega) (fun _ => ?_) (fun h => absurd h (by decide))
    refine lv_iload_n hx hb dX6_isPlacedFour_49 rfl (lv_at hl 0 rfl) ?_
    exact hend ((bI_f (by simp only [tg_pl4] at *; simp_all))) dX6_isPlacedFour_50
  refine nv_iconst (k := 1) hx hb dX6_isPlacedFour_32 rfl ?_
  refine lv_goto (tgt := 37) hx hb dX6_isPlacedFour_33 (by decide) ?_
  refine lv_istore_n (lv' := [(3, .int (nI 1)), (0, .ref b), (1, .ref st), (2, .ref po)]) hx hb dX6_isPlacedFour_37 rfl hl (by decide) rfl (fun ls hl => ?_)
  refine lv_iload_n hx hb dX6_isPlacedFour_38 rfl (lv_at hl 0 rfl) ?_
  refine nv_if_eq (tgt := 49) hx hb dX6_isPlacedFour_39 (by decide) (by omega) (fun h => absurd h (by decide)) (fun _ => ?_)
  refine lv_aload_n hx hb dX6_isPlacedFour_42 rfl (lv_at hl 1 rfl) ?_
  refine ro_S S (c_X4_isError hB) kw3_186 yv_X4_isError ⟨Nat.le_of_ble_eq_true rfl, Nat.le_of_ble_eq_true rfl⟩ hK hP rfl hl.1 rfl (Nat.le_of_ble_eq_true rfl) dX6_isPlacedFour_43 ⟨Nat.le_refl _, Nat.le_refl _⟩ ?_
  refine nv_if_neb (tgt := 51) hx hb dX6_isPlacedFour_46 (by decide) (fun h46 => ?_) (fun h46 => ?_)
  · skip
    refine lv_aload_n hx hb dX6_isPlacedFour_51 rfl (lv_at hl 3 rfl) ?_
    refine lv_aload_n hx hb dX6_isPlacedFour_52 rfl (lv_at hl 1 rfl) ?_
    refine nv_bipush (k := 40) hx hb dX6_isPlacedFour_53 (by decide) ?_
    refine ro_V S (c_X1_quad hB (a := 40) (by omega)) kw3_181 yv_X1_quad ⟨Nat.le_of_ble_eq_true rfl, Nat.le_of_ble_eq_true rfl⟩ hK hP (va_recv hK hP (ci := 2) (q0 := kb) rfl hb0) rfl hl.1 rfl (Nat.le_of_ble_eq_true rfl) dX6_isPlacedFour_55 ⟨Nat.le_refl _, Nat.le_refl _⟩ ?_
    have hq55 := tg_qd_lt f n 40
    refine ro_V S (c_X5_has hPL (x := tg_qd (tg_rd f n) 40) (by omega)) kw3_185 yv_X5_has ⟨Nat.le_of_ble_eq_true rfl, Nat.le_of_ble_eq_true rfl⟩ hK hP (va_recv hK hP (ci := 4) (q0 := kp) rfl hp0) rfl hl.1 rfl (Nat.le_of_ble_eq_true rfl) dX6_isPlacedFour_58 ⟨Nat.le_refl _, Nat.le_refl _⟩ ?_
    refine nv_if_eqb (tgt := 80) hx hb dX6_isPlacedFour_61 (by decide) (fun h61 => ?_) (fun h61 => ?_)
    · skip
      refine nv_iconst (k := 0) hx hb dX6_isPlacedFour_80 rfl ?_
      exact hend ((bI_f (by simp only [tg_pl4] at *; simp_all))) dX6_isPlacedFour_81
    refine lv_aload_n hx hb dX6_isPlacedFour_64 rfl (lv_at hl 1 rfl) ?_
    refine nv_bipush (k := 44) hx hb dX6_isPlacedFour_65 (by decide) ?_
    refine ro_V S (c_X1_quad hB (a := 44) (by omega)) kw3_181 yv_X1_quad ⟨Nat.le_of_ble_eq_true rfl, Nat.le_of_ble_eq_true rfl⟩ hK hP (va_recv hK hP (ci := 2) (q0 := kb) rfl hb0) rfl hl.1 rfl (Nat.le_of_ble_eq_true rfl) dX6_isPlacedFour_67 ⟨Nat.le_refl _, Nat.le_refl _⟩ ?_
    have hq67 := tg_qd_lt f n 44
    refine ro_S S (c_X5_isOdd (x := tg_qd (tg_rd f n) 44) (by omega)) kw2_82 yv_X5_isOdd ⟨Nat.le_of_ble_eq_true rfl, Nat.le_of_ble_eq_true rfl⟩ hK hP rfl hl.1 rfl (Nat.le_of_ble_eq_true rfl) dX6_isPlacedFour_70 ⟨Nat.le_refl _, Nat.le_refl _⟩ ?_
    refine nv_if_neb (tgt := 80) hx hb dX6_isPlacedFour_73 (by decide) (fun h73 => ?_) (fun h73 => ?_)
    · skip
      refine nv_iconst (k := 0) hx hb dX6_isPlacedFour_80 rfl ?_
      exact hend ((bI_f (by simp only [tg_pl4] at *; simp_all))) dX6_isPlacedFour_81
    refine nv_iconst (k := 1) hx hb dX6_isPlacedFour_76 rfl ?_
    refine lv_goto (tgt := 81) hx hb dX6_isPlacedFour_77 (by decide) ?_
    exact hend ((bI_t (by simp only [tg_pl4] at *; simp_all))) dX6_isPlacedFour_81
  refine lv_iload_n hx hb dX6_isPlacedFour_49 rfl (lv_at hl 0 rfl) ?_
  exact hend ((bI_t (by simp only [tg_pl4] at *; simp_all))) dX6_isPlacedFour_50
theorem dX6_faultFromOutside_0 : decode cX6_faultFromOutside 0 = .ok (.aload_n 0, 1) := by decide +kernel
theorem dX6_faultFromOutside_1 : decode cX6_faultFromOutside 1 = .ok (.invokestatic 34, 3) := by decide +kernel
theorem dX6_faultFromOutside_4 : decode cX6_faultFromOutside 4 = .ok (.ifCond .ne 6, 3) := by decide +kernel
theorem dX6_faultFromOutside_7 : decode cX6_faultFromOutside 7 = .ok (.bipush 10, 2) := by decide +kernel
theorem dX6_faultFromOutside_9 : decode cX6_faultFromOutside 9 = .ok (.ireturn, 1) := by decide +kernel
theorem dX6_faultFromOutside_10 : decode cX6_faultFromOutside 10 = .ok (.aload_n 0, 1) := by decide +kernel
theorem dX6_faultFromOutside_11 : decode cX6_faultFromOutside 11 = .ok (.invokestatic 37, 3) := by decide +kernel
theorem dX6_faultFromOutside_14 : decode cX6_faultFromOutside 14 = .ok (.ifCond .ne 6, 3) := by decide +kernel
theorem dX6_faultFromOutside_17 : decode cX6_faultFromOutside 17 = .ok (.bipush 12, 2) := by decide +kernel
theorem dX6_faultFromOutside_19 : decode cX6_faultFromOutside 19 = .ok (.ireturn, 1) := by decide +kernel
theorem dX6_faultFromOutside_20 : decode cX6_faultFromOutside 20 = .ok (.aload_n 0, 1) := by decide +kernel
theorem dX6_faultFromOutside_21 : decode cX6_faultFromOutside 21 = .ok (.invokestatic 40, 3) := by decide +kernel
theorem dX6_faultFromOutside_24 : decode cX6_faultFromOutside 24 = .ok (.ifCond .ne 6, 3) := by decide +kernel
theorem dX6_faultFromOutside_27 : decode cX6_faultFromOutside 27 = .ok (.bipush 11, 2) := by decide +kernel
theorem dX6_faultFromOutside_29 : decode cX6_faultFromOutside 29 = .ok (.ireturn, 1) := by decide +kernel
theorem dX6_faultFromOutside_30 : decode cX6_faultFromOutside 30 = .ok (.aload_n 0, 1) := by decide +kernel
theorem dX6_faultFromOutside_31 : decode cX6_faultFromOutside 31 = .ok (.bipush 20, 2) := by decide +kernel
theorem dX6_faultFromOutside_33 : decode cX6_faultFromOutside 33 = .ok (.invokestatic 18, 3) := by decide +kernel
theorem dX6_faultFromOutside_36 : decode cX6_faultFromOutside 36 = .ok (.ifCond .ne 6, 3) := by decide +kernel
theorem dX6_faultFromOutside_39 : decode cX6_faultFromOutside 39 = .ok (.bipush 12, 2) := by decide +kernel
theorem dX6_faultFromOutside_41 : decode cX6_faultFromOutside 41 = .ok (.ireturn, 1) := by decide +kernel
theorem dX6_faultFromOutside_42 : decode cX6_faultFromOutside 42 = .ok (.aload_n 0, 1) := by decide +kernel
theorem dX6_faultFromOutside_43 : decode cX6_faultFromOutside 43 = .ok (.bipush 8, 2) := by decide +kernel
theorem dX6_faultFromOutside_45 : decode cX6_faultFromOutside 45 = .ok (.invokevirtual 24, 3) := by decide +kernel
theorem dX6_faultFromOutside_48 : decode cX6_faultFromOutside 48 = .ok (.iconst 2, 1) := by decide +kernel
theorem dX6_faultFromOutside_49 : decode cX6_faultFromOutside 49 = .ok (.if_icmp .ge 6, 3) := by decide +kernel
theorem dX6_faultFromOutside_52 : decode cX6_faultFromOutside 52 = .ok (.bipush 13, 2) := by decide +kernel
theorem dX6_faultFromOutside_54 : decode cX6_faultFromOutside 54 = .ok (.ireturn, 1) := by decide +kernel
theorem dX6_faultFromOutside_55 : decode cX6_faultFromOutside 55 = .ok (.aload_n 0, 1) := by decide +kernel
theorem dX6_faultFromOutside_56 : decode cX6_faultFromOutside 56 = .ok (.aload_n 1, 1) := by decide +kernel
theorem dX6_faultFromOutside_57 : decode cX6_faultFromOutside 57 = .ok (.aload_n 2, 1) := by decide +kernel
theorem dX6_faultFromOutside_58 : decode cX6_faultFromOutside 58 = .ok (.invokestatic 43, 3) := by decide +kernel
theorem dX6_faultFromOutside_61 : decode cX6_faultFromOutside 61 = .ok (.ifCond .eq 7, 3) := by decide +kernel
theorem dX6_faultFromOutside_64 : decode cX6_faultFromOutside 64 = .ok (.iconst 0, 1) := by decide +kernel
theorem dX6_faultFromOutside_65 : decode cX6_faultFromOutside 65 = .ok (.goto 5, 3) := by decide +kernel
theorem dX6_faultFromOutside_68 : decode cX6_faultFromOutside 68 = .ok (.bipush 14, 2) := by decide +kernel
theorem dX6_faultFromOutside_70 : decode cX6_faultFromOutside 70 = .ok (.ireturn, 1) := by decide +kernel
theorem yv_X6_faultFromOutside : YS yX6_faultFromOutside cX6_faultFromOutside 3 (some .int) 3 := ⟨kw3_159, kw1_11, kw3_160, by decide +kernel⟩
set_option maxHeartbeats 4000000 in
set_option maxRecDepth 100000 in
theorem c_X6_faultFromOutside {l : Launch} {D : va_G} {cy : Nat → ClassId} {ws : va_W} {b n : Nat} {f : Nat → UInt8} (hB : PK cy ws b f n) {st bits F G : Nat} (hST : STP ws st bits F G) {po u : Nat} {g : Nat → Int32} (hPL : PLP cy ws po g u) : RO l yX6_faultFromOutside cX6_faultFromOutside 3 (some .int) 4 94 [.ref b, .ref st, .ref po] D cy ws (.int (nI (tg_out (tg_rd f n) n bits g u))) := by
  refine ROi (by decide) (lv0 := [(0, .ref b), (1, .ref st), (2, .ref po)]) rfl (Nat.le_of_ble_eq_true rfl) ?_
  intro p e s m args below meth c ls Q S hP hK hend hl
  have hx := S.1
  have hb := S.2.1
  have hown : s.vm.findClass RX6 = some m.cls := S.2.2.2.1
  have ht : ∀ w ∈ lw_g, w.before args s = true := fun w h => S.2.2.2.2 w (List.mem_cons_of_mem _ h)
  obtain ⟨kb, ka, ar, N, hb0, ha0, hnN, hN⟩ := id hB
  refine lv_aload_n hx hb dX6_faultFromOutside_0 rfl (lv_at hl 0 rfl) ?_
  refine ro_S S (c_X6_isFramedFour hB) kw3_161 yv_X6_isFramedFour ⟨Nat.le_of_ble_eq_true rfl, Nat.le_of_ble_eq_true rfl⟩ hK hP rfl hl.1 rfl (Nat.le_of_ble_eq_true rfl) dX6_faultFromOutside_1 ⟨Nat.le_refl _, Nat.le_refl _⟩ ?_
  refine nv_if_neb (tgt := 10) hx hb dX6_faultFromOutside_4 (by decide) (fun h4 => ?_) (fun h4 => ?_)
  · skip
    have hn20 : 20 ≤ n := by have := h4; simp only [tg_fr4, decide_eq_true_eq] at this; omega
    refine lv_aload_n hx hb dX6_faultFromOutside_10 rfl (lv_at hl 0 rfl) ?_
    refine ro_S S (c_X9_headIsRight hB) kw3_164 yv_X9_headIsRight ⟨Nat.le_of_ble_eq_true rfl, Nat.le_of_ble_eq_true rfl⟩ hK hP rfl hl.1 rfl (Nat.le_of_ble_eq_true rfl) dX6_faultFromOutside_11 ⟨Nat.le_refl _, Nat.le_refl _⟩ ?_
    refine nv_if_neb (tgt := 20) hx hb dX6_faultFromOutside_14 (by decide) (fun h14 => ?_) (fun h14 => ?_)
    · skip
      refine lv_aload_n hx hb dX6_faultFromOutside_20 rfl (lv_at hl 0 rfl) ?_
      refine ro_S S (c_X6_isKnownFour hB (by omega)) kw3_168 yv_X6_isKnownFour ⟨Nat.le_of_ble_eq_true rfl, Nat.le_of_ble_eq_true rfl⟩ hK hP rfl hl.1 rfl (Nat.le_of_ble_eq_true rfl) dX6_faultFromOutside_21 ⟨Nat.le_refl _, Nat.le_refl _⟩ ?_
      refine nv_if_neb (tgt := 30) hx hb dX6_faultFromOutside_24 (by decide) (fun h24 => ?_) (fun h24 => ?_)
      · skip
        refine lv_aload_n hx hb dX6_faultFromOutside_30 rfl (lv_at hl 0 rfl) ?_
        refine nv_bipush (k := 20) hx hb dX6_faultFromOutside_31 (by decide) ?_
        refine ro_S S (c_X9_partIsRight hB (hd := 20) (by omega) (by omega)) kw2_44 yv_X9_partIsRight ⟨Nat.le_of_ble_eq_true rfl, Nat.le_of_ble_eq_true rfl⟩ hK hP rfl hl.1 rfl (Nat.le_of_ble_eq_true rfl) dX6_faultFromOutside_33 ⟨Nat.le_refl _, Nat.le_refl _⟩ ?_
        refine nv_if_neb (tgt := 42) hx hb dX6_faultFromOutside_36 (by decide) (fun h36 => ?_) (fun h36 => ?_)
        · skip
          refine lv_aload_n hx hb dX6_faultFromOutside_42 rfl (lv_at hl 0 rfl) ?_
          refine nv_bipush (k := 8) hx hb dX6_faultFromOutside_43 (by decide) ?_
          refine ro_V S (c_X1_octet hB (k := 8) (by omega)) kw2_14 yv_X1_octet ⟨Nat.le_of_ble_eq_true rfl, Nat.le_of_ble_eq_true rfl⟩ hK hP (va_recv hK hP (ci := 2) (q0 := kb) rfl hb0) rfl hl.1 rfl (Nat.le_of_ble_eq_true rfl) dX6_faultFromOutside_45 ⟨Nat.le_refl _, Nat.le_refl _⟩ ?_
          have hq45 := tg_rd_lt f n 8
          refine nv_iconst (k := 2) hx hb dX6_faultFromOutside_48 rfl ?_
          refine nv_icmp_ge (tgt := 55) hx hb dX6_faultFromOutside_49 (by decide) (by omega) (by omega) (fun h49 => ?_) (fun h49 => ?_)
          · skip
            refine lv_aload_n hx hb dX6_faultFromOutside_55 rfl (lv_at hl 0 rfl) ?_
            refine lv_aload_n hx hb dX6_faultFromOutside_56 rfl (lv_at hl 1 rfl) ?_
            refine lv_aload_n hx hb dX6_faultFromOutside_57 rfl (lv_at hl 2 rfl) ?_
            refine ro_S S (c_X6_isPlacedFour hB hST hPL) kw3_178 yv_X6_isPlacedFour ⟨Nat.le_of_ble_eq_true rfl, Nat.le_of_ble_eq_true rfl⟩ hK hP rfl hl.1 rfl (Nat.le_of_ble_eq_true rfl) dX6_faultFromOutside_58 ⟨Nat.le_refl _, Nat.le_refl _⟩ ?_
            refine nv_if_eqb (tgt := 68) hx hb dX6_faultFromOutside_61 (by decide) (fun h61 => ?_) (fun h61 => ?_)
            · skip
              refine nv_bipush (k := 14) hx hb dX6_faultFromOutside_68 (by decide) ?_
              exact hend ((congrArg nI (by simp only [tg_out]; simp_all <;> omega))) dX6_faultFromOutside_70
            refine nv_iconst (k := 0) hx hb dX6_faultFromOutside_64 rfl ?_
            refine lv_goto (tgt := 70) hx hb dX6_faultFromOutside_65 (by decide) ?_
            exact hend ((congrArg nI (by simp only [tg_out]; simp_all <;> omega))) dX6_faultFromOutside_70
          refine nv_bipush (k := 13) hx hb dX6_faultFromOutside_52 (by decide) ?_
          exact hend ((congrArg nI (by simp only [tg_out]; simp_all <;> omega))) dX6_faultFromOutside_54
        refine nv_bipush (k := 12) hx hb dX6_faultFromOutside_39 (by decide) ?_
        exact hend ((congrArg nI (by simp only [tg_out]; simp_all <;> omega))) dX6_faultFromOutside_41
      refine nv_bipush (k := 11) hx hb dX6_faultFromOutside_27 (by decide) ?_
      exact hend ((congrArg nI (by simp only [tg_out]; simp_all <;> omega))) dX6_faultFromOutside_29
    refine nv_bipush (k := 12) hx hb dX6_faultFromOutside_17 (by decide) ?_
    exact hend ((congrArg nI (by simp only [tg_out]; simp_all <;> omega))) dX6_faultFromOutside_19
  refine nv_bipush (k := 10) hx hb dX6_faultFromOutside_7 (by decide) ?_
  exact hend ((congrArg nI (by simp only [tg_out]; simp_all <;> omega))) dX6_faultFromOutside_9
