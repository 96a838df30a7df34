theorem dX1_length_0 : decode cX1_length 0 = .ok (.aload_n 0, 1) := by decide +kernel
theorem dX1_length_1 : decode cX1_length 1 = .ok (.getfield 19, 3) := by decide +kernel
theorem dX1_length_4 : decode cX1_length 4 = .ok (.ireturn, 1) := by decide +kernel
theorem yv_X1_length : YV RX1 yX1_length cX1_length 1 (some .int) 0 := ⟨kw1_221, kw1_222, kw1_2, kw1_223, by decide +kernel⟩
set_option maxHeartbeats 4000000 in
set_option maxRecDepth 100000 in
theorem c_X1_length {l : Launch} {D : va_G} {cy : Nat → ClassId} {ws : va_W} {b n : Nat} {f : Nat → UInt8} (hB : PK cy ws b f n) : RO l yX1_length cX1_length 1 (some .int) 0 0 [.ref b] D cy ws (.int (nI n)) := by
  refine ROi (by decide) (lv0 := [(0, .ref b)]) rfl (Nat.le_of_ble_eq_true rfl) ?_
  intro p e s m args below meth c ls Q S hP hK hend hl
  have hx := S.1
  have hb := S.2.1
  have hown : s.vm.findClass RX1 = some m.cls := S.2.2.2.1
  have ht : ∀ w ∈ lw_g, w.before args s = true := fun w h => S.2.2.2.2 w (List.mem_cons_of_mem _ h)
  obtain ⟨kb, ka, ar, N, hb0, ha0, hnN, hN⟩ := hB
  refine lv_aload_n hx hb dX1_length_0 rfl (lv_at hl 0 rfl) ?_
  refine va_get (ci := 2) (C := RX1) (T := TX1) (N := 2) hx hb ht iFX1 hown hK hP kb hb0 rfl 1 (by decide) (ht _ kw1_41) (fun _ h9 => h9) rfl dX1_length_1 ?_
  exact hend (rfl) dX1_length_4
theorem dX1_octet_0 : decode cX1_octet 0 = .ok (.iload_n 1, 1) := by decide +kernel
theorem dX1_octet_1 : decode cX1_octet 1 = .ok (.ifCond .lt 24, 3) := by decide +kernel
theorem dX1_octet_4 : decode cX1_octet 4 = .ok (.iload_n 1, 1) := by decide +kernel
theorem dX1_octet_5 : decode cX1_octet 5 = .ok (.aload_n 0, 1) := by decide +kernel
theorem dX1_octet_6 : decode cX1_octet 6 = .ok (.getfield 19, 3) := by decide +kernel
theorem dX1_octet_9 : decode cX1_octet 9 = .ok (.if_icmp .ge 16, 3) := by decide +kernel
theorem dX1_octet_12 : decode cX1_octet 12 = .ok (.aload_n 0, 1) := by decide +kernel
theorem dX1_octet_13 : decode cX1_octet 13 = .ok (.getfield 13, 3) := by decide +kernel
theorem dX1_octet_16 : decode cX1_octet 16 = .ok (.iload_n 1, 1) := by decide +kernel
theorem dX1_octet_17 : decode cX1_octet 17 = .ok (.baload, 1) := by decide +kernel
theorem dX1_octet_18 : decode cX1_octet 18 = .ok (.sipush 255, 3) := by decide +kernel
theorem dX1_octet_21 : decode cX1_octet 21 = .ok (.iand, 1) := by decide +kernel
theorem dX1_octet_22 : decode cX1_octet 22 = .ok (.goto 4, 3) := by decide +kernel
theorem dX1_octet_25 : decode cX1_octet 25 = .ok (.iconst 0, 1) := by decide +kernel
theorem dX1_octet_26 : decode cX1_octet 26 = .ok (.ireturn, 1) := by decide +kernel
theorem yv_X1_octet : YV RX1 yX1_octet cX1_octet 2 (some .int) 1 := ⟨kw2_15, kw2_16, kw1_2, kw2_17, by decide +kernel⟩
set_option maxHeartbeats 4000000 in
set_option maxRecDepth 100000 in
theorem c_X1_octet {l : Launch} {D : va_G} {cy : Nat → ClassId} {ws : va_W} {b n : Nat} {f : Nat → UInt8} (hB : PK cy ws b f n) {k : Nat} (hk : k < 2 ^ 31) : RO l yX1_octet cX1_octet 2 (some .int) 0 0 [.ref b, .int (nI k)] D cy ws (.int (nI (tg_rd f n k))) := by
  refine ROi (by decide) (lv0 := [(0, .ref b), (1, .int (nI k))]) rfl (Nat.le_of_ble_eq_true rfl) ?_
  intro p e s m args below meth c ls Q S hP hK hend hl
  have hx := S.1
  have hb := S.2.1
  have hown : s.vm.findClass RX1 = some m.cls := S.2.2.2.1
  have ht : ∀ w ∈ lw_g, w.before args s = true := fun w h => S.2.2.2.2 w (List.mem_cons_of_mem _ h)
  obtain ⟨kb, ka, ar, N, hb0, ha0, hnN, hN⟩ := hB
  refine lv_iload_n hx hb dX1_octet_0 rfl (lv_at hl 1 rfl) ?_
  refine nv_if_lt (tgt := 25) hx hb dX1_octet_1 (by decide) (by omega) ?_
  refine lv_iload_n hx hb dX1_octet_4 rfl (lv_at hl 1 rfl) ?_
  refine lv_aload_n hx hb dX1_octet_5 rfl (lv_at hl 0 rfl) ?_
  refine va_get (ci := 2) (C := RX1) (T := TX1) (N := 2) hx hb ht iFX1 hown hK hP kb hb0 rfl 1 (by decide) (ht _ kw1_41) (fun _ h9 => h9) rfl dX1_octet_6 ?_
  refine nv_icmp_ge (tgt := 25) hx hb dX1_octet_9 (by decide) (by omega) (by omega) (fun h9 => ?_) (fun h9 => ?_)
  · skip
    refine nv_iconst (k := 0) hx hb dX1_octet_25 rfl ?_
    exact hend ((congrArg nI (tg_rd_out (by omega)).symm)) dX1_octet_26
  refine lv_aload_n hx hb dX1_octet_12 rfl (lv_at hl 0 rfl) ?_
  refine va_get (ci := 2) (C := RX1) (T := TX1) (N := 2) hx hb ht iFX1 hown hK hP kb hb0 rfl 0 (by decide) (ht _ kw1_40) (fun _ h9 => h9) rfl dX1_octet_13 ?_
  refine lv_iload_n hx hb dX1_octet_16 rfl (lv_at hl 1 rfl) ?_
  refine nv_bald hx hb hK hP ka ha0 (by omega) (by omega) dX1_octet_17 ?_
  refine nv_sipush (k := 255) hx hb dX1_octet_18 (by decide) ?_
  refine nv_iandb hx hb dX1_octet_21 ?_
  have hq21 := UInt8.toNat_lt (f (k))
  refine lv_goto (tgt := 26) hx hb dX1_octet_22 (by decide) ?_
  exact hend ((congrArg nI (tg_rd_in (by omega)).symm)) dX1_octet_26
theorem dX1_number_0 : decode cX1_number 0 = .ok (.lconst 0, 1) := by decide +kernel
theorem dX1_number_1 : decode cX1_number 1 = .ok (.lstore_n 3, 1) := by decide +kernel
theorem dX1_number_2 : decode cX1_number 2 = .ok (.iconst 0, 1) := by decide +kernel
theorem dX1_number_3 : decode cX1_number 3 = .ok (.istore 5, 2) := by decide +kernel
theorem dX1_number_5 : decode cX1_number 5 = .ok (.iload 5, 2) := by decide +kernel
theorem dX1_number_7 : decode cX1_number 7 = .ok (.iload_n 2, 1) := by decide +kernel
theorem dX1_number_8 : decode cX1_number 8 = .ok (.if_icmp .ge 51, 3) := by decide +kernel
theorem dX1_number_11 : decode cX1_number 11 = .ok (.iload_n 1, 1) := by decide +kernel
theorem dX1_number_12 : decode cX1_number 12 = .ok (.iload 5, 2) := by decide +kernel
theorem dX1_number_14 : decode cX1_number 14 = .ok (.iadd, 1) := by decide +kernel
theorem dX1_number_15 : decode cX1_number 15 = .ok (.istore 6, 2) := by decide +kernel
theorem dX1_number_17 : decode cX1_number 17 = .ok (.lload_n 3, 1) := by decide +kernel
theorem dX1_number_18 : decode cX1_number 18 = .ok (.bipush 8, 2) := by decide +kernel
theorem dX1_number_20 : decode cX1_number 20 = .ok (.lshl, 1) := by decide +kernel
theorem dX1_number_21 : decode cX1_number 21 = .ok (.iload 6, 2) := by decide +kernel
theorem dX1_number_23 : decode cX1_number 23 = .ok (.ifCond .lt 26, 3) := by decide +kernel
theorem dX1_number_26 : decode cX1_number 26 = .ok (.iload 6, 2) := by decide +kernel
theorem dX1_number_28 : decode cX1_number 28 = .ok (.aload_n 0, 1) := by decide +kernel
theorem dX1_number_29 : decode cX1_number 29 = .ok (.getfield 19, 3) := by decide +kernel
theorem dX1_number_32 : decode cX1_number 32 = .ok (.if_icmp .ge 17, 3) := by decide +kernel
theorem dX1_number_35 : decode cX1_number 35 = .ok (.aload_n 0, 1) := by decide +kernel
theorem dX1_number_36 : decode cX1_number 36 = .ok (.getfield 13, 3) := by decide +kernel
theorem dX1_number_39 : decode cX1_number 39 = .ok (.iload 6, 2) := by decide +kernel
theorem dX1_number_41 : decode cX1_number 41 = .ok (.baload, 1) := by decide +kernel
theorem dX1_number_42 : decode cX1_number 42 = .ok (.sipush 255, 3) := by decide +kernel
theorem dX1_number_45 : decode cX1_number 45 = .ok (.iand, 1) := by decide +kernel
theorem dX1_number_46 : decode cX1_number 46 = .ok (.goto 4, 3) := by decide +kernel
theorem dX1_number_49 : decode cX1_number 49 = .ok (.iconst 0, 1) := by decide +kernel
theorem dX1_number_50 : decode cX1_number 50 = .ok (.i2l, 1) := by decide +kernel
theorem dX1_number_51 : decode cX1_number 51 = .ok (.lor, 1) := by decide +kernel
theorem dX1_number_52 : decode cX1_number 52 = .ok (.lstore_n 3, 1) := by decide +kernel
theorem dX1_number_53 : decode cX1_number 53 = .ok (.iinc 5 1, 3) := by decide +kernel
theorem dX1_number_56 : decode cX1_number 56 = .ok (.goto (-51), 3) := by decide +kernel
theorem dX1_number_59 : decode cX1_number 59 = .ok (.lload_n 3, 1) := by decide +kernel
theorem dX1_number_60 : decode cX1_number 60 = .ok (.lreturn, 1) := by decide +kernel
theorem yv_X1_number : YV RX1 yX1_number cX1_number 7 (some .long) 2 := ⟨kw2_24, kws_2, kw1_2, kw2_25, by decide +kernel⟩
set_option maxHeartbeats 4000000 in
set_option maxRecDepth 100000 in
theorem c_X1_number {l : Launch} {D : va_G} {cy : Nat → ClassId} {ws : va_W} {b n : Nat} {f : Nat → UInt8} (hB : PK cy ws b f n) {a many : Nat} (ha : a < 2 ^ 30) (hm : many ≤ 8) : RO l yX1_number cX1_number 7 (some .long) 0 0 [.ref b, .int (nI a), .int (nI many)] D cy ws (.long (lN (tg_nb (tg_rd f n) a many))) := by
  refine ROl (by decide) (lv0 := [(0, .ref b), (1, .int (nI a)), (2, .int (nI many))]) rfl (Nat.le_of_ble_eq_true rfl) ?_
  intro p e s m args below meth c ls Q S hP hK hend hl
  have hx := S.1
  have hb := S.2.1
  have hown : s.vm.findClass RX1 = some m.cls := S.2.2.2.1
  have ht : ∀ w ∈ lw_g, w.before args s = true := fun w h => S.2.2.2.2 w (List.mem_cons_of_mem _ h)
  obtain ⟨kb, ka, ar, N, hb0, ha0, hnN, hN⟩ := hB
  refine lv_lconst (v := lN 0) hx hb dX1_number_0 (by decide) ?_
  refine lv_lstore_n (lv' := [(3, .long (lN (0))), (0, .ref b), (1, .int (nI a)), (2, .int (nI many))]) hx hb dX1_number_1 rfl hl (by decide) rfl (fun ls hl => ?_)
  refine nv_iconst (k := 0) hx hb dX1_number_2 rfl ?_
  refine lv_istore (lv' := [(5, .int (nI 0)), (3, .long (lN (0))), (0, .ref b), (1, .int (nI a)), (2, .int (nI many))]) hx hb dX1_number_3 hl (by decide) rfl (fun ls hl => ?_)
  have L5 : ∀ (fu i v : Nat), many - i < fu → i ≤ many → v = tg_nb (tg_rd f n) a i → ∀ ls : Array Slot, lv_has ls 7 [(0, .ref b), (1, .int (nI a)), (2, .int (nI many)), (3, .long (lN v)), (5, .int (nI i))] → W p l e (rmo 0 0) s m args below meth c s.heap [] 0 0 Q (F0 m 5 ls []) := by
    intro fu
    induction fu with
    | zero => intro i v h; omega
    | succ fu ih =>
      intro i v hfu hi hv ls hl
      refine lv_iload hx hb dX1_number_5 (lv_at hl 4 rfl) ?_
      refine lv_iload_n hx hb dX1_number_7 rfl (lv_at hl 2 rfl) ?_
      refine nv_icmp_ge (tgt := 59) hx hb dX1_number_8 (by decide) (by omega) (by omega) (fun h8 => ?_) (fun h8 => ?_)
      · skip
        refine lv_lload_n hx hb dX1_number_59 rfl (lv_at hl 3 rfl) ?_
        exact hend ((by rw [hv, show i = many by omega])) dX1_number_60
      refine lv_iload_n hx hb dX1_number_11 rfl (lv_at hl 1 rfl) ?_
      refine lv_iload hx hb dX1_number_12 (lv_at hl 4 rfl) ?_
      refine nv_iadd hx hb dX1_number_14 ?_
      refine lv_istore (lv' := [(6, .int (nI (a + i))), (0, .ref b), (1, .int (nI a)), (2, .int (nI many)), (3, .long (lN (v))), (5, .int (nI i))]) hx hb dX1_number_15 hl (by decide) rfl (fun ls hl => ?_)
      refine lv_lload_n hx hb dX1_number_17 rfl (lv_at hl 4 rfl) ?_
      refine nv_bipush (k := 8) hx hb dX1_number_18 (by decide) ?_
      refine nv_lshl hx hb (by omega) dX1_number_20 ?_
      refine lv_iload hx hb dX1_number_21 (lv_at hl 0 rfl) ?_
      refine nv_if_lt (tgt := 49) hx hb dX1_number_23 (by decide) (by omega) ?_
      refine lv_iload hx hb dX1_number_26 (lv_at hl 0 rfl) ?_
      refine lv_aload_n hx hb dX1_number_28 rfl (lv_at hl 1 rfl) ?_
      refine va_get (ci := 2) (C := RX1) (T := TX1) (N := 2) hx hb ht iFX1 hown hK hP kb hb0 rfl 1 (by decide) (ht _ kw1_41) (fun _ h9 => h9) rfl dX1_number_29 ?_
      refine nv_icmp_ge (tgt := 49) hx hb dX1_number_32 (by decide) (by omega) (by omega) (fun h32 => ?_) (fun h32 => ?_)
      · skip
        refine nv_iconst (k := 0) hx hb dX1_number_49 rfl ?_
        refine nv_i2l hx hb (by omega) dX1_number_50 ?_
        refine nv_lor 8 hx hb (by omega) dX1_number_51 ?_
        refine lv_lstore_n (lv' := [(3, .long (lN ((v) * 2 ^ 8 + 0))), (6, .int (nI (a + i))), (0, .ref b), (1, .int (nI a)), (2, .int (nI many)), (5, .int (nI i))]) hx hb dX1_number_52 rfl hl (by decide) rfl (fun ls hl => ?_)
        refine lv_iinc (v := (nI (i + 1))) (lv' := [(5, .int (nI (i + 1))), (3, .long (lN ((v) * 2 ^ 8 + 0))), (6, .int (nI (a + i))), (0, .ref b), (1, .int (nI a)), (2, .int (nI many))]) hx hb dX1_number_53 hl (k := 5) rfl (nI_inc _ _) (by decide) rfl (fun ls hl => ?_)
        refine lv_goto (tgt := 5) hx hb dX1_number_56 (by decide) ?_
        exact ih (i + 1) ((v) * 2 ^ 8 + 0) (by omega) (by omega) (by rw [hv]; simp only [tg_nb]; first | rw [tg_rd_in h32] | rw [tg_rd_out h32]) ls (lv_sub hl [3, 4, 5, 1, 0] rfl)
      refine lv_aload_n hx hb dX1_number_35 rfl (lv_at hl 1 rfl) ?_
      refine va_get (ci := 2) (C := RX1) (T := TX1) (N := 2) hx hb ht iFX1 hown hK hP kb hb0 rfl 0 (by decide) (ht _ kw1_40) (fun _ h9 => h9) rfl dX1_number_36 ?_
      refine lv_iload hx hb dX1_number_39 (lv_at hl 0 rfl) ?_
      refine nv_bald hx hb hK hP ka ha0 (by omega) (by omega) dX1_number_41 ?_
      refine nv_sipush (k := 255) hx hb dX1_number_42 (by decide) ?_
      refine nv_iandb hx hb dX1_number_45 ?_
      have hq45 := UInt8.toNat_lt (f (a + i))
      refine lv_goto (tgt := 50) hx hb dX1_number_46 (by decide) ?_
      refine nv_i2l hx hb (by omega) dX1_number_50 ?_
      refine nv_lor 8 hx hb (by omega) dX1_number_51 ?_
      refine lv_lstore_n (lv' := [(3, .long (lN ((v) * 2 ^ 8 + (f (a + i)).toNat))), (6, .int (nI (a + i))), (0, .ref b), (1, .int (nI a)), (2, .int (nI many)), (5, .int (nI i))]) hx hb dX1_number_52 rfl hl (by decide) rfl (fun ls hl => ?_)
      refine lv_iinc (v := (nI (i + 1))) (lv' := [(5, .int (nI (i + 1))), (3, .long (lN ((v) * 2 ^ 8 + (f (a + i)).toNat))), (6, .int (nI (a + i))), (0, .ref b), (1, .int (nI a)), (2, .int (nI many))]) hx hb dX1_number_53 hl (k := 5) rfl (nI_inc _ _) (by decide) rfl (fun ls hl => ?_)
      refine lv_goto (tgt := 5) hx hb dX1_number_56 (by decide) ?_
      exact ih (i + 1) ((v) * 2 ^ 8 + (f (a + i)).toNat) (by omega) (by omega) (by rw [hv]; simp only [tg_nb]; first | rw [tg_rd_in h32] | rw [tg_rd_out h32]) ls (lv_sub hl [3, 4, 5, 1, 0] rfl)
  exact L5 (many + 1) 0 0 (by omega) (by omega) rfl ls (lv_sub hl [2, 3, 4, 1, 0] rfl)
theorem dX1_pair_0 : decode cX1_pair 0 = .ok (.aload_n 0, 1) := by decide +kernel
theorem dX1_pair_1 : decode cX1_pair 1 = .ok (.iload_n 1, 1) := by decide +kernel
theorem dX1_pair_2 : decode cX1_pair 2 = .ok (.iconst 2, 1) := by decide +kernel
theorem dX1_pair_3 : decode cX1_pair 3 = .ok (.invokevirtual 26, 3) := by decide +kernel
theorem dX1_pair_6 : decode cX1_pair 6 = .ok (.l2i, 1) := by decide +kernel
theorem dX1_pair_7 : decode cX1_pair 7 = .ok (.ireturn, 1) := by decide +kernel
theorem yv_X1_pair : YV RX1 yX1_pair cX1_pair 2 (some .int) 1 := ⟨kw2_19, kw2_20, kw1_2, kw2_21, by decide +kernel⟩
set_option maxHeartbeats 4000000 in
set_option maxRecDepth 100000 in
theorem c_X1_pair {l : Launch} {D : va_G} {cy : Nat → ClassId} {ws : va_W} {b n : Nat} {f : Nat → UInt8} (hB : PK cy ws b f n) {a : Nat} (ha : a < 2 ^ 30) : RO l yX1_pair cX1_pair 2 (some .int) 1 26 [.ref b, .int (nI a)] D cy ws (.int (nI (tg_pr (tg_rd f n) a))) := by
  refine ROi (by decide) (lv0 := [(0, .ref b), (1, .int (nI a))]) rfl (Nat.le_of_ble_eq_true rfl) ?_
  intro p e s m args below meth c ls Q S hP hK hend hl
  have hx := S.1
  have hb := S.2.1
  have hown : s.vm.findClass RX1 = some m.cls := S.2.2.2.1
  have ht : ∀ w ∈ lw_g, w.before args s = true := fun w h => S.2.2.2.2 w (List.mem_cons_of_mem _ h)
  obtain ⟨kb, ka, ar, N, hb0, ha0, hnN, hN⟩ := id hB
  refine lv_aload_n hx hb dX1_pair_0 rfl (lv_at hl 0 rfl) ?_
  refine lv_iload_n hx hb dX1_pair_1 rfl (lv_at hl 1 rfl) ?_
  refine nv_iconst (k := 2) hx hb dX1_pair_2 rfl ?_
  refine ro_V S (c_X1_number hB (a := a) (many := 2) (by omega) (by omega)) kw2_22 yv_X1_number ⟨Nat.le_of_ble_eq_true rfl, Nat.le_of_ble_eq_true rfl⟩ hK hP (va_recv hK hP (ci := 2) (q0 := kb) rfl hb0) rfl hl.1 rfl (Nat.le_of_ble_eq_true rfl) dX1_pair_3 ⟨Nat.le_refl _, Nat.le_refl _⟩ ?_
  refine nv_l2i hx hb dX1_pair_6 ?_
  exact hend ((by rw [tg_nb_2])) dX1_pair_7
theorem dX1_quad_0 : decode cX1_quad 0 = .ok (.aload_n 0, 1) := by decide +kernel
theorem dX1_quad_1 : decode cX1_quad 1 = .ok (.iload_n 1, 1) := by decide +kernel
theorem dX1_quad_2 : decode cX1_quad 2 = .ok (.iconst 4, 1) := by decide +kernel
theorem dX1_quad_3 : decode cX1_quad 3 = .ok (.invokevirtual 26, 3) := by decide +kernel
theorem dX1_quad_6 : decode cX1_quad 6 = .ok (.l2i, 1) := by decide +kernel
theorem dX1_quad_7 : decode cX1_quad 7 = .ok (.ireturn, 1) := by decide +kernel
theorem yv_X1_quad : YV RX1 yX1_quad cX1_quad 2 (some .int) 1 := ⟨kw3_182, kw3_183, kw1_2, kw3_184, by decide +kernel⟩
set_option maxHeartbeats 4000000 in
set_option maxRecDepth 100000 in
theorem c_X1_quad {l : Launch} {D : va_G} {cy : Nat → ClassId} {ws : va_W} {b n : Nat} {f : Nat → UInt8} (hB : PK cy ws b f n) {a : Nat} (ha : a < 2 ^ 30) : RO l yX1_quad cX1_quad 2 (some .int) 1 26 [.ref b, .int (nI a)] D cy ws (.int (nI (tg_qd (tg_rd f n) a))) := by
  refine ROi (by decide) (lv0 := [(0, .ref b), (1, .int (nI a))]) rfl (Nat.le_of_ble_eq_true rfl) ?_
  intro p e s m args below meth c ls Q S hP hK hend hl
  have hx := S.1
  have hb := S.2.1
  have hown : s.vm.findClass RX1 = some m.cls := S.2.2.2.1
  have ht : ∀ w ∈ lw_g, w.before args s = true := fun w h => S.2.2.2.2 w (List.mem_cons_of_mem _ h)
  obtain ⟨kb, ka, ar, N, hb0, ha0, hnN, hN⟩ := id hB
  refine lv_aload_n hx hb dX1_quad_0 rfl (lv_at hl 0 rfl) ?_
  refine lv_iload_n hx hb dX1_quad_1 rfl (lv_at hl 1 rfl) ?_
  refine nv_iconst (k := 4) hx hb dX1_quad_2 rfl ?_
  refine ro_V S (c_X1_number hB (a := a) (many := 4) (by omega) (by omega)) kw2_22 yv_X1_number ⟨Nat.le_of_ble_eq_true rfl, Nat.le_of_ble_eq_true rfl⟩ hK hP (va_recv hK hP (ci := 2) (q0 := kb) rfl hb0) rfl hl.1 rfl (Nat.le_of_ble_eq_true rfl) dX1_quad_3 ⟨Nat.le_refl _, Nat.le_refl _⟩ ?_
  refine nv_l2i hx hb dX1_quad_6 ?_
  exact hend ((by rw [tg_nb_4])) dX1_quad_7
theorem dX1_eight_0 : decode cX1_eight 0 = .ok (.aload_n 0, 1) := by decide +kernel
theorem dX1_eight_1 : decode cX1_eight 1 = .ok (.iload_n 1, 1) := by decide +kernel
theorem dX1_eight_2 : decode cX1_eight 2 = .ok (.bipush 8, 2) := by decide +kernel
theorem dX1_eight_4 : decode cX1_eight 4 = .ok (.invokevirtual 26, 3) := by decide +kernel
theorem dX1_eight_7 : decode cX1_eight 7 = .ok (.lreturn, 1) := by decide +kernel
theorem yv_X1_eight : YV RX1 yX1_eight cX1_eight 2 (some .long) 1 := ⟨kw2_78, kw2_79, kw1_2, kw2_80, by decide +kernel⟩
set_option maxHeartbeats 4000000 in
set_option maxRecDepth 100000 in
theorem c_X1_eight {l : Launch} {D : va_G} {cy : Nat → ClassId} {ws : va_W} {b n : Nat} {f : Nat → UInt8} (hB : PK cy ws b f n) {a : Nat} (ha : a < 2 ^ 30) : RO l yX1_eight cX1_eight 2 (some .long) 1 26 [.ref b, .int (nI a)] D cy ws (.long (lN (tg_ei (tg_rd f n) a))) := by
  refine ROl (by decide) (lv0 := [(0, .ref b), (1, .int (nI a))]) rfl (Nat.le_of_ble_eq_true rfl) ?_
  intro p e s m args below meth c ls Q S hP hK hend hl
  have hx := S.1
  have hb := S.2.1
  have hown : s.vm.findClass RX1 = some m.cls := S.2.2.2.1
  have ht : ∀ w ∈ lw_g, w.before args s = true := fun w h => S.2.2.2.2 w (List.mem_cons_of_mem _ h)
  obtain ⟨kb, ka, ar, N, hb0, ha0, hnN, hN⟩ := id hB
  refine lv_aload_n hx hb dX1_eight_0 rfl (lv_at hl 0 rfl) ?_
  refine lv_iload_n hx hb dX1_eight_1 rfl (lv_at hl 1 rfl) ?_
  refine nv_bipush (k := 8) hx hb dX1_eight_2 (by decide) ?_
  refine ro_V S (c_X1_number hB (a := a) (many := 8) (by omega) (by omega)) kw2_22 yv_X1_number ⟨Nat.le_of_ble_eq_true rfl, Nat.le_of_ble_eq_true rfl⟩ hK hP (va_recv hK hP (ci := 2) (q0 := kb) rfl hb0) rfl hl.1 rfl (Nat.le_of_ble_eq_true rfl) dX1_eight_4 ⟨Nat.le_refl _, Nat.le_refl _⟩ ?_
  exact hend ((by rw [tg_nb_8])) dX1_eight_7
