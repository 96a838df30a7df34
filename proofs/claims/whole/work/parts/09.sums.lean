theorem dX4_headOf_0 : decode cX4_headOf 0 = .ok (.aload_n 0, 1) := by decide +kernel
theorem dX4_headOf_1 : decode cX4_headOf 1 = .ok (.iconst 0, 1) := by decide +kernel
theorem dX4_headOf_2 : decode cX4_headOf 2 = .ok (.invokevirtual 9, 3) := by decide +kernel
theorem dX4_headOf_5 : decode cX4_headOf 5 = .ok (.iconst 4, 1) := by decide +kernel
theorem dX4_headOf_6 : decode cX4_headOf 6 = .ok (.iushr, 1) := by decide +kernel
theorem dX4_headOf_7 : decode cX4_headOf 7 = .ok (.istore_n 1, 1) := by decide +kernel
theorem dX4_headOf_8 : decode cX4_headOf 8 = .ok (.iload_n 1, 1) := by decide +kernel
theorem dX4_headOf_9 : decode cX4_headOf 9 = .ok (.iconst 4, 1) := by decide +kernel
theorem dX4_headOf_10 : decode cX4_headOf 10 = .ok (.if_icmp .ne 6, 3) := by decide +kernel
theorem dX4_headOf_13 : decode cX4_headOf 13 = .ok (.bipush 20, 2) := by decide +kernel
theorem dX4_headOf_15 : decode cX4_headOf 15 = .ok (.ireturn, 1) := by decide +kernel
theorem dX4_headOf_16 : decode cX4_headOf 16 = .ok (.iload_n 1, 1) := by decide +kernel
theorem dX4_headOf_17 : decode cX4_headOf 17 = .ok (.bipush 6, 2) := by decide +kernel
theorem dX4_headOf_19 : decode cX4_headOf 19 = .ok (.if_icmp .ne 8, 3) := by decide +kernel
theorem dX4_headOf_22 : decode cX4_headOf 22 = .ok (.bipush 40, 2) := by decide +kernel
theorem dX4_headOf_24 : decode cX4_headOf 24 = .ok (.goto 4, 3) := by decide +kernel
theorem dX4_headOf_27 : decode cX4_headOf 27 = .ok (.iconst 0, 1) := by decide +kernel
theorem dX4_headOf_28 : decode cX4_headOf 28 = .ok (.ireturn, 1) := by decide +kernel
theorem yv_X4_headOf : YS yX4_headOf cX4_headOf 2 (some .int) 1 := ⟨kw4_21, kw1_12, kw4_22, by decide +kernel⟩
set_option maxHeartbeats 4000000 in
set_option maxRecDepth 100000 in
theorem c_X4_headOf {l : Launch} {D : va_G} {cy : Nat → ClassId} {ws : va_W} {b n : Nat} {f : Nat → UInt8} (hB : PK cy ws b f n)  : RO l yX4_headOf cX4_headOf 2 (some .int) 1 21 [.ref b] D cy ws (.int (nI (tg_head (tg_rd f n)))) := by
  refine ROi (by decide) (lv0 := [(0, .ref b)]) rfl (Nat.le_of_ble_eq_true rfl) ?_
  intro p e s m args below meth c ls Q S hP hK hend hl
  have hx := S.1
  have hb := S.2.1
  have hown : s.vm.findClass RX4 = some m.cls := S.2.2.2.1
  have ht : ∀ w ∈ lw_g, w.before args s = true := fun w h => S.2.2.2.2 w (List.mem_cons_of_mem _ h)
  obtain ⟨kb, ka, ar, N, hb0, ha0, hnN, hN⟩ := id hB
  refine lv_aload_n hx hb dX4_headOf_0 rfl (lv_at hl 0 rfl) ?_
  refine nv_iconst (k := 0) hx hb dX4_headOf_1 rfl ?_
  refine ro_V S (c_X1_octet hB (k := 0) (by omega)) kw2_33 yv_X1_octet ⟨Nat.le_of_ble_eq_true rfl, Nat.le_of_ble_eq_true rfl⟩ hK hP (va_recv hK hP (ci := 2) (q0 := kb) rfl hb0) rfl hl.1 rfl (Nat.le_of_ble_eq_true rfl) dX4_headOf_2 ⟨Nat.le_refl _, Nat.le_refl _⟩ ?_
  have hq2 := tg_rd_lt f n 0
  refine nv_iconst (k := 4) hx hb dX4_headOf_5 rfl ?_
  refine nv_iushr hx hb (by omega) (by omega) dX4_headOf_6 ?_
  refine lv_istore_n (lv' := [(1, .int (nI ((tg_rd f n 0) / 2 ^ 4))), (0, .ref b)]) hx hb dX4_headOf_7 rfl hl (by decide) rfl (fun ls hl => ?_)
  refine lv_iload_n hx hb dX4_headOf_8 rfl (lv_at hl 0 rfl) ?_
  refine nv_iconst (k := 4) hx hb dX4_headOf_9 rfl ?_
  refine nv_icmp_ne (tgt := 16) hx hb dX4_headOf_10 (by decide) (by omega) (by omega) (fun h10 => ?_) (fun h10 => ?_)
  · skip
    refine lv_iload_n hx hb dX4_headOf_16 rfl (lv_at hl 0 rfl) ?_
    refine nv_bipush (k := 6) hx hb dX4_headOf_17 (by decide) ?_
    refine nv_icmp_ne (tgt := 27) hx hb dX4_headOf_19 (by decide) (by omega) (by omega) (fun h19 => ?_) (fun h19 => ?_)
    · skip
      refine nv_iconst (k := 0) hx hb dX4_headOf_27 rfl ?_
      exact hend ((congrArg nI (by simp only [tg_head]; (repeat' split) <;> omega))) dX4_headOf_28
    refine nv_bipush (k := 40) hx hb dX4_headOf_22 (by decide) ?_
    refine lv_goto (tgt := 28) hx hb dX4_headOf_24 (by decide) ?_
    exact hend ((congrArg nI (by simp only [tg_head]; (repeat' split) <;> omega))) dX4_headOf_28
  refine nv_bipush (k := 20) hx hb dX4_headOf_13 (by decide) ?_
  exact hend ((congrArg nI (by simp only [tg_head]; (repeat' split) <;> omega))) dX4_headOf_15
theorem dX4_protocolOf_0 : decode cX4_protocolOf 0 = .ok (.aload_n 0, 1) := by decide +kernel
theorem dX4_protocolOf_1 : decode cX4_protocolOf 1 = .ok (.iload_n 1, 1) := by decide +kernel
theorem dX4_protocolOf_2 : decode cX4_protocolOf 2 = .ok (.bipush 40, 2) := by decide +kernel
theorem dX4_protocolOf_4 : decode cX4_protocolOf 4 = .ok (.if_icmp .ne 8, 3) := by decide +kernel
theorem dX4_protocolOf_7 : decode cX4_protocolOf 7 = .ok (.bipush 6, 2) := by decide +kernel
theorem dX4_protocolOf_9 : decode cX4_protocolOf 9 = .ok (.goto 5, 3) := by decide +kernel
theorem dX4_protocolOf_12 : decode cX4_protocolOf 12 = .ok (.bipush 9, 2) := by decide +kernel
theorem dX4_protocolOf_14 : decode cX4_protocolOf 14 = .ok (.invokevirtual 9, 3) := by decide +kernel
theorem dX4_protocolOf_17 : decode cX4_protocolOf 17 = .ok (.ireturn, 1) := by decide +kernel
theorem yv_X4_protocolOf : YS yX4_protocolOf cX4_protocolOf 2 (some .int) 2 := ⟨kw2_48, kw1_12, kw2_49, by decide +kernel⟩
set_option maxHeartbeats 4000000 in
set_option maxRecDepth 100000 in
theorem c_X4_protocolOf {l : Launch} {D : va_G} {cy : Nat → ClassId} {ws : va_W} {b n : Nat} {f : Nat → UInt8} (hB : PK cy ws b f n) {hd : Nat} (hh : hd < 2 ^ 20) : RO l yX4_protocolOf cX4_protocolOf 2 (some .int) 1 21 [.ref b, .int (nI hd)] D cy ws (.int (nI (tg_proto (tg_rd f n) hd))) := by
  refine ROi (by decide) (lv0 := [(0, .ref b), (1, .int (nI hd))]) rfl (Nat.le_of_ble_eq_true rfl) ?_
  intro p e s m args below meth c ls Q S hP hK hend hl
  have hx := S.1
  have hb := S.2.1
  have hown : s.vm.findClass RX4 = some m.cls := S.2.2.2.1
  have ht : ∀ w ∈ lw_g, w.before args s = true := fun w h => S.2.2.2.2 w (List.mem_cons_of_mem _ h)
  obtain ⟨kb, ka, ar, N, hb0, ha0, hnN, hN⟩ := id hB
  refine lv_aload_n hx hb dX4_protocolOf_0 rfl (lv_at hl 0 rfl) ?_
  refine lv_iload_n hx hb dX4_protocolOf_1 rfl (lv_at hl 1 rfl) ?_
  refine nv_bipush (k := 40) hx hb dX4_protocolOf_2 (by decide) ?_
  refine nv_icmp_ne (tgt := 12) hx hb dX4_protocolOf_4 (by decide) (by omega) (by omega) (fun h4 => ?_) (fun h4 => ?_)
  · skip
    refine nv_bipush (k := 9) hx hb dX4_protocolOf_12 (by decide) ?_
    refine ro_V S (c_X1_octet hB (k := 9) (by omega)) kw2_33 yv_X1_octet ⟨Nat.le_of_ble_eq_true rfl, Nat.le_of_ble_eq_true rfl⟩ hK hP (va_recv hK hP (ci := 2) (q0 := kb) rfl hb0) rfl hl.1 rfl (Nat.le_of_ble_eq_true rfl) dX4_protocolOf_14 ⟨Nat.le_refl _, Nat.le_refl _⟩ ?_
    have hq14 := tg_rd_lt f n 9
    exact hend ((congrArg nI (by simp only [tg_proto]; (repeat' split) <;> omega))) dX4_protocolOf_17
  refine nv_bipush (k := 6) hx hb dX4_protocolOf_7 (by decide) ?_
  refine lv_goto (tgt := 14) hx hb dX4_protocolOf_9 (by decide) ?_
  refine ro_V S (c_X1_octet hB (k := 6) (by omega)) kw2_33 yv_X1_octet ⟨Nat.le_of_ble_eq_true rfl, Nat.le_of_ble_eq_true rfl⟩ hK hP (va_recv hK hP (ci := 2) (q0 := kb) rfl hb0) rfl hl.1 rfl (Nat.le_of_ble_eq_true rfl) dX4_protocolOf_14 ⟨Nat.le_refl _, Nat.le_refl _⟩ ?_
  have hq14 := tg_rd_lt f n 6
  exact hend ((congrArg nI (by simp only [tg_proto]; (repeat' split) <;> omega))) dX4_protocolOf_17
theorem dX4_sumAt_0 : decode cX4_sumAt 0 = .ok (.iload_n 0, 1) := by decide +kernel
theorem dX4_sumAt_1 : decode cX4_sumAt 1 = .ok (.bipush 6, 2) := by decide +kernel
theorem dX4_sumAt_3 : decode cX4_sumAt 3 = .ok (.if_icmp .ne 6, 3) := by decide +kernel
theorem dX4_sumAt_6 : decode cX4_sumAt 6 = .ok (.bipush 16, 2) := by decide +kernel
theorem dX4_sumAt_8 : decode cX4_sumAt 8 = .ok (.ireturn, 1) := by decide +kernel
theorem dX4_sumAt_9 : decode cX4_sumAt 9 = .ok (.iload_n 0, 1) := by decide +kernel
theorem dX4_sumAt_10 : decode cX4_sumAt 10 = .ok (.bipush 17, 2) := by decide +kernel
theorem dX4_sumAt_12 : decode cX4_sumAt 12 = .ok (.if_icmp .ne 8, 3) := by decide +kernel
theorem dX4_sumAt_15 : decode cX4_sumAt 15 = .ok (.bipush 6, 2) := by decide +kernel
theorem dX4_sumAt_17 : decode cX4_sumAt 17 = .ok (.goto 4, 3) := by decide +kernel
theorem dX4_sumAt_20 : decode cX4_sumAt 20 = .ok (.iconst 2, 1) := by decide +kernel
theorem dX4_sumAt_21 : decode cX4_sumAt 21 = .ok (.ireturn, 1) := by decide +kernel
theorem yv_X4_sumAt : YS yX4_sumAt cX4_sumAt 1 (some .int) 1 := ⟨kw2_51, kw1_12, kw2_52, by decide +kernel⟩
set_option maxHeartbeats 4000000 in
set_option maxRecDepth 100000 in
theorem c_X4_sumAt {l : Launch} {D : va_G} {cy : Nat → ClassId} {ws : va_W} {q : Nat} (hq : q < 2 ^ 31) : RO l yX4_sumAt cX4_sumAt 1 (some .int) 0 0 [.int (nI q)] D cy ws (.int (nI (tg_sumAt q))) := by
  refine ROi (by decide) (lv0 := [(0, .int (nI q))]) rfl (Nat.le_of_ble_eq_true rfl) ?_
  intro p e s m args below meth c ls Q S hP hK hend hl
  have hx := S.1
  have hb := S.2.1
  have hown : s.vm.findClass RX4 = some m.cls := S.2.2.2.1
  have ht : ∀ w ∈ lw_g, w.before args s = true := fun w h => S.2.2.2.2 w (List.mem_cons_of_mem _ h)
  refine lv_iload_n hx hb dX4_sumAt_0 rfl (lv_at hl 0 rfl) ?_
  refine nv_bipush (k := 6) hx hb dX4_sumAt_1 (by decide) ?_
  refine nv_icmp_ne (tgt := 9) hx hb dX4_sumAt_3 (by decide) (by omega) (by omega) (fun h3 => ?_) (fun h3 => ?_)
  · skip
    refine lv_iload_n hx hb dX4_sumAt_9 rfl (lv_at hl 0 rfl) ?_
    refine nv_bipush (k := 17) hx hb dX4_sumAt_10 (by decide) ?_
    refine nv_icmp_ne (tgt := 20) hx hb dX4_sumAt_12 (by decide) (by omega) (by omega) (fun h12 => ?_) (fun h12 => ?_)
    · skip
      refine nv_iconst (k := 2) hx hb dX4_sumAt_20 rfl ?_
      exact hend ((congrArg nI (by simp only [tg_sumAt]; (repeat' split) <;> omega))) dX4_sumAt_21
    refine nv_bipush (k := 6) hx hb dX4_sumAt_15 (by decide) ?_
    refine lv_goto (tgt := 21) hx hb dX4_sumAt_17 (by decide) ?_
    exact hend ((congrArg nI (by simp only [tg_sumAt]; (repeat' split) <;> omega))) dX4_sumAt_21
  refine nv_bipush (k := 16) hx hb dX4_sumAt_6 (by decide) ?_
  exact hend ((congrArg nI (by simp only [tg_sumAt]; (repeat' split) <;> omega))) dX4_sumAt_8
theorem dX4_hasPorts_0 : decode cX4_hasPorts 0 = .ok (.iload_n 0, 1) := by decide +kernel
theorem dX4_hasPorts_1 : decode cX4_hasPorts 1 = .ok (.bipush 6, 2) := by decide +kernel
theorem dX4_hasPorts_3 : decode cX4_hasPorts 3 = .ok (.if_icmp .eq 9, 3) := by decide +kernel
theorem dX4_hasPorts_6 : decode cX4_hasPorts 6 = .ok (.iload_n 0, 1) := by decide +kernel
theorem dX4_hasPorts_7 : decode cX4_hasPorts 7 = .ok (.bipush 17, 2) := by decide +kernel
theorem dX4_hasPorts_9 : decode cX4_hasPorts 9 = .ok (.if_icmp .ne 7, 3) := by decide +kernel
theorem dX4_hasPorts_12 : decode cX4_hasPorts 12 = .ok (.iconst 1, 1) := by decide +kernel
theorem dX4_hasPorts_13 : decode cX4_hasPorts 13 = .ok (.goto 4, 3) := by decide +kernel
theorem dX4_hasPorts_16 : decode cX4_hasPorts 16 = .ok (.iconst 0, 1) := by decide +kernel
theorem dX4_hasPorts_17 : decode cX4_hasPorts 17 = .ok (.ireturn, 1) := by decide +kernel
theorem yv_X4_hasPorts : YS yX4_hasPorts cX4_hasPorts 1 (some .boolean) 1 := ⟨kw2_100, kw1_12, kw2_101, by decide +kernel⟩
set_option maxHeartbeats 4000000 in
set_option maxRecDepth 100000 in
theorem c_X4_hasPorts {l : Launch} {D : va_G} {cy : Nat → ClassId} {ws : va_W} {q : Nat} (hq : q < 2 ^ 31) : RO l yX4_hasPorts cX4_hasPorts 1 (some .boolean) 0 0 [.int (nI q)] D cy ws (.int (bI (tg_ports q))) := by
  refine ROz (by decide) (lv0 := [(0, .int (nI q))]) rfl (Nat.le_of_ble_eq_true rfl) ?_
  intro p e s m args below meth c ls Q S hP hK hend hl
  have hx := S.1
  have hb := S.2.1
  have hown : s.vm.findClass RX4 = some m.cls := S.2.2.2.1
  have ht : ∀ w ∈ lw_g, w.before args s = true := fun w h => S.2.2.2.2 w (List.mem_cons_of_mem _ h)
  refine lv_iload_n hx hb dX4_hasPorts_0 rfl (lv_at hl 0 rfl) ?_
  refine nv_bipush (k := 6) hx hb dX4_hasPorts_1 (by decide) ?_
  refine nv_icmp_eq (tgt := 12) hx hb dX4_hasPorts_3 (by decide) (by omega) (by omega) (fun h3 => ?_) (fun h3 => ?_)
  · skip
    refine nv_iconst (k := 1) hx hb dX4_hasPorts_12 rfl ?_
    refine lv_goto (tgt := 17) hx hb dX4_hasPorts_13 (by decide) ?_
    exact hend ((bI_t (by simp only [tg_ports]; exact decide_eq_true (by omega)))) dX4_hasPorts_17
  refine lv_iload_n hx hb dX4_hasPorts_6 rfl (lv_at hl 0 rfl) ?_
  refine nv_bipush (k := 17) hx hb dX4_hasPorts_7 (by decide) ?_
  refine nv_icmp_ne (tgt := 16) hx hb dX4_hasPorts_9 (by decide) (by omega) (by omega) (fun h9 => ?_) (fun h9 => ?_)
  · skip
    refine nv_iconst (k := 0) hx hb dX4_hasPorts_16 rfl ?_
    exact hend ((bI_f (by simp only [tg_ports]; exact decide_eq_false (by omega)))) dX4_hasPorts_17
  refine nv_iconst (k := 1) hx hb dX4_hasPorts_12 rfl ?_
  refine lv_goto (tgt := 17) hx hb dX4_hasPorts_13 (by decide) ?_
  exact hend ((bI_t (by simp only [tg_ports]; exact decide_eq_true (by omega)))) dX4_hasPorts_17
theorem dX4_sourcePortAt_0 : decode cX4_sourcePortAt 0 = .ok (.iload_n 0, 1) := by decide +kernel
theorem dX4_sourcePortAt_1 : decode cX4_sourcePortAt 1 = .ok (.invokestatic 15, 3) := by decide +kernel
theorem dX4_sourcePortAt_4 : decode cX4_sourcePortAt 4 = .ok (.ifCond .eq 7, 3) := by decide +kernel
theorem dX4_sourcePortAt_7 : decode cX4_sourcePortAt 7 = .ok (.iconst 0, 1) := by decide +kernel
theorem dX4_sourcePortAt_8 : decode cX4_sourcePortAt 8 = .ok (.goto 4, 3) := by decide +kernel
theorem dX4_sourcePortAt_11 : decode cX4_sourcePortAt 11 = .ok (.iconst 4, 1) := by decide +kernel
theorem dX4_sourcePortAt_12 : decode cX4_sourcePortAt 12 = .ok (.ireturn, 1) := by decide +kernel
theorem yv_X4_sourcePortAt : YS yX4_sourcePortAt cX4_sourcePortAt 1 (some .int) 1 := ⟨kw2_97, kw1_12, kw2_98, by decide +kernel⟩
set_option maxHeartbeats 4000000 in
set_option maxRecDepth 100000 in
theorem c_X4_sourcePortAt {l : Launch} {D : va_G} {cy : Nat → ClassId} {ws : va_W} {q : Nat} (hq : q < 2 ^ 31) : RO l yX4_sourcePortAt cX4_sourcePortAt 1 (some .int) 1 20 [.int (nI q)] D cy ws (.int (nI (tg_spa q))) := by
  refine ROi (by decide) (lv0 := [(0, .int (nI q))]) rfl (Nat.le_of_ble_eq_true rfl) ?_
  intro p e s m args below meth c ls Q S hP hK hend hl
  have hx := S.1
  have hb := S.2.1
  have hown : s.vm.findClass RX4 = some m.cls := S.2.2.2.1
  have ht : ∀ w ∈ lw_g, w.before args s = true := fun w h => S.2.2.2.2 w (List.mem_cons_of_mem _ h)
  refine lv_iload_n hx hb dX4_sourcePortAt_0 rfl (lv_at hl 0 rfl) ?_
  refine ro_S S (c_X4_hasPorts (q := q) (by omega)) kw2_99 yv_X4_hasPorts ⟨Nat.le_of_ble_eq_true rfl, Nat.le_of_ble_eq_true rfl⟩ hK hP rfl hl.1 rfl (Nat.le_of_ble_eq_true rfl) dX4_sourcePortAt_1 ⟨Nat.le_refl _, Nat.le_refl _⟩ ?_
  refine nv_if_eqb (tgt := 11) hx hb dX4_sourcePortAt_4 (by decide) (fun h4 => ?_) (fun h4 => ?_)
  · skip
    refine nv_iconst (k := 4) hx hb dX4_sourcePortAt_11 rfl ?_
    exact hend ((congrArg nI (by simp only [tg_ports, tg_spa, decide_eq_true_eq, decide_eq_false_iff_not] at *; (repeat' split) <;> omega))) dX4_sourcePortAt_12
  refine nv_iconst (k := 0) hx hb dX4_sourcePortAt_7 rfl ?_
  refine lv_goto (tgt := 12) hx hb dX4_sourcePortAt_8 (by decide) ?_
  exact hend ((congrArg nI (by simp only [tg_ports, tg_spa, decide_eq_true_eq, decide_eq_false_iff_not] at *; (repeat' split) <;> omega))) dX4_sourcePortAt_12
theorem dX4_destinationPortAt_0 : decode cX4_destinationPortAt 0 = .ok (.iload_n 0, 1) := by decide +kernel
theorem dX4_destinationPortAt_1 : decode cX4_destinationPortAt 1 = .ok (.invokestatic 15, 3) := by decide +kernel
theorem dX4_destinationPortAt_4 : decode cX4_destinationPortAt 4 = .ok (.ifCond .eq 7, 3) := by decide +kernel
theorem dX4_destinationPortAt_7 : decode cX4_destinationPortAt 7 = .ok (.iconst 2, 1) := by decide +kernel
theorem dX4_destinationPortAt_8 : decode cX4_destinationPortAt 8 = .ok (.goto 4, 3) := by decide +kernel
theorem dX4_destinationPortAt_11 : decode cX4_destinationPortAt 11 = .ok (.iconst 4, 1) := by decide +kernel
theorem dX4_destinationPortAt_12 : decode cX4_destinationPortAt 12 = .ok (.ireturn, 1) := by decide +kernel
theorem yv_X4_destinationPortAt : YS yX4_destinationPortAt cX4_destinationPortAt 1 (some .int) 1 := ⟨kw2_106, kw1_12, kw2_107, by decide +kernel⟩
set_option maxHeartbeats 4000000 in
set_option maxRecDepth 100000 in
theorem c_X4_destinationPortAt {l : Launch} {D : va_G} {cy : Nat → ClassId} {ws : va_W} {q : Nat} (hq : q < 2 ^ 31) : RO l yX4_destinationPortAt cX4_destinationPortAt 1 (some .int) 1 20 [.int (nI q)] D cy ws (.int (nI (tg_dpa q))) := by
  refine ROi (by decide) (lv0 := [(0, .int (nI q))]) rfl (Nat.le_of_ble_eq_true rfl) ?_
  intro p e s m args below meth c ls Q S hP hK hend hl
  have hx := S.1
  have hb := S.2.1
  have hown : s.vm.findClass RX4 = some m.cls := S.2.2.2.1
  have ht : ∀ w ∈ lw_g, w.before args s = true := fun w h => S.2.2.2.2 w (List.mem_cons_of_mem _ h)
  refine lv_iload_n hx hb dX4_destinationPortAt_0 rfl (lv_at hl 0 rfl) ?_
  refine ro_S S (c_X4_hasPorts (q := q) (by omega)) kw2_99 yv_X4_hasPorts ⟨Nat.le_of_ble_eq_true rfl, Nat.le_of_ble_eq_true rfl⟩ hK hP rfl hl.1 rfl (Nat.le_of_ble_eq_true rfl) dX4_destinationPortAt_1 ⟨Nat.le_refl _, Nat.le_refl _⟩ ?_
  refine nv_if_eqb (tgt := 11) hx hb dX4_destinationPortAt_4 (by decide) (fun h4 => ?_) (fun h4 => ?_)
  · skip
    refine nv_iconst (k := 4) hx hb dX4_destinationPortAt_11 rfl ?_
    exact hend ((congrArg nI (by simp only [tg_ports, tg_dpa, decide_eq_true_eq, decide_eq_false_iff_not] at *; (repeat' split) <;> omega))) dX4_destinationPortAt_12
  refine nv_iconst (k := 2) hx hb dX4_destinationPortAt_7 rfl ?_
  refine lv_goto (tgt := 12) hx hb dX4_destinationPortAt_8 (by decide) ?_
  exact hend ((congrArg nI (by simp only [tg_ports, tg_dpa, decide_eq_true_eq, decide_eq_false_iff_not] at *; (repeat' split) <;> omega))) dX4_destinationPortAt_12
theorem dX4_sourcePort_0 : decode cX4_sourcePort 0 = .ok (.aload_n 0, 1) := by decide +kernel
theorem dX4_sourcePort_1 : decode cX4_sourcePort 1 = .ok (.iload_n 1, 1) := by decide +kernel
theorem dX4_sourcePort_2 : decode cX4_sourcePort 2 = .ok (.iload_n 2, 1) := by decide +kernel
theorem dX4_sourcePort_3 : decode cX4_sourcePort 3 = .ok (.invokestatic 21, 3) := by decide +kernel
theorem dX4_sourcePort_6 : decode cX4_sourcePort 6 = .ok (.iadd, 1) := by decide +kernel
theorem dX4_sourcePort_7 : decode cX4_sourcePort 7 = .ok (.invokevirtual 24, 3) := by decide +kernel
theorem dX4_sourcePort_10 : decode cX4_sourcePort 10 = .ok (.ireturn, 1) := by decide +kernel
theorem yv_X4_sourcePort : YS yX4_sourcePort cX4_sourcePort 3 (some .int) 3 := ⟨kw2_94, kw1_12, kw2_95, by decide +kernel⟩
set_option maxHeartbeats 4000000 in
set_option maxRecDepth 100000 in
theorem c_X4_sourcePort {l : Launch} {D : va_G} {cy : Nat → ClassId} {ws : va_W} {b n : Nat} {f : Nat → UInt8} (hB : PK cy ws b f n) {a q : Nat} (ha : a < 2 ^ 20) (hq : q < 2 ^ 31) : RO l yX4_sourcePort cX4_sourcePort 3 (some .int) 2 47 [.ref b, .int (nI a), .int (nI q)] D cy ws (.int (nI (tg_pr (tg_rd f n) (a + tg_spa q)))) := by
  refine ROi (by decide) (lv0 := [(0, .ref b), (1, .int (nI a)), (2, .int (nI q))]) rfl (Nat.le_of_ble_eq_true rfl) ?_
  intro p e s m args below meth c ls Q S hP hK hend hl
  have hx := S.1
  have hb := S.2.1
  have hown : s.vm.findClass RX4 = some m.cls := S.2.2.2.1
  have ht : ∀ w ∈ lw_g, w.before args s = true := fun w h => S.2.2.2.2 w (List.mem_cons_of_mem _ h)
  obtain ⟨kb, ka, ar, N, hb0, ha0, hnN, hN⟩ := id hB
  refine lv_aload_n hx hb dX4_sourcePort_0 rfl (lv_at hl 0 rfl) ?_
  refine lv_iload_n hx hb dX4_sourcePort_1 rfl (lv_at hl 1 rfl) ?_
  refine lv_iload_n hx hb dX4_sourcePort_2 rfl (lv_at hl 2 rfl) ?_
  refine ro_S S (c_X4_sourcePortAt (q := q) (by omega)) kw2_96 yv_X4_sourcePortAt ⟨Nat.le_of_ble_eq_true rfl, Nat.le_of_ble_eq_true rfl⟩ hK hP rfl hl.1 rfl (Nat.le_of_ble_eq_true rfl) dX4_sourcePort_3 ⟨Nat.le_refl _, Nat.le_refl _⟩ ?_
  have hq3 := tg_spa_le q
  refine nv_iadd hx hb dX4_sourcePort_6 ?_
  refine ro_V S (c_X1_pair hB (a := a + (tg_spa q)) (by omega)) kw2_37 yv_X1_pair ⟨Nat.le_of_ble_eq_true rfl, Nat.le_of_ble_eq_true rfl⟩ hK hP (va_recv hK hP (ci := 2) (q0 := kb) rfl hb0) rfl hl.1 rfl (Nat.le_of_ble_eq_true rfl) dX4_sourcePort_7 ⟨Nat.le_refl _, Nat.le_refl _⟩ ?_
  have hq7 := tg_pr_lt f n (a + (tg_spa q))
  exact hend (rfl) dX4_sourcePort_10
theorem dX4_destinationPort_0 : decode cX4_destinationPort 0 = .ok (.aload_n 0, 1) := by decide +kernel
theorem dX4_destinationPort_1 : decode cX4_destinationPort 1 = .ok (.iload_n 1, 1) := by decide +kernel
theorem dX4_destinationPort_2 : decode cX4_destinationPort 2 = .ok (.iload_n 2, 1) := by decide +kernel
theorem dX4_destinationPort_3 : decode cX4_destinationPort 3 = .ok (.invokestatic 27, 3) := by decide +kernel
theorem dX4_destinationPort_6 : decode cX4_destinationPort 6 = .ok (.iadd, 1) := by decide +kernel
theorem dX4_destinationPort_7 : decode cX4_destinationPort 7 = .ok (.invokevirtual 24, 3) := by decide +kernel
theorem dX4_destinationPort_10 : decode cX4_destinationPort 10 = .ok (.ireturn, 1) := by decide +kernel
theorem yv_X4_destinationPort : YS yX4_destinationPort cX4_destinationPort 3 (some .int) 3 := ⟨kw2_103, kw1_12, kw2_104, by decide +kernel⟩
set_option maxHeartbeats 4000000 in
set_option maxRecDepth 100000 in
theorem c_X4_destinationPort {l : Launch} {D : va_G} {cy : Nat → ClassId} {ws : va_W} {b n : Nat} {f : Nat → UInt8} (hB : PK cy ws b f n) {a q : Nat} (ha : a < 2 ^ 20) (hq : q < 2 ^ 31) : RO l yX4_destinationPort cX4_destinationPort 3 (some .int) 2 47 [.ref b, .int (nI a), .int (nI q)] D cy ws (.int (nI (tg_pr (tg_rd f n) (a + tg_dpa q)))) := by
  refine ROi (by decide) (lv0 := [(0, .ref b), (1, .int (nI a)), (2, .int (nI q))]) rfl (Nat.le_of_ble_eq_true rfl) ?_
  intro p e s m args below meth c ls Q S hP hK hend hl
  have hx := S.1
  have hb := S.2.1
  have hown : s.vm.findClass RX4 = some m.cls := S.2.2.2.1
  have ht : ∀ w ∈ lw_g, w.before args s = true := fun w h => S.2.2.2.2 w (List.mem_cons_of_mem _ h)
  obtain ⟨kb, ka, ar, N, hb0, ha0, hnN, hN⟩ := id hB
  refine lv_aload_n hx hb dX4_destinationPort_0 rfl (lv_at hl 0 rfl) ?_
  refine lv_iload_n hx hb dX4_destinationPort_1 rfl (lv_at hl 1 rfl) ?_
  refine lv_iload_n hx hb dX4_destinationPort_2 rfl (lv_at hl 2 rfl) ?_
  refine ro_S S (c_X4_destinationPortAt (q := q) (by omega)) kw2_105 yv_X4_destinationPortAt ⟨Nat.le_of_ble_eq_true rfl, Nat.le_of_ble_eq_true rfl⟩ hK hP rfl hl.1 rfl (Nat.le_of_ble_eq_true rfl) dX4_destinationPort_3 ⟨Nat.le_refl _, Nat.le_refl _⟩ ?_
  have hq3 := tg_dpa_le q
  refine nv_iadd hx hb dX4_destinationPort_6 ?_
  refine ro_V S (c_X1_pair hB (a := a + (tg_dpa q)) (by omega)) kw2_37 yv_X1_pair ⟨Nat.le_of_ble_eq_true rfl, Nat.le_of_ble_eq_true rfl⟩ hK hP (va_recv hK hP (ci := 2) (q0 := kb) rfl hb0) rfl hl.1 rfl (Nat.le_of_ble_eq_true rfl) dX4_destinationPort_7 ⟨Nat.le_refl _, Nat.le_refl _⟩ ?_
  have hq7 := tg_pr_lt f n (a + (tg_dpa q))
  exact hend (rfl) dX4_destinationPort_10
theorem dX4_isSoundTcp_0 : decode cX4_isSoundTcp 0 = .ok (.aload_n 0, 1) := by decide +kernel
theorem dX4_isSoundTcp_1 : decode cX4_isSoundTcp 1 = .ok (.invokevirtual 30, 3) := by decide +kernel
theorem dX4_isSoundTcp_4 : decode cX4_isSoundTcp 4 = .ok (.iload_n 1, 1) := by decide +kernel
theorem dX4_isSoundTcp_5 : decode cX4_isSoundTcp 5 = .ok (.isub, 1) := by decide +kernel
theorem dX4_isSoundTcp_6 : decode cX4_isSoundTcp 6 = .ok (.istore_n 2, 1) := by decide +kernel
theorem dX4_isSoundTcp_7 : decode cX4_isSoundTcp 7 = .ok (.aload_n 0, 1) := by decide +kernel
theorem dX4_isSoundTcp_8 : decode cX4_isSoundTcp 8 = .ok (.iload_n 1, 1) := by decide +kernel
theorem dX4_isSoundTcp_9 : decode cX4_isSoundTcp 9 = .ok (.bipush 12, 2) := by decide +kernel
theorem dX4_isSoundTcp_11 : decode cX4_isSoundTcp 11 = .ok (.iadd, 1) := by decide +kernel
theorem dX4_isSoundTcp_12 : decode cX4_isSoundTcp 12 = .ok (.invokevirtual 9, 3) := by decide +kernel
theorem dX4_isSoundTcp_15 : decode cX4_isSoundTcp 15 = .ok (.iconst 4, 1) := by decide +kernel
theorem dX4_isSoundTcp_16 : decode cX4_isSoundTcp 16 = .ok (.iushr, 1) := by decide +kernel
theorem dX4_isSoundTcp_17 : decode cX4_isSoundTcp 17 = .ok (.istore_n 3, 1) := by decide +kernel
theorem dX4_isSoundTcp_18 : decode cX4_isSoundTcp 18 = .ok (.iload_n 2, 1) := by decide +kernel
theorem dX4_isSoundTcp_19 : decode cX4_isSoundTcp 19 = .ok (.bipush 20, 2) := by decide +kernel
theorem dX4_isSoundTcp_21 : decode cX4_isSoundTcp 21 = .ok (.if_icmp .lt 19, 3) := by decide +kernel
theorem dX4_isSoundTcp_24 : decode cX4_isSoundTcp 24 = .ok (.iload_n 3, 1) := by decide +kernel
theorem dX4_isSoundTcp_25 : decode cX4_isSoundTcp 25 = .ok (.iconst 5, 1) := by decide +kernel
theorem dX4_isSoundTcp_26 : decode cX4_isSoundTcp 26 = .ok (.if_icmp .lt 14, 3) := by decide +kernel
theorem dX4_isSoundTcp_29 : decode cX4_isSoundTcp 29 = .ok (.iconst 4, 1) := by decide +kernel
theorem dX4_isSoundTcp_30 : decode cX4_isSoundTcp 30 = .ok (.iload_n 3, 1) := by decide +kernel
theorem dX4_isSoundTcp_31 : decode cX4_isSoundTcp 31 = .ok (.imul, 1) := by decide +kernel
theorem dX4_isSoundTcp_32 : decode cX4_isSoundTcp 32 = .ok (.iload_n 2, 1) := by decide +kernel
theorem dX4_isSoundTcp_33 : decode cX4_isSoundTcp 33 = .ok (.if_icmp .gt 7, 3) := by decide +kernel
theorem dX4_isSoundTcp_36 : decode cX4_isSoundTcp 36 = .ok (.iconst 1, 1) := by decide +kernel
theorem dX4_isSoundTcp_37 : decode cX4_isSoundTcp 37 = .ok (.goto 4, 3) := by decide +kernel
theorem dX4_isSoundTcp_40 : decode cX4_isSoundTcp 40 = .ok (.iconst 0, 1) := by decide +kernel
theorem dX4_isSoundTcp_41 : decode cX4_isSoundTcp 41 = .ok (.ireturn, 1) := by decide +kernel
theorem yv_X4_isSoundTcp : YS yX4_isSoundTcp cX4_isSoundTcp 4 (some .boolean) 2 := ⟨kw2_30, kw1_12, kw2_31, by decide +kernel⟩
set_option maxHeartbeats 4000000 in
set_option maxRecDepth 100000 in
theorem c_X4_isSoundTcp {l : Launch} {D : va_G} {cy : Nat → ClassId} {ws : va_W} {b n : Nat} {f : Nat → UInt8} (hB : PK cy ws b f n) {hd : Nat} (hh : hd ≤ n) (hn : n ≤ 1700) : RO l yX4_isSoundTcp cX4_isSoundTcp 4 (some .boolean) 1 21 [.ref b, .int (nI hd)] D cy ws (.int (bI (tg_tcp (tg_rd f n) n hd))) := by
  refine ROz (by decide) (lv0 := [(0, .ref b), (1, .int (nI hd))]) rfl (Nat.le_of_ble_eq_true rfl) ?_
  intro p e s m args below meth c ls Q S hP hK hend hl
  have hx := S.1
  have hb := S.2.1
  have hown : s.vm.findClass RX4 = some m.cls := S.2.2.2.1
  have ht : ∀ w ∈ lw_g, w.before args s = true := fun w h => S.2.2.2.2 w (List.mem_cons_of_mem _ h)
  obtain ⟨kb, ka, ar, N, hb0, ha0, hnN, hN⟩ := id hB
  refine lv_aload_n hx hb dX4_isSoundTcp_0 rfl (lv_at hl 0 rfl) ?_
  refine ro_V S (c_X1_length hB) kw2_32 yv_X1_length ⟨Nat.le_of_ble_eq_true rfl, Nat.le_of_ble_eq_true rfl⟩ hK hP (va_recv hK hP (ci := 2) (q0 := kb) rfl hb0) rfl hl.1 rfl (Nat.le_of_ble_eq_true rfl) dX4_isSoundTcp_1 ⟨Nat.le_refl _, Nat.le_refl _⟩ ?_
  refine lv_iload_n hx hb dX4_isSoundTcp_4 rfl (lv_at hl 1 rfl) ?_
  refine nv_isub hx hb (by omega) dX4_isSoundTcp_5 ?_
  refine lv_istore_n (lv' := [(2, .int (nI (n - hd))), (0, .ref b), (1, .int (nI hd))]) hx hb dX4_isSoundTcp_6 rfl hl (by decide) rfl (fun ls hl => ?_)
  refine lv_aload_n hx hb dX4_isSoundTcp_7 rfl (lv_at hl 1 rfl) ?_
  refine lv_iload_n hx hb dX4_isSoundTcp_8 rfl (lv_at hl 2 rfl) ?_
  refine nv_bipush (k := 12) hx hb dX4_isSoundTcp_9 (by decide) ?_
  refine nv_iadd hx hb dX4_isSoundTcp_11 ?_
  refine ro_V S (c_X1_octet hB (k := hd + 12) (by omega)) kw2_33 yv_X1_octet ⟨Nat.le_of_ble_eq_true rfl, Nat.le_of_ble_eq_true rfl⟩ hK hP (va_recv hK hP (ci := 2) (q0 := kb) rfl hb0) rfl hl.1 rfl (Nat.le_of_ble_eq_true rfl) dX4_isSoundTcp_12 ⟨Nat.le_refl _, Nat.le_refl _⟩ ?_
  have hq12 := tg_rd_lt f n (hd + 12)
  refine nv_iconst (k := 4) hx hb dX4_isSoundTcp_15 rfl ?_
  refine nv_iushr hx hb (by omega) (by omega) dX4_isSoundTcp_16 ?_
  refine lv_istore_n (lv' := [(3, .int (nI ((tg_rd f n (hd + 12)) / 2 ^ 4))), (2, .int (nI (n - hd))), (0, .ref b), (1, .int (nI hd))]) hx hb dX4_isSoundTcp_17 rfl hl (by decide) rfl (fun ls hl => ?_)
  refine lv_iload_n hx hb dX4_isSoundTcp_18 rfl (lv_at hl 1 rfl) ?_
  refine nv_bipush (k := 20) hx hb dX4_isSoundTcp_19 (by decide) ?_
  refine nv_icmp_lt (tgt := 40) hx hb dX4_isSoundTcp_21 (by decide) (by omega) (by omega) (fun h21 => ?_) (fun h21 => ?_)
  · skip
    refine nv_iconst (k := 0) hx hb dX4_isSoundTcp_40 rfl ?_
    exact hend ((bI_f (by simp only [tg_tcp]; exact decide_eq_false (by omega)))) dX4_isSoundTcp_41
  refine lv_iload_n hx hb dX4_isSoundTcp_24 rfl (lv_at hl 0 rfl) ?_
  refine nv_iconst (k := 5) hx hb dX4_isSoundTcp_25 rfl ?_
  refine nv_icmp_lt (tgt := 40) hx hb dX4_isSoundTcp_26 (by decide) (by omega) (by omega) (fun h26 => ?_) (fun h26 => ?_)
  · skip
    refine nv_iconst (k := 0) hx hb dX4_isSoundTcp_40 rfl ?_
    exact hend ((bI_f (by simp only [tg_tcp]; exact decide_eq_false (by omega)))) dX4_isSoundTcp_41
  refine nv_iconst (k := 4) hx hb dX4_isSoundTcp_29 rfl ?_
  refine lv_iload_n hx hb dX4_isSoundTcp_30 rfl (lv_at hl 0 rfl) ?_
  refine nv_imul hx hb dX4_isSoundTcp_31 ?_
  refine lv_iload_n hx hb dX4_isSoundTcp_32 rfl (lv_at hl 1 rfl) ?_
  refine nv_icmp_gt (tgt := 40) hx hb dX4_isSoundTcp_33 (by decide) (by omega) (by omega) (fun h33 => ?_) (fun h33 => ?_)
  · skip
    refine nv_iconst (k := 0) hx hb dX4_isSoundTcp_40 rfl ?_
    exact hend ((bI_f (by simp only [tg_tcp]; exact decide_eq_false (by omega)))) dX4_isSoundTcp_41
  refine nv_iconst (k := 1) hx hb dX4_isSoundTcp_36 rfl ?_
  refine lv_goto (tgt := 41) hx hb dX4_isSoundTcp_37 (by decide) ?_
  exact hend ((bI_t (by simp only [tg_tcp]; exact decide_eq_true (by omega)))) dX4_isSoundTcp_41
theorem dX4_isSoundUdp_0 : decode cX4_isSoundUdp 0 = .ok (.aload_n 0, 1) := by decide +kernel
theorem dX4_isSoundUdp_1 : decode cX4_isSoundUdp 1 = .ok (.invokevirtual 30, 3) := by decide +kernel
theorem dX4_isSoundUdp_4 : decode cX4_isSoundUdp 4 = .ok (.iload_n 1, 1) := by decide +kernel
theorem dX4_isSoundUdp_5 : decode cX4_isSoundUdp 5 = .ok (.isub, 1) := by decide +kernel
theorem dX4_isSoundUdp_6 : decode cX4_isSoundUdp 6 = .ok (.istore_n 2, 1) := by decide +kernel
theorem dX4_isSoundUdp_7 : decode cX4_isSoundUdp 7 = .ok (.iload_n 2, 1) := by decide +kernel
theorem dX4_isSoundUdp_8 : decode cX4_isSoundUdp 8 = .ok (.bipush 8, 2) := by decide +kernel
theorem dX4_isSoundUdp_10 : decode cX4_isSoundUdp 10 = .ok (.if_icmp .lt 18, 3) := by decide +kernel
theorem dX4_isSoundUdp_13 : decode cX4_isSoundUdp 13 = .ok (.aload_n 0, 1) := by decide +kernel
theorem dX4_isSoundUdp_14 : decode cX4_isSoundUdp 14 = .ok (.iload_n 1, 1) := by decide +kernel
theorem dX4_isSoundUdp_15 : decode cX4_isSoundUdp 15 = .ok (.iconst 4, 1) := by decide +kernel
theorem dX4_isSoundUdp_16 : decode cX4_isSoundUdp 16 = .ok (.iadd, 1) := by decide +kernel
theorem dX4_isSoundUdp_17 : decode cX4_isSoundUdp 17 = .ok (.invokevirtual 24, 3) := by decide +kernel
theorem dX4_isSoundUdp_20 : decode cX4_isSoundUdp 20 = .ok (.iload_n 2, 1) := by decide +kernel
theorem dX4_isSoundUdp_21 : decode cX4_isSoundUdp 21 = .ok (.if_icmp .ne 7, 3) := by decide +kernel
theorem dX4_isSoundUdp_24 : decode cX4_isSoundUdp 24 = .ok (.iconst 1, 1) := by decide +kernel
theorem dX4_isSoundUdp_25 : decode cX4_isSoundUdp 25 = .ok (.goto 4, 3) := by decide +kernel
theorem dX4_isSoundUdp_28 : decode cX4_isSoundUdp 28 = .ok (.iconst 0, 1) := by decide +kernel
theorem dX4_isSoundUdp_29 : decode cX4_isSoundUdp 29 = .ok (.ireturn, 1) := by decide +kernel
theorem yv_X4_isSoundUdp : YS yX4_isSoundUdp cX4_isSoundUdp 3 (some .boolean) 2 := ⟨kw2_35, kw1_12, kw2_36, by decide +kernel⟩
set_option maxHeartbeats 4000000 in
set_option maxRecDepth 100000 in
theorem c_X4_isSoundUdp {l : Launch} {D : va_G} {cy : Nat → ClassId} {ws : va_W} {b n : Nat} {f : Nat → UInt8} (hB : PK cy ws b f n) {hd : Nat} (hh : hd ≤ n) (hn : n ≤ 1700) : RO l yX4_isSoundUdp cX4_isSoundUdp 3 (some .boolean) 2 47 [.ref b, .int (nI hd)] D cy ws (.int (bI (tg_udp (tg_rd f n) n hd))) := by
  refine ROz (by decide) (lv0 := [(0, .ref b), (1, .int (nI hd))]) rfl (Nat.le_of_ble_eq_true rfl) ?_
  intro p e s m args below meth c ls Q S hP hK hend hl
  have hx := S.1
  have hb := S.2.1
  have hown : s.vm.findClass RX4 = some m.cls := S.2.2.2.1
  have ht : ∀ w ∈ lw_g, w.before args s = true := fun w h => S.2.2.2.2 w (List.mem_cons_of_mem _ h)
  obtain ⟨kb, ka, ar, N, hb0, ha0, hnN, hN⟩ := id hB
  refine lv_aload_n hx hb dX4_isSoundUdp_0 rfl (lv_at hl 0 rfl) ?_
  refine ro_V S (c_X1_length hB) kw2_32 yv_X1_length ⟨Nat.le_of_ble_eq_true rfl, Nat.le_of_ble_eq_true rfl⟩ hK hP (va_recv hK hP (ci := 2) (q0 := kb) rfl hb0) rfl hl.1 rfl (Nat.le_of_ble_eq_true rfl) dX4_isSoundUdp_1 ⟨Nat.le_refl _, Nat.le_refl _⟩ ?_
  refine lv_iload_n hx hb dX4_isSoundUdp_4 rfl (lv_at hl 1 rfl) ?_
  refine nv_isub hx hb (by omega) dX4_isSoundUdp_5 ?_
  refine lv_istore_n (lv' := [(2, .int (nI (n - hd))), (0, .ref b), (1, .int (nI hd))]) hx hb dX4_isSoundUdp_6 rfl hl (by decide) rfl (fun ls hl => ?_)
  refine lv_iload_n hx hb dX4_isSoundUdp_7 rfl (lv_at hl 0 rfl) ?_
  refine nv_bipush (k := 8) hx hb dX4_isSoundUdp_8 (by decide) ?_
  refine nv_icmp_lt (tgt := 28) hx hb dX4_isSoundUdp_10 (by decide) (by omega) (by omega) (fun h10 => ?_) (fun h10 => ?_)
  · skip
    refine nv_iconst (k := 0) hx hb dX4_isSoundUdp_28 rfl ?_
    exact hend ((bI_f (by simp only [tg_udp]; exact decide_eq_false (by omega)))) dX4_isSoundUdp_29
  refine lv_aload_n hx hb dX4_isSoundUdp_13 rfl (lv_at hl 1 rfl) ?_
  refine lv_iload_n hx hb dX4_isSoundUdp_14 rfl (lv_at hl 2 rfl) ?_
  refine nv_iconst (k := 4) hx hb dX4_isSoundUdp_15 rfl ?_
  refine nv_iadd hx hb dX4_isSoundUdp_16 ?_
  refine ro_V S (c_X1_pair hB (a := hd + 4) (by omega)) kw2_37 yv_X1_pair ⟨Nat.le_of_ble_eq_true rfl, Nat.le_of_ble_eq_true rfl⟩ hK hP (va_recv hK hP (ci := 2) (q0 := kb) rfl hb0) rfl hl.1 rfl (Nat.le_of_ble_eq_true rfl) dX4_isSoundUdp_17 ⟨Nat.le_refl _, Nat.le_refl _⟩ ?_
  have hq17 := tg_pr_lt f n (hd + 4)
  refine lv_iload_n hx hb dX4_isSoundUdp_20 rfl (lv_at hl 0 rfl) ?_
  refine nv_icmp_ne (tgt := 28) hx hb dX4_isSoundUdp_21 (by decide) (by omega) (by omega) (fun h21 => ?_) (fun h21 => ?_)
  · skip
    refine nv_iconst (k := 0) hx hb dX4_isSoundUdp_28 rfl ?_
    exact hend ((bI_f (by simp only [tg_udp]; exact decide_eq_false (by omega)))) dX4_isSoundUdp_29
  refine nv_iconst (k := 1) hx hb dX4_isSoundUdp_24 rfl ?_
  refine lv_goto (tgt := 29) hx hb dX4_isSoundUdp_25 (by decide) ?_
  exact hend ((bI_t (by simp only [tg_udp]; exact decide_eq_true (by omega)))) dX4_isSoundUdp_29
theorem dX4_isLongEnoughIcmp_0 : decode cX4_isLongEnoughIcmp 0 = .ok (.aload_n 0, 1) := by decide +kernel
theorem dX4_isLongEnoughIcmp_1 : decode cX4_isLongEnoughIcmp 1 = .ok (.invokevirtual 30, 3) := by decide +kernel
theorem dX4_isLongEnoughIcmp_4 : decode cX4_isLongEnoughIcmp 4 = .ok (.iload_n 1, 1) := by decide +kernel
theorem dX4_isLongEnoughIcmp_5 : decode cX4_isLongEnoughIcmp 5 = .ok (.isub, 1) := by decide +kernel
theorem dX4_isLongEnoughIcmp_6 : decode cX4_isLongEnoughIcmp 6 = .ok (.bipush 8, 2) := by decide +kernel
theorem dX4_isLongEnoughIcmp_8 : decode cX4_isLongEnoughIcmp 8 = .ok (.if_icmp .lt 7, 3) := by decide +kernel
theorem dX4_isLongEnoughIcmp_11 : decode cX4_isLongEnoughIcmp 11 = .ok (.iconst 1, 1) := by decide +kernel
theorem dX4_isLongEnoughIcmp_12 : decode cX4_isLongEnoughIcmp 12 = .ok (.goto 4, 3) := by decide +kernel
theorem dX4_isLongEnoughIcmp_15 : decode cX4_isLongEnoughIcmp 15 = .ok (.iconst 0, 1) := by decide +kernel
theorem dX4_isLongEnoughIcmp_16 : decode cX4_isLongEnoughIcmp 16 = .ok (.ireturn, 1) := by decide +kernel
theorem yv_X4_isLongEnoughIcmp : YS yX4_isLongEnoughIcmp cX4_isLongEnoughIcmp 2 (some .boolean) 2 := ⟨kw2_42, kw1_12, kw2_43, by decide +kernel⟩
set_option maxHeartbeats 4000000 in
set_option maxRecDepth 100000 in
theorem c_X4_isLongEnoughIcmp {l : Launch} {D : va_G} {cy : Nat → ClassId} {ws : va_W} {b n : Nat} {f : Nat → UInt8} (hB : PK cy ws b f n) {hd : Nat} (hh : hd ≤ n) (hn : n ≤ 1700) : RO l yX4_isLongEnoughIcmp cX4_isLongEnoughIcmp 2 (some .boolean) 1 20 [.ref b, .int (nI hd)] D cy ws (.int (bI (tg_icmp n hd))) := by
  refine ROz (by decide) (lv0 := [(0, .ref b), (1, .int (nI hd))]) rfl (Nat.le_of_ble_eq_true rfl) ?_
  intro p e s m args below meth c ls Q S hP hK hend hl
  have hx := S.1
  have hb := S.2.1
  have hown : s.vm.findClass RX4 = some m.cls := S.2.2.2.1
  have ht : ∀ w ∈ lw_g, w.before args s = true := fun w h => S.2.2.2.2 w (List.mem_cons_of_mem _ h)
  obtain ⟨kb, ka, ar, N, hb0, ha0, hnN, hN⟩ := id hB
  refine lv_aload_n hx hb dX4_isLongEnoughIcmp_0 rfl (lv_at hl 0 rfl) ?_
  refine ro_V S (c_X1_length hB) kw2_32 yv_X1_length ⟨Nat.le_of_ble_eq_true rfl, Nat.le_of_ble_eq_true rfl⟩ hK hP (va_recv hK hP (ci := 2) (q0 := kb) rfl hb0) rfl hl.1 rfl (Nat.le_of_ble_eq_true rfl) dX4_isLongEnoughIcmp_1 ⟨Nat.le_refl _, Nat.le_refl _⟩ ?_
  refine lv_iload_n hx hb dX4_isLongEnoughIcmp_4 rfl (lv_at hl 1 rfl) ?_
  refine nv_isub hx hb (by omega) dX4_isLongEnoughIcmp_5 ?_
  refine nv_bipush (k := 8) hx hb dX4_isLongEnoughIcmp_6 (by decide) ?_
  refine nv_icmp_lt (tgt := 15) hx hb dX4_isLongEnoughIcmp_8 (by decide) (by omega) (by omega) (fun h8 => ?_) (fun h8 => ?_)
  · skip
    refine nv_iconst (k := 0) hx hb dX4_isLongEnoughIcmp_15 rfl ?_
    exact hend ((bI_f (by simp only [tg_icmp]; exact decide_eq_false (by omega)))) dX4_isLongEnoughIcmp_16
  refine nv_iconst (k := 1) hx hb dX4_isLongEnoughIcmp_11 rfl ?_
  refine lv_goto (tgt := 16) hx hb dX4_isLongEnoughIcmp_12 (by decide) ?_
  exact hend ((bI_t (by simp only [tg_icmp]; exact decide_eq_true (by omega)))) dX4_isLongEnoughIcmp_16
theorem dX4_isError_0 : decode cX4_isError 0 = .ok (.aload_n 0, 1) := by decide +kernel
theorem dX4_isError_1 : decode cX4_isError 1 = .ok (.bipush 20, 2) := by decide +kernel
theorem dX4_isError_3 : decode cX4_isError 3 = .ok (.invokevirtual 9, 3) := by decide +kernel
theorem dX4_isError_6 : decode cX4_isError 6 = .ok (.istore_n 1, 1) := by decide +kernel
theorem dX4_isError_7 : decode cX4_isError 7 = .ok (.aload_n 0, 1) := by decide +kernel
theorem dX4_isError_8 : decode cX4_isError 8 = .ok (.bipush 9, 2) := by decide +kernel
theorem dX4_isError_10 : decode cX4_isError 10 = .ok (.invokevirtual 9, 3) := by decide +kernel
theorem dX4_isError_13 : decode cX4_isError 13 = .ok (.iconst 1, 1) := by decide +kernel
theorem dX4_isError_14 : decode cX4_isError 14 = .ok (.if_icmp .ne 18, 3) := by decide +kernel
theorem dX4_isError_17 : decode cX4_isError 17 = .ok (.iload_n 1, 1) := by decide +kernel
theorem dX4_isError_18 : decode cX4_isError 18 = .ok (.iconst 3, 1) := by decide +kernel
theorem dX4_isError_19 : decode cX4_isError 19 = .ok (.if_icmp .eq 9, 3) := by decide +kernel
theorem dX4_isError_22 : decode cX4_isError 22 = .ok (.iload_n 1, 1) := by decide +kernel
theorem dX4_isError_23 : decode cX4_isError 23 = .ok (.bipush 11, 2) := by decide +kernel
theorem dX4_isError_25 : decode cX4_isError 25 = .ok (.if_icmp .ne 7, 3) := by decide +kernel
theorem dX4_isError_28 : decode cX4_isError 28 = .ok (.iconst 1, 1) := by decide +kernel
theorem dX4_isError_29 : decode cX4_isError 29 = .ok (.goto 4, 3) := by decide +kernel
theorem dX4_isError_32 : decode cX4_isError 32 = .ok (.iconst 0, 1) := by decide +kernel
theorem dX4_isError_33 : decode cX4_isError 33 = .ok (.ireturn, 1) := by decide +kernel
theorem yv_X4_isError : YS yX4_isError cX4_isError 2 (some .boolean) 1 := ⟨kw3_187, kw1_12, kw3_188, by decide +kernel⟩
set_option maxHeartbeats 4000000 in
set_option maxRecDepth 100000 in
theorem c_X4_isError {l : Launch} {D : va_G} {cy : Nat → ClassId} {ws : va_W} {b n : Nat} {f : Nat → UInt8} (hB : PK cy ws b f n)  : RO l yX4_isError cX4_isError 2 (some .boolean) 1 21 [.ref b] D cy ws (.int (bI (tg_isErr (tg_rd f n)))) := by
  refine ROz (by decide) (lv0 := [(0, .ref b)]) rfl (Nat.le_of_ble_eq_true rfl) ?_
  intro p e s m args below meth c ls Q S hP hK hend hl
  have hx := S.1
  have hb := S.2.1
  have hown : s.vm.findClass RX4 = some m.cls := S.2.2.2.1
  have ht : ∀ w ∈ lw_g, w.before args s = true := fun w h => S.2.2.2.2 w (List.mem_cons_of_mem _ h)
  obtain ⟨kb, ka, ar, N, hb0, ha0, hnN, hN⟩ := id hB
  refine lv_aload_n hx hb dX4_isError_0 rfl (lv_at hl 0 rfl) ?_
  refine nv_bipush (k := 20) hx hb dX4_isError_1 (by decide) ?_
  refine ro_V S (c_X1_octet hB (k := 20) (by omega)) kw2_33 yv_X1_octet ⟨Nat.le_of_ble_eq_true rfl, Nat.le_of_ble_eq_true rfl⟩ hK hP (va_recv hK hP (ci := 2) (q0 := kb) rfl hb0) rfl hl.1 rfl (Nat.le_of_ble_eq_true rfl) dX4_isError_3 ⟨Nat.le_refl _, Nat.le_refl _⟩ ?_
  have hq3 := tg_rd_lt f n 20
  refine lv_istore_n (lv' := [(1, .int (nI (tg_rd f n 20))), (0, .ref b)]) hx hb dX4_isError_6 rfl hl (by decide) rfl (fun ls hl => ?_)
  refine lv_aload_n hx hb dX4_isError_7 rfl (lv_at hl 1 rfl) ?_
  refine nv_bipush (k := 9) hx hb dX4_isError_8 (by decide) ?_
  refine ro_V S (c_X1_octet hB (k := 9) (by omega)) kw2_33 yv_X1_octet ⟨Nat.le_of_ble_eq_true rfl, Nat.le_of_ble_eq_true rfl⟩ hK hP (va_recv hK hP (ci := 2) (q0 := kb) rfl hb0) rfl hl.1 rfl (Nat.le_of_ble_eq_true rfl) dX4_isError_10 ⟨Nat.le_refl _, Nat.le_refl _⟩ ?_
  have hq10 := tg_rd_lt f n 9
  refine nv_iconst (k := 1) hx hb dX4_isError_13 rfl ?_
  refine nv_icmp_ne (tgt := 32) hx hb dX4_isError_14 (by decide) (by omega) (by omega) (fun h14 => ?_) (fun h14 => ?_)
  · skip
    refine nv_iconst (k := 0) hx hb dX4_isError_32 rfl ?_
    exact hend ((bI_f (by simp only [tg_isErr]; exact decide_eq_false (by omega)))) dX4_isError_33
  refine lv_iload_n hx hb dX4_isError_17 rfl (lv_at hl 0 rfl) ?_
  refine nv_iconst (k := 3) hx hb dX4_isError_18 rfl ?_
  refine nv_icmp_eq (tgt := 28) hx hb dX4_isError_19 (by decide) (by omega) (by omega) (fun h19 => ?_) (fun h19 => ?_)
  · skip
    refine nv_iconst (k := 1) hx hb dX4_isError_28 rfl ?_
    refine lv_goto (tgt := 33) hx hb dX4_isError_29 (by decide) ?_
    exact hend ((bI_t (by simp only [tg_isErr]; exact decide_eq_true (by omega)))) dX4_isError_33
  refine lv_iload_n hx hb dX4_isError_22 rfl (lv_at hl 0 rfl) ?_
  refine nv_bipush (k := 11) hx hb dX4_isError_23 (by decide) ?_
  refine nv_icmp_ne (tgt := 32) hx hb dX4_isError_25 (by decide) (by omega) (by omega) (fun h25 => ?_) (fun h25 => ?_)
  · skip
    refine nv_iconst (k := 0) hx hb dX4_isError_32 rfl ?_
    exact hend ((bI_f (by simp only [tg_isErr]; exact decide_eq_false (by omega)))) dX4_isError_33
  refine nv_iconst (k := 1) hx hb dX4_isError_28 rfl ?_
  refine lv_goto (tgt := 33) hx hb dX4_isError_29 (by decide) ?_
  exact hend ((bI_t (by simp only [tg_isErr]; exact decide_eq_true (by omega)))) dX4_isError_33
theorem dX4_eventOf_0 : decode cX4_eventOf 0 = .ok (.iload_n 2, 1) := by decide +kernel
theorem dX4_eventOf_1 : decode cX4_eventOf 1 = .ok (.bipush 6, 2) := by decide +kernel
theorem dX4_eventOf_3 : decode cX4_eventOf 3 = .ok (.if_icmp .eq 5, 3) := by decide +kernel
theorem dX4_eventOf_6 : decode cX4_eventOf 6 = .ok (.iconst 0, 1) := by decide +kernel
theorem dX4_eventOf_7 : decode cX4_eventOf 7 = .ok (.ireturn, 1) := by decide +kernel
theorem dX4_eventOf_8 : decode cX4_eventOf 8 = .ok (.aload_n 0, 1) := by decide +kernel
theorem dX4_eventOf_9 : decode cX4_eventOf 9 = .ok (.iload_n 1, 1) := by decide +kernel
theorem dX4_eventOf_10 : decode cX4_eventOf 10 = .ok (.bipush 13, 2) := by decide +kernel
theorem dX4_eventOf_12 : decode cX4_eventOf 12 = .ok (.iadd, 1) := by decide +kernel
theorem dX4_eventOf_13 : decode cX4_eventOf 13 = .ok (.invokevirtual 9, 3) := by decide +kernel
theorem dX4_eventOf_16 : decode cX4_eventOf 16 = .ok (.istore_n 3, 1) := by decide +kernel
theorem dX4_eventOf_17 : decode cX4_eventOf 17 = .ok (.iload_n 3, 1) := by decide +kernel
theorem dX4_eventOf_18 : decode cX4_eventOf 18 = .ok (.iconst 4, 1) := by decide +kernel
theorem dX4_eventOf_19 : decode cX4_eventOf 19 = .ok (.iand, 1) := by decide +kernel
theorem dX4_eventOf_20 : decode cX4_eventOf 20 = .ok (.ifCond .eq 5, 3) := by decide +kernel
theorem dX4_eventOf_23 : decode cX4_eventOf 23 = .ok (.iconst 3, 1) := by decide +kernel
theorem dX4_eventOf_24 : decode cX4_eventOf 24 = .ok (.ireturn, 1) := by decide +kernel
theorem dX4_eventOf_25 : decode cX4_eventOf 25 = .ok (.iload_n 3, 1) := by decide +kernel
theorem dX4_eventOf_26 : decode cX4_eventOf 26 = .ok (.iconst 2, 1) := by decide +kernel
theorem dX4_eventOf_27 : decode cX4_eventOf 27 = .ok (.iand, 1) := by decide +kernel
theorem dX4_eventOf_28 : decode cX4_eventOf 28 = .ok (.ifCond .eq 5, 3) := by decide +kernel
theorem dX4_eventOf_31 : decode cX4_eventOf 31 = .ok (.iconst 2, 1) := by decide +kernel
theorem dX4_eventOf_32 : decode cX4_eventOf 32 = .ok (.ireturn, 1) := by decide +kernel
theorem dX4_eventOf_33 : decode cX4_eventOf 33 = .ok (.iload_n 3, 1) := by decide +kernel
theorem dX4_eventOf_34 : decode cX4_eventOf 34 = .ok (.iconst 1, 1) := by decide +kernel
theorem dX4_eventOf_35 : decode cX4_eventOf 35 = .ok (.iand, 1) := by decide +kernel
theorem dX4_eventOf_36 : decode cX4_eventOf 36 = .ok (.ifCond .eq 7, 3) := by decide +kernel
theorem dX4_eventOf_39 : decode cX4_eventOf 39 = .ok (.iconst 1, 1) := by decide +kernel
theorem dX4_eventOf_40 : decode cX4_eventOf 40 = .ok (.goto 4, 3) := by decide +kernel
theorem dX4_eventOf_43 : decode cX4_eventOf 43 = .ok (.iconst 0, 1) := by decide +kernel
theorem dX4_eventOf_44 : decode cX4_eventOf 44 = .ok (.ireturn, 1) := by decide +kernel
theorem yv_X4_eventOf : YS yX4_eventOf cX4_eventOf 4 (some .int) 3 := ⟨kw2_109, kw1_12, kw2_110, by decide +kernel⟩
set_option maxHeartbeats 4000000 in
set_option maxRecDepth 100000 in
theorem c_X4_eventOf {l : Launch} {D : va_G} {cy : Nat → ClassId} {ws : va_W} {b n : Nat} {f : Nat → UInt8} (hB : PK cy ws b f n) {hd q : Nat} (hh : hd < 2 ^ 20) (hq : q < 2 ^ 31) : RO l yX4_eventOf cX4_eventOf 4 (some .int) 1 21 [.ref b, .int (nI hd), .int (nI q)] D cy ws (.int (nI (tg_event (tg_rd f n) hd q))) := by
  refine ROi (by decide) (lv0 := [(0, .ref b), (1, .int (nI hd)), (2, .int (nI q))]) rfl (Nat.le_of_ble_eq_true rfl) ?_
  intro p e s m args below meth c ls Q S hP hK hend hl
  have hx := S.1
  have hb := S.2.1
  have hown : s.vm.findClass RX4 = some m.cls := S.2.2.2.1
  have ht : ∀ w ∈ lw_g, w.before args s = true := fun w h => S.2.2.2.2 w (List.mem_cons_of_mem _ h)
  obtain ⟨kb, ka, ar, N, hb0, ha0, hnN, hN⟩ := id hB
  refine lv_iload_n hx hb dX4_eventOf_0 rfl (lv_at hl 2 rfl) ?_
  refine nv_bipush (k := 6) hx hb dX4_eventOf_1 (by decide) ?_
  refine nv_icmp_eq (tgt := 8) hx hb dX4_eventOf_3 (by decide) (by omega) (by omega) (fun h3 => ?_) (fun h3 => ?_)
  · skip
    refine lv_aload_n hx hb dX4_eventOf_8 rfl (lv_at hl 0 rfl) ?_
    refine lv_iload_n hx hb dX4_eventOf_9 rfl (lv_at hl 1 rfl) ?_
    refine nv_bipush (k := 13) hx hb dX4_eventOf_10 (by decide) ?_
    refine nv_iadd hx hb dX4_eventOf_12 ?_
    refine ro_V S (c_X1_octet hB (k := hd + 13) (by omega)) kw2_33 yv_X1_octet ⟨Nat.le_of_ble_eq_true rfl, Nat.le_of_ble_eq_true rfl⟩ hK hP (va_recv hK hP (ci := 2) (q0 := kb) rfl hb0) rfl hl.1 rfl (Nat.le_of_ble_eq_true rfl) dX4_eventOf_13 ⟨Nat.le_refl _, Nat.le_refl _⟩ ?_
    have hq13 := tg_rd_lt f n (hd + 13)
    refine lv_istore_n (lv' := [(3, .int (nI (tg_rd f n (hd + 13)))), (0, .ref b), (1, .int (nI hd)), (2, .int (nI q))]) hx hb dX4_eventOf_16 rfl hl (by decide) rfl (fun ls hl => ?_)
    refine lv_iload_n hx hb dX4_eventOf_17 rfl (lv_at hl 0 rfl) ?_
    refine nv_iconst (k := 4) hx hb dX4_eventOf_18 rfl ?_
    refine nv_iandN hx hb dX4_eventOf_19 ?_
    have hq19 : (tg_rd f n (hd + 13)) &&& (4) ≤ (4) := Nat.and_le_right
    refine nv_if_eq (tgt := 25) hx hb dX4_eventOf_20 (by decide) (by omega) (fun h20 => ?_) (fun h20 => ?_)
    · skip
      refine lv_iload_n hx hb dX4_eventOf_25 rfl (lv_at hl 0 rfl) ?_
      refine nv_iconst (k := 2) hx hb dX4_eventOf_26 rfl ?_
      refine nv_iandN hx hb dX4_eventOf_27 ?_
      have hq27 : (tg_rd f n (hd + 13)) &&& (2) ≤ (2) := Nat.and_le_right
      refine nv_if_eq (tgt := 33) hx hb dX4_eventOf_28 (by decide) (by omega) (fun h28 => ?_) (fun h28 => ?_)
      · skip
        refine lv_iload_n hx hb dX4_eventOf_33 rfl (lv_at hl 0 rfl) ?_
        refine nv_iconst (k := 1) hx hb dX4_eventOf_34 rfl ?_
        refine nv_iand 1 hx hb (by omega) (by decide) dX4_eventOf_35 ?_
        refine nv_if_eq (tgt := 43) hx hb dX4_eventOf_36 (by decide) (by omega) (fun h36 => ?_) (fun h36 => ?_)
        · skip
          refine nv_iconst (k := 0) hx hb dX4_eventOf_43 rfl ?_
          exact hend ((congrArg nI (by simp only [tg_event]; (repeat' split) <;> omega))) dX4_eventOf_44
        refine nv_iconst (k := 1) hx hb dX4_eventOf_39 rfl ?_
        refine lv_goto (tgt := 44) hx hb dX4_eventOf_40 (by decide) ?_
        exact hend ((congrArg nI (by simp only [tg_event]; (repeat' split) <;> omega))) dX4_eventOf_44
      refine nv_iconst (k := 2) hx hb dX4_eventOf_31 rfl ?_
      exact hend ((congrArg nI (by simp only [tg_event]; (repeat' split) <;> omega))) dX4_eventOf_32
    refine nv_iconst (k := 3) hx hb dX4_eventOf_23 rfl ?_
    exact hend ((congrArg nI (by simp only [tg_event]; (repeat' split) <;> omega))) dX4_eventOf_24
  refine nv_iconst (k := 0) hx hb dX4_eventOf_6 rfl ?_
  exact hend ((congrArg nI (by simp only [tg_event]; (repeat' split) <;> omega))) dX4_eventOf_7
theorem dX9_words_0 : decode cX9_words 0 = .ok (.iconst 0, 1) := by decide +kernel
theorem dX9_words_1 : decode cX9_words 1 = .ok (.istore 4, 2) := by decide +kernel
theorem dX9_words_3 : decode cX9_words 3 = .ok (.iload_n 1, 1) := by decide +kernel
theorem dX9_words_4 : decode cX9_words 4 = .ok (.istore 5, 2) := by decide +kernel
theorem dX9_words_6 : decode cX9_words 6 = .ok (.iload 5, 2) := by decide +kernel
theorem dX9_words_8 : decode cX9_words 8 = .ok (.iload_n 2, 1) := by decide +kernel
theorem dX9_words_9 : decode cX9_words 9 = .ok (.if_icmp .ge 55, 3) := by decide +kernel
theorem dX9_words_12 : decode cX9_words 12 = .ok (.iload 5, 2) := by decide +kernel
theorem dX9_words_14 : decode cX9_words 14 = .ok (.iload_n 3, 1) := by decide +kernel
theorem dX9_words_15 : decode cX9_words 15 = .ok (.if_icmp .eq 43, 3) := by decide +kernel
theorem dX9_words_18 : decode cX9_words 18 = .ok (.iload 5, 2) := by decide +kernel
theorem dX9_words_20 : decode cX9_words 20 = .ok (.iload_n 3, 1) := by decide +kernel
theorem dX9_words_21 : decode cX9_words 21 = .ok (.iconst 1, 1) := by decide +kernel
theorem dX9_words_22 : decode cX9_words 22 = .ok (.iadd, 1) := by decide +kernel
theorem dX9_words_23 : decode cX9_words 23 = .ok (.if_icmp .eq 35, 3) := by decide +kernel
theorem dX9_words_26 : decode cX9_words 26 = .ok (.iload 4, 2) := by decide +kernel
theorem dX9_words_28 : decode cX9_words 28 = .ok (.iload 5, 2) := by decide +kernel
theorem dX9_words_30 : decode cX9_words 30 = .ok (.iload_n 1, 1) := by decide +kernel
theorem dX9_words_31 : decode cX9_words 31 = .ok (.isub, 1) := by decide +kernel
theorem dX9_words_32 : decode cX9_words 32 = .ok (.iconst 1, 1) := by decide +kernel
theorem dX9_words_33 : decode cX9_words 33 = .ok (.iand, 1) := by decide +kernel
theorem dX9_words_34 : decode cX9_words 34 = .ok (.ifCond .ne 15, 3) := by decide +kernel
theorem dX9_words_37 : decode cX9_words 37 = .ok (.aload_n 0, 1) := by decide +kernel
theorem dX9_words_38 : decode cX9_words 38 = .ok (.iload 5, 2) := by decide +kernel
theorem dX9_words_40 : decode cX9_words 40 = .ok (.invokevirtual 49, 3) := by decide +kernel
theorem dX9_words_43 : decode cX9_words 43 = .ok (.bipush 8, 2) := by decide +kernel
theorem dX9_words_45 : decode cX9_words 45 = .ok (.ishl, 1) := by decide +kernel
theorem dX9_words_46 : decode cX9_words 46 = .ok (.goto 9, 3) := by decide +kernel
theorem dX9_words_49 : decode cX9_words 49 = .ok (.aload_n 0, 1) := by decide +kernel
theorem dX9_words_50 : decode cX9_words 50 = .ok (.iload 5, 2) := by decide +kernel
theorem dX9_words_52 : decode cX9_words 52 = .ok (.invokevirtual 49, 3) := by decide +kernel
theorem dX9_words_55 : decode cX9_words 55 = .ok (.iadd, 1) := by decide +kernel
theorem dX9_words_56 : decode cX9_words 56 = .ok (.istore 4, 2) := by decide +kernel
theorem dX9_words_58 : decode cX9_words 58 = .ok (.iinc 5 1, 3) := by decide +kernel
theorem dX9_words_61 : decode cX9_words 61 = .ok (.goto (-55), 3) := by decide +kernel
theorem dX9_words_64 : decode cX9_words 64 = .ok (.iload 4, 2) := by decide +kernel
theorem dX9_words_66 : decode cX9_words 66 = .ok (.ireturn, 1) := by decide +kernel
theorem yv_X9_words : YS yX9_words cX9_words 6 (some .int) 4 := ⟨kw2_59, kw1_13, kw2_60, by decide +kernel⟩
set_option maxHeartbeats 4000000 in
set_option maxRecDepth 100000 in
theorem c_X9_words {l : Launch} {D : va_G} {cy : Nat → ClassId} {ws : va_W} {b n : Nat} {f : Nat → UInt8} (hB : PK cy ws b f n) {a z w : Nat} (ha : a ≤ z) (hz : z ≤ 1700) (hw : w < 2 ^ 30) : RO l yX9_words cX9_words 6 (some .int) 1 21 [.ref b, .int (nI a), .int (nI z), .int (nI w)] D cy ws (.int (nI (tg_ws (tg_rd f n) a w (z - a)))) := by
  refine ROi (by decide) (lv0 := [(0, .ref b), (1, .int (nI a)), (2, .int (nI z)), (3, .int (nI w))]) rfl (Nat.le_of_ble_eq_true rfl) ?_
  intro p e s m args below meth c ls Q S hP hK hend hl
  have hx := S.1
  have hb := S.2.1
  have hown : s.vm.findClass RX9 = some m.cls := S.2.2.2.1
  have ht : ∀ w ∈ lw_g, w.before args s = true := fun w h => S.2.2.2.2 w (List.mem_cons_of_mem _ h)
  obtain ⟨kb, ka, ar, N, hb0, ha0, hnN, hN⟩ := id hB
  refine nv_iconst (k := 0) hx hb dX9_words_0 rfl ?_
  refine lv_istore (lv' := [(4, .int (nI 0)), (0, .ref b), (1, .int (nI a)), (2, .int (nI z)), (3, .int (nI w))]) hx hb dX9_words_1 hl (by decide) rfl (fun ls hl => ?_)
  refine lv_iload_n hx hb dX9_words_3 rfl (lv_at hl 2 rfl) ?_
  refine lv_istore (lv' := [(5, .int (nI a)), (4, .int (nI 0)), (0, .ref b), (1, .int (nI a)), (2, .int (nI z)), (3, .int (nI w))]) hx hb dX9_words_4 hl (by decide) rfl (fun ls hl => ?_)
  have L6 : ∀ (fu : Nat) (j : Nat) (t : Nat), z - (a + j) < fu → a + j ≤ z → t = tg_ws (tg_rd f n) a w j → ∀ ls : Array Slot, lv_has ls 6 [(0, .ref b), (1, .int (nI a)), (2, .int (nI z)), (3, .int (nI w)), (4, .int (nI t)), (5, .int (nI (a + j)))] → W p l e (rmo 1 21) s m args below meth c s.heap [] 0 0 Q (F0 m 6 ls []) := by
    intro fu
    induction fu with
    | zero => intro j t h9; omega
    | succ fu ih =>
      intro j t hfu hj hw ls hl
      have hwl := tg_ws_le f n a w j
      refine lv_iload hx hb dX9_words_6 (lv_at hl 5 rfl) ?_
      refine lv_iload_n hx hb dX9_words_8 rfl (lv_at hl 2 rfl) ?_
      refine nv_icmp_ge (tgt := 64) hx hb dX9_words_9 (by decide) (by omega) (by omega) (fun h9 => ?_) (fun h9 => ?_)
      · skip
        refine lv_iload hx hb dX9_words_64 (lv_at hl 4 rfl) ?_
        exact hend ((congrArg nI (by rw [hw, show z - a = j by omega]))) dX9_words_66
      refine lv_iload hx hb dX9_words_12 (lv_at hl 5 rfl) ?_
      refine lv_iload_n hx hb dX9_words_14 rfl (lv_at hl 3 rfl) ?_
      refine nv_icmp_eq (tgt := 58) hx hb dX9_words_15 (by decide) (by omega) (by omega) (fun h15 => ?_) (fun h15 => ?_)
      · skip
        refine lv_iinc (v := (nI (a + j + 1))) (lv' := [(5, .int (nI (a + j + 1))), (0, .ref b), (1, .int (nI a)), (2, .int (nI z)), (3, .int (nI w)), (4, .int (nI t))]) hx hb dX9_words_58 hl (k := 5) rfl (nI_inc _ _) (by decide) rfl (fun ls hl => ?_)
        refine lv_goto (tgt := 6) hx hb dX9_words_61 (by decide) ?_
        exact ih (j + 1) (t) (by omega) (by omega) (by rw [hw]; simp only [tg_ws]; (repeat' split) <;> omega) ls (lv_sub hl [1, 2, 3, 4, 5, 0] rfl)
      refine lv_iload hx hb dX9_words_18 (lv_at hl 5 rfl) ?_
      refine lv_iload_n hx hb dX9_words_20 rfl (lv_at hl 3 rfl) ?_
      refine nv_iconst (k := 1) hx hb dX9_words_21 rfl ?_
      refine nv_iadd hx hb dX9_words_22 ?_
      refine nv_icmp_eq (tgt := 58) hx hb dX9_words_23 (by decide) (by omega) (by omega) (fun h23 => ?_) (fun h23 => ?_)
      · skip
        refine lv_iinc (v := (nI (a + j + 1))) (lv' := [(5, .int (nI (a + j + 1))), (0, .ref b), (1, .int (nI a)), (2, .int (nI z)), (3, .int (nI w)), (4, .int (nI t))]) hx hb dX9_words_58 hl (k := 5) rfl (nI_inc _ _) (by decide) rfl (fun ls hl => ?_)
        refine lv_goto (tgt := 6) hx hb dX9_words_61 (by decide) ?_
        exact ih (j + 1) (t) (by omega) (by omega) (by rw [hw]; simp only [tg_ws]; (repeat' split) <;> omega) ls (lv_sub hl [1, 2, 3, 4, 5, 0] rfl)
      refine lv_iload hx hb dX9_words_26 (lv_at hl 4 rfl) ?_
      refine lv_iload hx hb dX9_words_28 (lv_at hl 5 rfl) ?_
      refine lv_iload_n hx hb dX9_words_30 rfl (lv_at hl 1 rfl) ?_
      refine nv_isub hx hb (by omega) dX9_words_31 ?_
      refine nv_iconst (k := 1) hx hb dX9_words_32 rfl ?_
      refine nv_iand 1 hx hb (by omega) (by decide) dX9_words_33 ?_
      refine nv_if_ne (tgt := 49) hx hb dX9_words_34 (by decide) (by omega) (fun h34 => ?_) (fun h34 => ?_)
      · skip
        refine lv_aload_n hx hb dX9_words_49 rfl (lv_at hl 0 rfl) ?_
        refine lv_iload hx hb dX9_words_50 (lv_at hl 5 rfl) ?_
        refine ro_V S (c_X1_octet hB (k := a + j) (by omega)) kw2_61 yv_X1_octet ⟨Nat.le_of_ble_eq_true rfl, Nat.le_of_ble_eq_true rfl⟩ hK hP (va_recv hK hP (ci := 2) (q0 := kb) rfl hb0) rfl hl.1 rfl (Nat.le_of_ble_eq_true rfl) dX9_words_52 ⟨Nat.le_refl _, Nat.le_refl _⟩ ?_
        have hq52 := tg_rd_lt f n (a + j)
        refine nv_iadd hx hb dX9_words_55 ?_
        refine lv_istore (lv' := [(4, .int (nI (t + (tg_rd f n (a + j))))), (0, .ref b), (1, .int (nI a)), (2, .int (nI z)), (3, .int (nI w)), (5, .int (nI (a + j)))]) hx hb dX9_words_56 hl (by decide) rfl (fun ls hl => ?_)
        refine lv_iinc (v := (nI (a + j + 1))) (lv' := [(5, .int (nI (a + j + 1))), (4, .int (nI (t + (tg_rd f n (a + j))))), (0, .ref b), (1, .int (nI a)), (2, .int (nI z)), (3, .int (nI w))]) hx hb dX9_words_58 hl (k := 5) rfl (nI_inc _ _) (by decide) rfl (fun ls hl => ?_)
        refine lv_goto (tgt := 6) hx hb dX9_words_61 (by decide) ?_
        exact ih (j + 1) (t + (tg_rd f n (a + j))) (by omega) (by omega) (by rw [hw]; simp only [tg_ws]; (repeat' split) <;> omega) ls (lv_sub hl [2, 3, 4, 5, 1, 0] rfl)
      refine lv_aload_n hx hb dX9_words_37 rfl (lv_at hl 0 rfl) ?_
      refine lv_iload hx hb dX9_words_38 (lv_at hl 5 rfl) ?_
      refine ro_V S (c_X1_octet hB (k := a + j) (by omega)) kw2_61 yv_X1_octet ⟨Nat.le_of_ble_eq_true rfl, Nat.le_of_ble_eq_true rfl⟩ hK hP (va_recv hK hP (ci := 2) (q0 := kb) rfl hb0) rfl hl.1 rfl (Nat.le_of_ble_eq_true rfl) dX9_words_40 ⟨Nat.le_refl _, Nat.le_refl _⟩ ?_
      have hq40 := tg_rd_lt f n (a + j)
      refine nv_bipush (k := 8) hx hb dX9_words_43 (by decide) ?_
      refine nv_ishl hx hb (by omega) dX9_words_45 ?_
      refine lv_goto (tgt := 55) hx hb dX9_words_46 (by decide) ?_
      refine nv_iadd hx hb dX9_words_55 ?_
      refine lv_istore (lv' := [(4, .int (nI (t + ((tg_rd f n (a + j)) * 2 ^ 8)))), (0, .ref b), (1, .int (nI a)), (2, .int (nI z)), (3, .int (nI w)), (5, .int (nI (a + j)))]) hx hb dX9_words_56 hl (by decide) rfl (fun ls hl => ?_)
      refine lv_iinc (v := (nI (a + j + 1))) (lv' := [(5, .int (nI (a + j + 1))), (4, .int (nI (t + ((tg_rd f n (a + j)) * 2 ^ 8)))), (0, .ref b), (1, .int (nI a)), (2, .int (nI z)), (3, .int (nI w))]) hx hb dX9_words_58 hl (k := 5) rfl (nI_inc _ _) (by decide) rfl (fun ls hl => ?_)
      refine lv_goto (tgt := 6) hx hb dX9_words_61 (by decide) ?_
      exact ih (j + 1) (t + ((tg_rd f n (a + j)) * 2 ^ 8)) (by omega) (by omega) (by rw [hw]; simp only [tg_ws]; (repeat' split) <;> omega) ls (lv_sub hl [2, 3, 4, 5, 1, 0] rfl)
  exact L6 (z - a + 1) 0 0 (by omega) (by omega) rfl ls (lv_sub hl [2, 3, 4, 5, 1, 0] rfl)
theorem dX9_closed_0 : decode cX9_closed 0 = .ok (.iload_n 0, 1) := by decide +kernel
theorem dX9_closed_1 : decode cX9_closed 1 = .ok (.ldc 25, 2) := by decide +kernel
theorem dX9_closed_3 : decode cX9_closed 3 = .ok (.iand, 1) := by decide +kernel
theorem dX9_closed_4 : decode cX9_closed 4 = .ok (.iload_n 0, 1) := by decide +kernel
theorem dX9_closed_5 : decode cX9_closed 5 = .ok (.bipush 16, 2) := by decide +kernel
theorem dX9_closed_7 : decode cX9_closed 7 = .ok (.iushr, 1) := by decide +kernel
theorem dX9_closed_8 : decode cX9_closed 8 = .ok (.iadd, 1) := by decide +kernel
theorem dX9_closed_9 : decode cX9_closed 9 = .ok (.istore_n 1, 1) := by decide +kernel
theorem dX9_closed_10 : decode cX9_closed 10 = .ok (.iload_n 1, 1) := by decide +kernel
theorem dX9_closed_11 : decode cX9_closed 11 = .ok (.ldc 25, 2) := by decide +kernel
theorem dX9_closed_13 : decode cX9_closed 13 = .ok (.iand, 1) := by decide +kernel
theorem dX9_closed_14 : decode cX9_closed 14 = .ok (.iload_n 1, 1) := by decide +kernel
theorem dX9_closed_15 : decode cX9_closed 15 = .ok (.bipush 16, 2) := by decide +kernel
theorem dX9_closed_17 : decode cX9_closed 17 = .ok (.iushr, 1) := by decide +kernel
theorem dX9_closed_18 : decode cX9_closed 18 = .ok (.iadd, 1) := by decide +kernel
theorem dX9_closed_19 : decode cX9_closed 19 = .ok (.istore_n 2, 1) := by decide +kernel
theorem dX9_closed_20 : decode cX9_closed 20 = .ok (.iload_n 2, 1) := by decide +kernel
theorem dX9_closed_21 : decode cX9_closed 21 = .ok (.iconst (-1), 1) := by decide +kernel
theorem dX9_closed_22 : decode cX9_closed 22 = .ok (.ixor, 1) := by decide +kernel
theorem dX9_closed_23 : decode cX9_closed 23 = .ok (.ldc 25, 2) := by decide +kernel
theorem dX9_closed_25 : decode cX9_closed 25 = .ok (.iand, 1) := by decide +kernel
theorem dX9_closed_26 : decode cX9_closed 26 = .ok (.ireturn, 1) := by decide +kernel
theorem yv_X9_closed : YS yX9_closed cX9_closed 3 (some .int) 1 := ⟨kw2_63, kw1_13, kw2_64, by decide +kernel⟩
set_option maxHeartbeats 4000000 in
set_option maxRecDepth 100000 in
theorem c_X9_closed {l : Launch} {D : va_G} {cy : Nat → ClassId} {ws : va_W} {t : Nat} (ht0 : t < 2 ^ 31) : RO l yX9_closed cX9_closed 3 (some .int) 0 0 [.int (nI t)] D cy ws (.int (nI (tg_cl t))) := by
  refine ROi (by decide) (lv0 := [(0, .int (nI t))]) rfl (Nat.le_of_ble_eq_true rfl) ?_
  intro p e s m args below meth c ls Q S hP hK hend hl
  have hx := S.1
  have hb := S.2.1
  have hown : s.vm.findClass RX9 = some m.cls := S.2.2.2.1
  have ht : ∀ w ∈ lw_g, w.before args s = true := fun w h => S.2.2.2.2 w (List.mem_cons_of_mem _ h)
  refine lv_iload_n hx hb dX9_closed_0 rfl (lv_at hl 0 rfl) ?_
  refine nv_ldc (k := 65535) hx hb hown (ht _ kw2_65) (by decide) dX9_closed_1 ?_
  refine nv_iand 16 hx hb (by omega) (by decide) dX9_closed_3 ?_
  refine lv_iload_n hx hb dX9_closed_4 rfl (lv_at hl 0 rfl) ?_
  refine nv_bipush (k := 16) hx hb dX9_closed_5 (by decide) ?_
  refine nv_iushr hx hb (by omega) (by omega) dX9_closed_7 ?_
  refine nv_iadd hx hb dX9_closed_8 ?_
  refine lv_istore_n (lv' := [(1, .int (nI (((t) % 2 ^ 16) + ((t) / 2 ^ 16)))), (0, .int (nI t))]) hx hb dX9_closed_9 rfl hl (by decide) rfl (fun ls hl => ?_)
  refine lv_iload_n hx hb dX9_closed_10 rfl (lv_at hl 0 rfl) ?_
  refine nv_ldc (k := 65535) hx hb hown (ht _ kw2_65) (by decide) dX9_closed_11 ?_
  refine nv_iand 16 hx hb (by omega) (by decide) dX9_closed_13 ?_
  refine lv_iload_n hx hb dX9_closed_14 rfl (lv_at hl 0 rfl) ?_
  refine nv_bipush (k := 16) hx hb dX9_closed_15 (by decide) ?_
  refine nv_iushr hx hb (by omega) (by omega) dX9_closed_17 ?_
  refine nv_iadd hx hb dX9_closed_18 ?_
  refine nv_top (fun y_1 ey_1 => ?_)
  refine lv_istore_n (lv' := [(2, .int (nI y_1)), (1, .int (nI (((t) % 2 ^ 16) + ((t) / 2 ^ 16)))), (0, .int (nI t))]) hx hb dX9_closed_19 rfl hl (by decide) rfl (fun ls hl => ?_)
  refine lv_iload_n hx hb dX9_closed_20 rfl (lv_at hl 0 rfl) ?_
  refine lv_iconst (v := -1) hx hb dX9_closed_21 (by decide) ?_
  refine lv_ixor hx hb dX9_closed_22 ?_
  refine nv_ldc (k := 65535) hx hb hown (ht _ kw2_65) (by decide) dX9_closed_23 ?_
  refine lv_iand hx hb dX9_closed_25 ?_
  exact hend ((by rw [nI_not (by omega)]; exact congrArg nI (by simp only [tg_cl]; omega))) dX9_closed_26
theorem dX9_ofHead_0 : decode cX9_ofHead 0 = .ok (.aload_n 0, 1) := by decide +kernel
theorem dX9_ofHead_1 : decode cX9_ofHead 1 = .ok (.iconst 0, 1) := by decide +kernel
theorem dX9_ofHead_2 : decode cX9_ofHead 2 = .ok (.bipush 20, 2) := by decide +kernel
theorem dX9_ofHead_4 : decode cX9_ofHead 4 = .ok (.bipush 10, 2) := by decide +kernel
theorem dX9_ofHead_6 : decode cX9_ofHead 6 = .ok (.invokestatic 9, 3) := by decide +kernel
theorem dX9_ofHead_9 : decode cX9_ofHead 9 = .ok (.invokestatic 15, 3) := by decide +kernel
theorem dX9_ofHead_12 : decode cX9_ofHead 12 = .ok (.ireturn, 1) := by decide +kernel
theorem yv_X9_ofHead : YS yX9_ofHead cX9_ofHead 1 (some .int) 1 := ⟨kw3_133, kw1_13, kw3_134, by decide +kernel⟩
set_option maxHeartbeats 4000000 in
set_option maxRecDepth 100000 in
theorem c_X9_ofHead {l : Launch} {D : va_G} {cy : Nat → ClassId} {ws : va_W} {b n : Nat} {f : Nat → UInt8} (hB : PK cy ws b f n)  : RO l yX9_ofHead cX9_ofHead 1 (some .int) 2 46 [.ref b] D cy ws (.int (nI (tg_cl (tg_ws (tg_rd f n) 0 10 20)))) := by
  refine ROi (by decide) (lv0 := [(0, .ref b)]) rfl (Nat.le_of_ble_eq_true rfl) ?_
  intro p e s m args below meth c ls Q S hP hK hend hl
  have hx := S.1
  have hb := S.2.1
  have hown : s.vm.findClass RX9 = some m.cls := S.2.2.2.1
  have ht : ∀ w ∈ lw_g, w.before args s = true := fun w h => S.2.2.2.2 w (List.mem_cons_of_mem _ h)
  obtain ⟨kb, ka, ar, N, hb0, ha0, hnN, hN⟩ := id hB
  refine lv_aload_n hx hb dX9_ofHead_0 rfl (lv_at hl 0 rfl) ?_
  refine nv_iconst (k := 0) hx hb dX9_ofHead_1 rfl ?_
  refine nv_bipush (k := 20) hx hb dX9_ofHead_2 (by decide) ?_
  refine nv_bipush (k := 10) hx hb dX9_ofHead_4 (by decide) ?_
  refine ro_S S (c_X9_words hB (a := 0) (z := 20) (w := 10) (by omega) (by omega) (by omega)) kw2_58 yv_X9_words ⟨Nat.le_of_ble_eq_true rfl, Nat.le_of_ble_eq_true rfl⟩ hK hP rfl hl.1 rfl (Nat.le_of_ble_eq_true rfl) dX9_ofHead_6 ⟨Nat.le_refl _, Nat.le_refl _⟩ ?_
  have hq6 := tg_ws_le f n 0 10 (20 - 0)
  refine ro_S S (c_X9_closed (t := tg_ws (tg_rd f n) 0 10 (20 - 0)) (by omega)) kw2_62 yv_X9_closed ⟨Nat.le_of_ble_eq_true rfl, Nat.le_of_ble_eq_true rfl⟩ hK hP rfl hl.1 rfl (Nat.le_of_ble_eq_true rfl) dX9_ofHead_9 ⟨Nat.le_refl _, Nat.le_refl _⟩ ?_
  have hq9 := tg_cl_le (tg_ws (tg_rd f n) 0 10 (20 - 0))
  exact hend (rfl) dX9_ofHead_12
theorem dX9_ofPart_0 : decode cX9_ofPart 0 = .ok (.aload_n 0, 1) := by decide +kernel
theorem dX9_ofPart_1 : decode cX9_ofPart 1 = .ok (.iload_n 2, 1) := by decide +kernel
theorem dX9_ofPart_2 : decode cX9_ofPart 2 = .ok (.invokestatic 19, 3) := by decide +kernel
theorem dX9_ofPart_5 : decode cX9_ofPart 5 = .ok (.istore 4, 2) := by decide +kernel
theorem dX9_ofPart_7 : decode cX9_ofPart 7 = .ok (.aload_n 0, 1) := by decide +kernel
theorem dX9_ofPart_8 : decode cX9_ofPart 8 = .ok (.iload_n 2, 1) := by decide +kernel
theorem dX9_ofPart_9 : decode cX9_ofPart 9 = .ok (.iload_n 1, 1) := by decide +kernel
theorem dX9_ofPart_10 : decode cX9_ofPart 10 = .ok (.iload_n 3, 1) := by decide +kernel
theorem dX9_ofPart_11 : decode cX9_ofPart 11 = .ok (.invokestatic 9, 3) := by decide +kernel
theorem dX9_ofPart_14 : decode cX9_ofPart 14 = .ok (.istore 5, 2) := by decide +kernel
theorem dX9_ofPart_16 : decode cX9_ofPart 16 = .ok (.iload_n 2, 1) := by decide +kernel
theorem dX9_ofPart_17 : decode cX9_ofPart 17 = .ok (.bipush 40, 2) := by decide +kernel
theorem dX9_ofPart_19 : decode cX9_ofPart 19 = .ok (.if_icmp .eq 9, 3) := by decide +kernel
theorem dX9_ofPart_22 : decode cX9_ofPart 22 = .ok (.iload 4, 2) := by decide +kernel
theorem dX9_ofPart_24 : decode cX9_ofPart 24 = .ok (.iconst 1, 1) := by decide +kernel
theorem dX9_ofPart_25 : decode cX9_ofPart 25 = .ok (.if_icmp .eq 38, 3) := by decide +kernel
theorem dX9_ofPart_28 : decode cX9_ofPart 28 = .ok (.iload_n 2, 1) := by decide +kernel
theorem dX9_ofPart_29 : decode cX9_ofPart 29 = .ok (.bipush 40, 2) := by decide +kernel
theorem dX9_ofPart_31 : decode cX9_ofPart 31 = .ok (.if_icmp .ne 8, 3) := by decide +kernel
theorem dX9_ofPart_34 : decode cX9_ofPart 34 = .ok (.bipush 8, 2) := by decide +kernel
theorem dX9_ofPart_36 : decode cX9_ofPart 36 = .ok (.goto 5, 3) := by decide +kernel
theorem dX9_ofPart_39 : decode cX9_ofPart 39 = .ok (.bipush 12, 2) := by decide +kernel
theorem dX9_ofPart_41 : decode cX9_ofPart 41 = .ok (.istore 6, 2) := by decide +kernel
theorem dX9_ofPart_43 : decode cX9_ofPart 43 = .ok (.iload 5, 2) := by decide +kernel
theorem dX9_ofPart_45 : decode cX9_ofPart 45 = .ok (.aload_n 0, 1) := by decide +kernel
theorem dX9_ofPart_46 : decode cX9_ofPart 46 = .ok (.iload 6, 2) := by decide +kernel
theorem dX9_ofPart_48 : decode cX9_ofPart 48 = .ok (.iload_n 2, 1) := by decide +kernel
theorem dX9_ofPart_49 : decode cX9_ofPart 49 = .ok (.iload_n 2, 1) := by decide +kernel
theorem dX9_ofPart_50 : decode cX9_ofPart 50 = .ok (.invokestatic 9, 3) := by decide +kernel
theorem dX9_ofPart_53 : decode cX9_ofPart 53 = .ok (.iload_n 1, 1) := by decide +kernel
theorem dX9_ofPart_54 : decode cX9_ofPart 54 = .ok (.iload_n 2, 1) := by decide +kernel
theorem dX9_ofPart_55 : decode cX9_ofPart 55 = .ok (.isub, 1) := by decide +kernel
theorem dX9_ofPart_56 : decode cX9_ofPart 56 = .ok (.iadd, 1) := by decide +kernel
theorem dX9_ofPart_57 : decode cX9_ofPart 57 = .ok (.iload 4, 2) := by decide +kernel
theorem dX9_ofPart_59 : decode cX9_ofPart 59 = .ok (.iadd, 1) := by decide +kernel
theorem dX9_ofPart_60 : decode cX9_ofPart 60 = .ok (.iadd, 1) := by decide +kernel
theorem dX9_ofPart_61 : decode cX9_ofPart 61 = .ok (.istore 5, 2) := by decide +kernel
theorem dX9_ofPart_63 : decode cX9_ofPart 63 = .ok (.iload 5, 2) := by decide +kernel
theorem dX9_ofPart_65 : decode cX9_ofPart 65 = .ok (.invokestatic 15, 3) := by decide +kernel
theorem dX9_ofPart_68 : decode cX9_ofPart 68 = .ok (.istore 6, 2) := by decide +kernel
theorem dX9_ofPart_70 : decode cX9_ofPart 70 = .ok (.iload 4, 2) := by decide +kernel
theorem dX9_ofPart_72 : decode cX9_ofPart 72 = .ok (.bipush 17, 2) := by decide +kernel
theorem dX9_ofPart_74 : decode cX9_ofPart 74 = .ok (.if_icmp .ne 13, 3) := by decide +kernel
theorem dX9_ofPart_77 : decode cX9_ofPart 77 = .ok (.iload 6, 2) := by decide +kernel
theorem dX9_ofPart_79 : decode cX9_ofPart 79 = .ok (.ifCond .ne 8, 3) := by decide +kernel
theorem dX9_ofPart_82 : decode cX9_ofPart 82 = .ok (.ldc 25, 2) := by decide +kernel
theorem dX9_ofPart_84 : decode cX9_ofPart 84 = .ok (.goto 5, 3) := by decide +kernel
theorem dX9_ofPart_87 : decode cX9_ofPart 87 = .ok (.iload 6, 2) := by decide +kernel
theorem dX9_ofPart_89 : decode cX9_ofPart 89 = .ok (.ireturn, 1) := by decide +kernel
theorem yv_X9_ofPart : YS yX9_ofPart cX9_ofPart 7 (some .int) 4 := ⟨kw2_56, kw1_13, kw2_57, by decide +kernel⟩
set_option maxHeartbeats 4000000 in
set_option maxRecDepth 100000 in
theorem c_X9_ofPart {l : Launch} {D : va_G} {cy : Nat → ClassId} {ws : va_W} {b n : Nat} {f : Nat → UInt8} (hB : PK cy ws b f n) {z hd w : Nat} (hh : hd = 20 ∨ hd = 40) (hz1 : hd ≤ z) (hz : z ≤ 1700) (hw : w < 2 ^ 30) : RO l yX9_ofPart cX9_ofPart 7 (some .int) 2 46 [.ref b, .int (nI z), .int (nI hd), .int (nI w)] D cy ws (.int (nI (tg_sum (tg_rd f n) hd z w (tg_proto (tg_rd f n) hd)))) := by
  refine ROi (by decide) (lv0 := [(0, .ref b), (1, .int (nI z)), (2, .int (nI hd)), (3, .int (nI w))]) rfl (Nat.le_of_ble_eq_true rfl) ?_
  intro p e s m args below meth c ls Q S hP hK hend hl
  have hx := S.1
  have hb := S.2.1
  have hown : s.vm.findClass RX9 = some m.cls := S.2.2.2.1
  have ht : ∀ w ∈ lw_g, w.before args s = true := fun w h => S.2.2.2.2 w (List.mem_cons_of_mem _ h)
  obtain ⟨kb, ka, ar, N, hb0, ha0, hnN, hN⟩ := id hB
  refine lv_aload_n hx hb dX9_ofPart_0 rfl (lv_at hl 0 rfl) ?_
  refine lv_iload_n hx hb dX9_ofPart_1 rfl (lv_at hl 2 rfl) ?_
  refine ro_S S (c_X4_protocolOf hB (hd := hd) (by omega)) kw2_47 yv_X4_protocolOf ⟨Nat.le_of_ble_eq_true rfl, Nat.le_of_ble_eq_true rfl⟩ hK hP rfl hl.1 rfl (Nat.le_of_ble_eq_true rfl) dX9_ofPart_2 ⟨Nat.le_refl _, Nat.le_refl _⟩ ?_
  have hq2 := tg_proto_lt f n hd
  refine lv_istore (lv' := [(4, .int (nI (tg_proto (tg_rd f n) hd))), (0, .ref b), (1, .int (nI z)), (2, .int (nI hd)), (3, .int (nI w))]) hx hb dX9_ofPart_5 hl (by decide) rfl (fun ls hl => ?_)
  refine lv_aload_n hx hb dX9_ofPart_7 rfl (lv_at hl 1 rfl) ?_
  refine lv_iload_n hx hb dX9_ofPart_8 rfl (lv_at hl 3 rfl) ?_
  refine lv_iload_n hx hb dX9_ofPart_9 rfl (lv_at hl 2 rfl) ?_
  refine lv_iload_n hx hb dX9_ofPart_10 rfl (lv_at hl 4 rfl) ?_
  refine ro_S S (c_X9_words hB (a := hd) (z := z) (w := w) (by omega) (by omega) (by omega)) kw2_58 yv_X9_words ⟨Nat.le_of_ble_eq_true rfl, Nat.le_of_ble_eq_true rfl⟩ hK hP rfl hl.1 rfl (Nat.le_of_ble_eq_true rfl) dX9_ofPart_11 ⟨Nat.le_refl _, Nat.le_refl _⟩ ?_
  have hq11 := tg_ws_le f n hd w (z - hd)
  refine lv_istore (lv' := [(5, .int (nI (tg_ws (tg_rd f n) hd w (z - hd)))), (4, .int (nI (tg_proto (tg_rd f n) hd))), (0, .ref b), (1, .int (nI z)), (2, .int (nI hd)), (3, .int (nI w))]) hx hb dX9_ofPart_14 hl (by decide) rfl (fun ls hl => ?_)
  refine lv_iload_n hx hb dX9_ofPart_16 rfl (lv_at hl 4 rfl) ?_
  refine nv_bipush (k := 40) hx hb dX9_ofPart_17 (by decide) ?_
  refine nv_icmp_eq (tgt := 28) hx hb dX9_ofPart_19 (by decide) (by omega) (by omega) (fun h19 => ?_) (fun h19 => ?_)
  · skip
    refine lv_iload_n hx hb dX9_ofPart_28 rfl (lv_at hl 4 rfl) ?_
    refine nv_bipush (k := 40) hx hb dX9_ofPart_29 (by decide) ?_
    refine nv_icmp_ne (tgt := 39) hx hb dX9_ofPart_31 (by decide) (by omega) (by omega) (fun h31 => ?_) (fun h31 => ?_)
    · skip
      refine nv_bipush (k := 12) hx hb dX9_ofPart_39 (by decide) ?_
      refine lv_istore (lv' := [(6, .int (nI 12)), (5, .int (nI (tg_ws (tg_rd f n) hd w (z - hd)))), (4, .int (nI (tg_proto (tg_rd f n) hd))), (0, .ref b), (1, .int (nI z)), (2, .int (nI hd)), (3, .int (nI w))]) hx hb dX9_ofPart_41 hl (by decide) rfl (fun ls hl => ?_)
      refine lv_iload hx hb dX9_ofPart_43 (lv_at hl 1 rfl) ?_
      refine lv_aload_n hx hb dX9_ofPart_45 rfl (lv_at hl 3 rfl) ?_
      refine lv_iload hx hb dX9_ofPart_46 (lv_at hl 0 rfl) ?_
      refine lv_iload_n hx hb dX9_ofPart_48 rfl (lv_at hl 5 rfl) ?_
      refine lv_iload_n hx hb dX9_ofPart_49 rfl (lv_at hl 5 rfl) ?_
      refine ro_S S (c_X9_words hB (a := 12) (z := hd) (w := hd) (by omega) (by omega) (by omega)) kw2_58 yv_X9_words ⟨Nat.le_of_ble_eq_true rfl, Nat.le_of_ble_eq_true rfl⟩ hK hP rfl hl.1 rfl (Nat.le_of_ble_eq_true rfl) dX9_ofPart_50 ⟨Nat.le_refl _, Nat.le_refl _⟩ ?_
      have hq50 := tg_ws_le f n 12 hd (hd - 12)
      refine lv_iload_n hx hb dX9_ofPart_53 rfl (lv_at hl 4 rfl) ?_
      refine lv_iload_n hx hb dX9_ofPart_54 rfl (lv_at hl 5 rfl) ?_
      refine nv_isub hx hb (by omega) dX9_ofPart_55 ?_
      refine nv_iadd hx hb dX9_ofPart_56 ?_
      refine lv_iload hx hb dX9_ofPart_57 (lv_at hl 2 rfl) ?_
      refine nv_iadd hx hb dX9_ofPart_59 ?_
      refine nv_iadd hx hb dX9_ofPart_60 ?_
      refine nv_top (fun y_1 ey_1 => ?_)
      refine lv_istore (lv' := [(5, .int (nI y_1)), (6, .int (nI 12)), (4, .int (nI (tg_proto (tg_rd f n) hd))), (0, .ref b), (1, .int (nI z)), (2, .int (nI hd)), (3, .int (nI w))]) hx hb dX9_ofPart_61 hl (by decide) rfl (fun ls hl => ?_)
      refine lv_iload hx hb dX9_ofPart_63 (lv_at hl 0 rfl) ?_
      refine ro_S S (c_X9_closed (t := y_1) (by omega)) kw2_62 yv_X9_closed ⟨Nat.le_of_ble_eq_true rfl, Nat.le_of_ble_eq_true rfl⟩ hK hP rfl hl.1 rfl (Nat.le_of_ble_eq_true rfl) dX9_ofPart_65 ⟨Nat.le_refl _, Nat.le_refl _⟩ ?_
      have hq65 := tg_cl_le y_1
      refine lv_istore (lv' := [(6, .int (nI (tg_cl y_1))), (5, .int (nI y_1)), (4, .int (nI (tg_proto (tg_rd f n) hd))), (0, .ref b), (1, .int (nI z)), (2, .int (nI hd)), (3, .int (nI w))]) hx hb dX9_ofPart_68 hl (by decide) rfl (fun ls hl => ?_)
      refine lv_iload hx hb dX9_ofPart_70 (lv_at hl 2 rfl) ?_
      refine nv_bipush (k := 17) hx hb dX9_ofPart_72 (by decide) ?_
      refine nv_icmp_ne (tgt := 87) hx hb dX9_ofPart_74 (by decide) (by omega) (by omega) (fun h74 => ?_) (fun h74 => ?_)
      · skip
        refine lv_iload hx hb dX9_ofPart_87 (lv_at hl 0 rfl) ?_
        exact hend ((congrArg nI (by rcases hh with rfl | rfl <;> first | (exfalso; omega) | (subst_vars; simp only [tg_sum, tg_pre] at *; simp_all; done) | (subst_vars; simp only [tg_sum, tg_pre] at *; (repeat' split) <;> simp_all <;> omega)))) dX9_ofPart_89
      refine lv_iload hx hb dX9_ofPart_77 (lv_at hl 0 rfl) ?_
      refine nv_if_ne (tgt := 87) hx hb dX9_ofPart_79 (by decide) (by omega) (fun h79 => ?_) (fun h79 => ?_)
      · skip
        refine lv_iload hx hb dX9_ofPart_87 (lv_at hl 0 rfl) ?_
        exact hend ((congrArg nI (by rcases hh with rfl | rfl <;> first | (exfalso; omega) | (subst_vars; simp only [tg_sum, tg_pre] at *; simp_all; done) | (subst_vars; simp only [tg_sum, tg_pre] at *; (repeat' split) <;> simp_all <;> omega)))) dX9_ofPart_89
      refine nv_ldc (k := 65535) hx hb hown (ht _ kw2_65) (by decide) dX9_ofPart_82 ?_
      refine lv_goto (tgt := 89) hx hb dX9_ofPart_84 (by decide) ?_
      exact hend ((congrArg nI (by rcases hh with rfl | rfl <;> first | (exfalso; omega) | (subst_vars; simp only [tg_sum, tg_pre] at *; simp_all; done) | (subst_vars; simp only [tg_sum, tg_pre] at *; (repeat' split) <;> simp_all <;> omega)))) dX9_ofPart_89
    refine nv_bipush (k := 8) hx hb dX9_ofPart_34 (by decide) ?_
    refine lv_goto (tgt := 41) hx hb dX9_ofPart_36 (by decide) ?_
    refine lv_istore (lv' := [(6, .int (nI 8)), (5, .int (nI (tg_ws (tg_rd f n) hd w (z - hd)))), (4, .int (nI (tg_proto (tg_rd f n) hd))), (0, .ref b), (1, .int (nI z)), (2, .int (nI hd)), (3, .int (nI w))]) hx hb dX9_ofPart_41 hl (by decide) rfl (fun ls hl => ?_)
    refine lv_iload hx hb dX9_ofPart_43 (lv_at hl 1 rfl) ?_
    refine lv_aload_n hx hb dX9_ofPart_45 rfl (lv_at hl 3 rfl) ?_
    refine lv_iload hx hb dX9_ofPart_46 (lv_at hl 0 rfl) ?_
    refine lv_iload_n hx hb dX9_ofPart_48 rfl (lv_at hl 5 rfl) ?_
    refine lv_iload_n hx hb dX9_ofPart_49 rfl (lv_at hl 5 rfl) ?_
    refine ro_S S (c_X9_words hB (a := 8) (z := hd) (w := hd) (by omega) (by omega) (by omega)) kw2_58 yv_X9_words ⟨Nat.le_of_ble_eq_true rfl, Nat.le_of_ble_eq_true rfl⟩ hK hP rfl hl.1 rfl (Nat.le_of_ble_eq_true rfl) dX9_ofPart_50 ⟨Nat.le_refl _, Nat.le_refl _⟩ ?_
    have hq50 := tg_ws_le f n 8 hd (hd - 8)
    refine lv_iload_n hx hb dX9_ofPart_53 rfl (lv_at hl 4 rfl) ?_
    refine lv_iload_n hx hb dX9_ofPart_54 rfl (lv_at hl 5 rfl) ?_
    refine nv_isub hx hb (by omega) dX9_ofPart_55 ?_
    refine nv_iadd hx hb dX9_ofPart_56 ?_
    refine lv_iload hx hb dX9_ofPart_57 (lv_at hl 2 rfl) ?_
    refine nv_iadd hx hb dX9_ofPart_59 ?_
    refine nv_iadd hx hb dX9_ofPart_60 ?_
    refine nv_top (fun y_2 ey_2 => ?_)
    refine lv_istore (lv' := [(5, .int (nI y_2)), (6, .int (nI 8)), (4, .int (nI (tg_proto (tg_rd f n) hd))), (0, .ref b), (1, .int (nI z)), (2, .int (nI hd)), (3, .int (nI w))]) hx hb dX9_ofPart_61 hl (by decide) rfl (fun ls hl => ?_)
    refine lv_iload hx hb dX9_ofPart_63 (lv_at hl 0 rfl) ?_
    refine ro_S S (c_X9_closed (t := y_2) (by omega)) kw2_62 yv_X9_closed ⟨Nat.le_of_ble_eq_true rfl, Nat.le_of_ble_eq_true rfl⟩ hK hP rfl hl.1 rfl (Nat.le_of_ble_eq_true rfl) dX9_ofPart_65 ⟨Nat.le_refl _, Nat.le_refl _⟩ ?_
    have hq65 := tg_cl_le y_2
    refine lv_istore (lv' := [(6, .int (nI (tg_cl y_2))), (5, .int (nI y_2)), (4, .int (nI (tg_proto (tg_rd f n) hd))), (0, .ref b), (1, .int (nI z)), (2, .int (nI hd)), (3, .int (nI w))]) hx hb dX9_ofPart_68 hl (by decide) rfl (fun ls hl => ?_)
    refine lv_iload hx hb dX9_ofPart_70 (lv_at hl 2 rfl) ?_
    refine nv_bipush (k := 17) hx hb dX9_ofPart_72 (by decide) ?_
    refine nv_icmp_ne (tgt := 87) hx hb dX9_ofPart_74 (by decide) (by omega) (by omega) (fun h74 => ?_) (fun h74 => ?_)
    · skip
      refine lv_iload hx hb dX9_ofPart_87 (lv_at hl 0 rfl) ?_
      exact hend ((congrArg nI (by rcases hh with rfl | rfl <;> first | (exfalso; omega) | (subst_vars; simp only [tg_sum, tg_pre] at *; simp_all; done) | (subst_vars; simp only [tg_sum, tg_pre] at *; (repeat' split) <;> simp_all <;> omega)))) dX9_ofPart_89
    refine lv_iload hx hb dX9_ofPart_77 (lv_at hl 0 rfl) ?_
    refine nv_if_ne (tgt := 87) hx hb dX9_ofPart_79 (by decide) (by omega) (fun h79 => ?_) (fun h79 => ?_)
    · skip
      refine lv_iload hx hb dX9_ofPart_87 (lv_at hl 0 rfl) ?_
      exact hend ((congrArg nI (by rcases hh with rfl | rfl <;> first | (exfalso; omega) | (subst_vars; simp only [tg_sum, tg_pre] at *; simp_all; done) | (subst_vars; simp only [tg_sum, tg_pre] at *; (repeat' split) <;> simp_all <;> omega)))) dX9_ofPart_89
    refine nv_ldc (k := 65535) hx hb hown (ht _ kw2_65) (by decide) dX9_ofPart_82 ?_
    refine lv_goto (tgt := 89) hx hb dX9_ofPart_84 (by decide) ?_
    exact hend ((congrArg nI (by rcases hh with rfl | rfl <;> first | (exfalso; omega) | (subst_vars; simp only [tg_sum, tg_pre] at *; simp_all; done) | (subst_vars; simp only [tg_sum, tg_pre] at *; (repeat' split) <;> simp_all <;> omega)))) dX9_ofPart_89
  refine lv_iload hx hb dX9_ofPart_22 (lv_at hl 1 rfl) ?_
  refine nv_iconst (k := 1) hx hb dX9_ofPart_24 rfl ?_
  refine nv_icmp_eq (tgt := 63) hx hb dX9_ofPart_25 (by decide) (by omega) (by omega) (fun h25 => ?_) (fun h25 => ?_)
  · skip
    refine lv_iload hx hb dX9_ofPart_63 (lv_at hl 0 rfl) ?_
    refine ro_S S (c_X9_closed (t := tg_ws (tg_rd f n) hd w (z - hd)) (by omega)) kw2_62 yv_X9_closed ⟨Nat.le_of_ble_eq_true rfl, Nat.le_of_ble_eq_true rfl⟩ hK hP rfl hl.1 rfl (Nat.le_of_ble_eq_true rfl) dX9_ofPart_65 ⟨Nat.le_refl _, Nat.le_refl _⟩ ?_
    have hq65 := tg_cl_le (tg_ws (tg_rd f n) hd w (z - hd))
    refine lv_istore (lv' := [(6, .int (nI (tg_cl (tg_ws (tg_rd f n) hd w (z - hd))))), (5, .int (nI (tg_ws (tg_rd f n) hd w (z - hd)))), (4, .int (nI (tg_proto (tg_rd f n) hd))), (0, .ref b), (1, .int (nI z)), (2, .int (nI hd)), (3, .int (nI w))]) hx hb dX9_ofPart_68 hl (by decide) rfl (fun ls hl => ?_)
    refine lv_iload hx hb dX9_ofPart_70 (lv_at hl 2 rfl) ?_
    refine nv_bipush (k := 17) hx hb dX9_ofPart_72 (by decide) ?_
    refine nv_icmp_ne (tgt := 87) hx hb dX9_ofPart_74 (by decide) (by omega) (by omega) (fun h74 => ?_) (fun h74 => ?_)
    · skip
      refine lv_iload hx hb dX9_ofPart_87 (lv_at hl 0 rfl) ?_
      exact hend ((congrArg nI (by rcases hh with rfl | rfl <;> first | (exfalso; omega) | (subst_vars; simp only [tg_sum, tg_pre] at *; simp_all; done) | (subst_vars; simp only [tg_sum, tg_pre] at *; (repeat' split) <;> simp_all <;> omega)))) dX9_ofPart_89
    refine lv_iload hx hb dX9_ofPart_77 (lv_at hl 0 rfl) ?_
    refine nv_if_ne (tgt := 87) hx hb dX9_ofPart_79 (by decide) (by omega) (fun h79 => ?_) (fun h79 => ?_)
    · skip
      refine lv_iload hx hb dX9_ofPart_87 (lv_at hl 0 rfl) ?_
      exact hend ((congrArg nI (by rcases hh with rfl | rfl <;> first | (exfalso; omega) | (subst_vars; simp only [tg_sum, tg_pre] at *; simp_all; done) | (subst_vars; simp only [tg_sum, tg_pre] at *; (repeat' split) <;> simp_all <;> omega)))) dX9_ofPart_89
    refine nv_ldc (k := 65535) hx hb hown (ht _ kw2_65) (by decide) dX9_ofPart_82 ?_
    refine lv_goto (tgt := 89) hx hb dX9_ofPart_84 (by decide) ?_
    exact hend ((congrArg nI (by rcases hh with rfl | rfl <;> first | (exfalso; omega) | (subst_vars; simp only [tg_sum, tg_pre] at *; simp_all; done) | (subst_vars; simp only [tg_sum, tg_pre] at *; (repeat' split) <;> simp_all <;> omega)))) dX9_ofPart_89
  refine lv_iload_n hx hb dX9_ofPart_28 rfl (lv_at hl 4 rfl) ?_
  refine nv_bipush (k := 40) hx hb dX9_ofPart_29 (by decide) ?_
  refine nv_icmp_ne (tgt := 39) hx hb dX9_ofPart_31 (by decide) (by omega) (by omega) (fun h31 => ?_) (fun h31 => ?_)
  · skip
    refine nv_bipush (k := 12) hx hb dX9_ofPart_39 (by decide) ?_
    refine lv_istore (lv' := [(6, .int (nI 12)), (5, .int (nI (tg_ws (tg_rd f n) hd w (z - hd)))), (4, .int (nI (tg_proto (tg_rd f n) hd))), (0, .ref b), (1, .int (nI z)), (2, .int (nI hd)), (3, .int (nI w))]) hx hb dX9_ofPart_41 hl (by decide) rfl (fun ls hl => ?_)
    refine lv_iload hx hb dX9_ofPart_43 (lv_at hl 1 rfl) ?_
    refine lv_aload_n hx hb dX9_ofPart_45 rfl (lv_at hl 3 rfl) ?_
    refine lv_iload hx hb dX9_ofPart_46 (lv_at hl 0 rfl) ?_
    refine lv_iload_n hx hb dX9_ofPart_48 rfl (lv_at hl 5 rfl) ?_
    refine lv_iload_n hx hb dX9_ofPart_49 rfl (lv_at hl 5 rfl) ?_
    refine ro_S S (c_X9_words hB (a := 12) (z := hd) (w := hd) (by omega) (by omega) (by omega)) kw2_58 yv_X9_words ⟨Nat.le_of_ble_eq_true rfl, Nat.le_of_ble_eq_true rfl⟩ hK hP rfl hl.1 rfl (Nat.le_of_ble_eq_true rfl) dX9_ofPart_50 ⟨Nat.le_refl _, Nat.le_refl _⟩ ?_
    have hq50 := tg_ws_le f n 12 hd (hd - 12)
    refine lv_iload_n hx hb dX9_ofPart_53 rfl (lv_at hl 4 rfl) ?_
    refine lv_iload_n hx hb dX9_ofPart_54 rfl (lv_at hl 5 rfl) ?_
    refine nv_isub hx hb (by omega) dX9_ofPart_55 ?_
    refine nv_iadd hx hb dX9_ofPart_56 ?_
    refine lv_iload hx hb dX9_ofPart_57 (lv_at hl 2 rfl) ?_
    refine nv_iadd hx hb dX9_ofPart_59 ?_
    refine nv_iadd hx hb dX9_ofPart_60 ?_
    refine nv_top (fun y_3 ey_3 => ?_)
    refine lv_istore (lv' := [(5, .int (nI y_3)), (6, .int (nI 12)), (4, .int (nI (tg_proto (tg_rd f n) hd))), (0, .ref b), (1, .int (nI z)), (2, .int (nI hd)), (3, .int (nI w))]) hx hb dX9_ofPart_61 hl (by decide) rfl (fun ls hl => ?_)
    refine lv_iload hx hb dX9_ofPart_63 (lv_at hl 0 rfl) ?_
    refine ro_S S (c_X9_closed (t := y_3) (by omega)) kw2_62 yv_X9_closed ⟨Nat.le_of_ble_eq_true rfl, Nat.le_of_ble_eq_true rfl⟩ hK hP rfl hl.1 rfl (Nat.le_of_ble_eq_true rfl) dX9_ofPart_65 ⟨Nat.le_refl _, Nat.le_refl _⟩ ?_
    have hq65 := tg_cl_le y_3
    refine lv_istore (lv' := [(6, .int (nI (tg_cl y_3))), (5, .int (nI y_3)), (4, .int (nI (tg_proto (tg_rd f n) hd))), (0, .ref b), (1, .int (nI z)), (2, .int (nI hd)), (3, .int (nI w))]) hx hb dX9_ofPart_68 hl (by decide) rfl (fun ls hl => ?_)
    refine lv_iload hx hb dX9_ofPart_70 (lv_at hl 2 rfl) ?_
    refine nv_bipush (k := 17) hx hb dX9_ofPart_72 (by decide) ?_
    refine nv_icmp_ne (tgt := 87) hx hb dX9_ofPart_74 (by decide) (by omega) (by omega) (fun h74 => ?_) (fun h74 => ?_)
    · skip
      refine lv_iload hx hb dX9_ofPart_87 (lv_at hl 0 rfl) ?_
      exact hend ((congrArg nI (by rcases hh with rfl | rfl <;> first | (exfalso; omega) | (subst_vars; simp only [tg_sum, tg_pre] at *; simp_all; done) | (subst_vars; simp only [tg_sum, tg_pre] at *; (repeat' split) <;> simp_all <;> omega)))) dX9_ofPart_89
    refine lv_iload hx hb dX9_ofPart_77 (lv_at hl 0 rfl) ?_
    refine nv_if_ne (tgt := 87) hx hb dX9_ofPart_79 (by decide) (by omega) (fun h79 => ?_) (fun h79 => ?_)
    · skip
      refine lv_iload hx hb dX9_ofPart_87 (lv_at hl 0 rfl) ?_
      exact hend ((congrArg nI (by rcases hh with rfl | rfl <;> first | (exfalso; omega) | (subst_vars; simp only [tg_sum, tg_pre] at *; simp_all; done) | (subst_vars; simp only [tg_sum, tg_pre] at *; (repeat' split) <;> simp_all <;> omega)))) dX9_ofPart_89
    refine nv_ldc (k := 65535) hx hb hown (ht _ kw2_65) (by decide) dX9_ofPart_82 ?_
    refine lv_goto (tgt := 89) hx hb dX9_ofPart_84 (by decide) ?_
    exact hend ((congrArg nI (by rcases hh with rfl | rfl <;> first | (exfalso; omega) | (subst_vars; simp only [tg_sum, tg_pre] at *; simp_all; done) | (subst_vars; simp only [tg_sum, tg_pre] at *; (repeat' split) <;> simp_all <;> omega)))) dX9_ofPart_89
  refine nv_bipush (k := 8) hx hb dX9_ofPart_34 (by decide) ?_
  refine lv_goto (tgt := 41) hx hb dX9_ofPart_36 (by decide) ?_
  refine lv_istore (lv' := [(6, .int (nI 8)), (5, .int (nI (tg_ws (tg_rd f n) hd w (z - hd)))), (4, .int (nI (tg_proto (tg_rd f n) hd))), (0, .ref b), (1, .int (nI z)), (2, .int (nI hd)), (3, .int (nI w))]) hx hb dX9_ofPart_41 hl (by decide) rfl (fun ls hl => ?_)
  refine lv_iload hx hb dX9_ofPart_43 (lv_at hl 1 rfl) ?_
  refine lv_aload_n hx hb dX9_ofPart_45 rfl (lv_at hl 3 rfl) ?_
  refine lv_iload hx hb dX9_ofPart_46 (lv_at hl 0 rfl) ?_
  refine lv_iload_n hx hb dX9_ofPart_48 rfl (lv_at hl 5 rfl) ?_
  refine lv_iload_n hx hb dX9_ofPart_49 rfl (lv_at hl 5 rfl) ?_
  refine ro_S S (c_X9_words hB (a := 8) (z := hd) (w := hd) (by omega) (by omega) (by omega)) kw2_58 yv_X9_words ⟨Nat.le_of_ble_eq_true rfl, Nat.le_of_ble_eq_true rfl⟩ hK hP rfl hl.1 rfl (Nat.le_of_ble_eq_true rfl) dX9_ofPart_50 ⟨Nat.le_refl _, Nat.le_refl _⟩ ?_
  have hq50 := tg_ws_le f n 8 hd (hd - 8)
  refine lv_iload_n hx hb dX9_ofPart_53 rfl (lv_at hl 4 rfl) ?_
  refine lv_iload_n hx hb dX9_ofPart_54 rfl (lv_at hl 5 rfl) ?_
  refine nv_isub hx hb (by omega) dX9_ofPart_55 ?_
  refine nv_iadd hx hb dX9_ofPart_56 ?_
  refine lv_iload hx hb dX9_ofPart_57 (lv_at hl 2 rfl) ?_
  refine nv_iadd hx hb dX9_ofPart_59 ?_
  refine nv_iadd hx hb dX9_ofPart_60 ?_
  refine nv_top (fun y_4 ey_4 => ?_)
  refine lv_istore (lv' := [(5, .int (nI y_4)), (6, .int (nI 8)), (4, .int (nI (tg_proto (tg_rd f n) hd))), (0, .ref b), (1, .int (nI z)), (2, .int (nI hd)), (3, .int (nI w))]) hx hb dX9_ofPart_61 hl (by decide) rfl (fun ls hl => ?_)
  refine lv_iload hx hb dX9_ofPart_63 (lv_at hl 0 rfl) ?_
  refine ro_S S (c_X9_closed (t := y_4) (by omega)) kw2_62 yv_X9_closed ⟨Nat.le_of_ble_eq_true rfl, Nat.le_of_ble_eq_true rfl⟩ hK hP rfl hl.1 rfl (Nat.le_of_ble_eq_true rfl) dX9_ofPart_65 ⟨Nat.le_refl _, Nat.le_refl _⟩ ?_
  have hq65 := tg_cl_le y_4
  refine lv_istore (lv' := [(6, .int (nI (tg_cl y_4))), (5, .int (nI y_4)), (4, .int (nI (tg_proto (tg_rd f n) hd))), (0, .ref b), (1, .int (nI z)), (2, .int (nI hd)), (3, .int (nI w))]) hx hb dX9_ofPart_68 hl (by decide) rfl (fun ls hl => ?_)
  refine lv_iload hx hb dX9_ofPart_70 (lv_at hl 2 rfl) ?_
  refine nv_bipush (k := 17) hx hb dX9_ofPart_72 (by decide) ?_
  refine nv_icmp_ne (tgt := 87) hx hb dX9_ofPart_74 (by decide) (by omega) (by omega) (fun h74 => ?_) (fun h74 => ?_)
  · skip
    refine lv_iload hx hb dX9_ofPart_87 (lv_at hl 0 rfl) ?_
    exact hend ((congrArg nI (by rcases hh with rfl | rfl <;> first | (exfalso; omega) | (subst_vars; simp only [tg_sum, tg_pre] at *; simp_all; done) | (subst_vars; simp only [tg_sum, tg_pre] at *; (repeat' split) <;> simp_all <;> omega)))) dX9_ofPart_89
  refine lv_iload hx hb dX9_ofPart_77 (lv_at hl 0 rfl) ?_
  refine nv_if_ne (tgt := 87) hx hb dX9_ofPart_79 (by decide) (by omega) (fun h79 => ?_) (fun h79 => ?_)
  · skip
    refine lv_iload hx hb dX9_ofPart_87 (lv_at hl 0 rfl) ?_
    exact hend ((congrArg nI (by rcases hh with rfl | rfl <;> first | (exfalso; omega) | (subst_vars; simp only [tg_sum, tg_pre] at *; simp_all; done) | (subst_vars; simp only [tg_sum, tg_pre] at *; (repeat' split) <;> simp_all <;> omega)))) dX9_ofPart_89
  refine nv_ldc (k := 65535) hx hb hown (ht _ kw2_65) (by decide) dX9_ofPart_82 ?_
  refine lv_goto (tgt := 89) hx hb dX9_ofPart_84 (by decide) ?_
  exact hend ((congrArg nI (by rcases hh with rfl | rfl <;> first | (exfalso; omega) | (subst_vars; simp only [tg_sum, tg_pre] at *; simp_all; done) | (subst_vars; simp only [tg_sum, tg_pre] at *; (repeat' split) <;> simp_all <;> omega)))) dX9_ofPart_89
theorem dX9_headIsRight_0 : decode cX9_headIsRight 0 = .ok (.aload_n 0, 1) := by decide +kernel
theorem dX9_headIsRight_1 : decode cX9_headIsRight 1 = .ok (.bipush 10, 2) := by decide +kernel
theorem dX9_headIsRight_3 : decode cX9_headIsRight 3 = .ok (.invokevirtual 26, 3) := by decide +kernel
theorem dX9_headIsRight_6 : decode cX9_headIsRight 6 = .ok (.aload_n 0, 1) := by decide +kernel
theorem dX9_headIsRight_7 : decode cX9_headIsRight 7 = .ok (.invokestatic 31, 3) := by decide +kernel
theorem dX9_headIsRight_10 : decode cX9_headIsRight 10 = .ok (.if_icmp .ne 7, 3) := by decide +kernel
theorem dX9_headIsRight_13 : decode cX9_headIsRight 13 = .ok (.iconst 1, 1) := by decide +kernel
theorem dX9_headIsRight_14 : decode cX9_headIsRight 14 = .ok (.goto 4, 3) := by decide +kernel
theorem dX9_headIsRight_17 : decode cX9_headIsRight 17 = .ok (.iconst 0, 1) := by decide +kernel
theorem dX9_headIsRight_18 : decode cX9_headIsRight 18 = .ok (.ireturn, 1) := by decide +kernel
theorem yv_X9_headIsRight : YS yX9_headIsRight cX9_headIsRight 1 (some .boolean) 1 := ⟨kw3_165, kw1_13, kw3_166, by decide +kernel⟩
set_option maxHeartbeats 4000000 in
set_option maxRecDepth 100000 in
theorem c_X9_headIsRight {l : Launch} {D : va_G} {cy : Nat → ClassId} {ws : va_W} {b n : Nat} {f : Nat → UInt8} (hB : PK cy ws b f n)  : RO l yX9_headIsRight cX9_headIsRight 1 (some .boolean) 3 66 [.ref b] D cy ws (.int (bI (tg_headOk (tg_rd f n)))) := by
  refine ROz (by decide) (lv0 := [(0, .ref b)]) rfl (Nat.le_of_ble_eq_true rfl) ?_
  intro p e s m args below meth c ls Q S hP hK hend hl
  have hx := S.1
  have hb := S.2.1
  have hown : s.vm.findClass RX9 = some m.cls := S.2.2.2.1
  have ht : ∀ w ∈ lw_g, w.before args s = true := fun w h => S.2.2.2.2 w (List.mem_cons_of_mem _ h)
  obtain ⟨kb, ka, ar, N, hb0, ha0, hnN, hN⟩ := id hB
  refine lv_aload_n hx hb dX9_headIsRight_0 rfl (lv_at hl 0 rfl) ?_
  refine nv_bipush (k := 10) hx hb dX9_headIsRight_1 (by decide) ?_
  refine ro_V S (c_X1_pair hB (a := 10) (by omega)) kw2_53 yv_X1_pair ⟨Nat.le_of_ble_eq_true rfl, Nat.le_of_ble_eq_true rfl⟩ hK hP (va_recv hK hP (ci := 2) (q0 := kb) rfl hb0) rfl hl.1 rfl (Nat.le_of_ble_eq_true rfl) dX9_headIsRight_3 ⟨Nat.le_refl _, Nat.le_refl _⟩ ?_
  have hq3 := tg_pr_lt f n 10
  refine lv_aload_n hx hb dX9_headIsRight_6 rfl (lv_at hl 0 rfl) ?_
  refine ro_S S (c_X9_ofHead hB) kw3_167 yv_X9_ofHead ⟨Nat.le_of_ble_eq_true rfl, Nat.le_of_ble_eq_true rfl⟩ hK hP rfl hl.1 rfl (Nat.le_of_ble_eq_true rfl) dX9_headIsRight_7 ⟨Nat.le_refl _, Nat.le_refl _⟩ ?_
  have hq7 := tg_cl_le (tg_ws (tg_rd f n) 0 10 20)
  refine nv_icmp_ne (tgt := 17) hx hb dX9_headIsRight_10 (by decide) (by omega) (by omega) (fun h10 => ?_) (fun h10 => ?_)
  · skip
    refine nv_iconst (k := 0) hx hb dX9_headIsRight_17 rfl ?_
    exact hend ((bI_f (by simp only [tg_headOk]; exact decide_eq_false (by omega)))) dX9_headIsRight_18
  refine nv_iconst (k := 1) hx hb dX9_headIsRight_13 rfl ?_
  refine lv_goto (tgt := 18) hx hb dX9_headIsRight_14 (by decide) ?_
  exact hend ((bI_t (by simp only [tg_headOk]; exact decide_eq_true (by omega)))) dX9_headIsRight_18
theorem dX9_partIsRight_0 : decode cX9_partIsRight 0 = .ok (.iload_n 1, 1) := by decide +kernel
theorem dX9_partIsRight_1 : decode cX9_partIsRight 1 = .ok (.aload_n 0, 1) := by decide +kernel
theorem dX9_partIsRight_2 : decode cX9_partIsRight 2 = .ok (.iload_n 1, 1) := by decide +kernel
theorem dX9_partIsRight_3 : decode cX9_partIsRight 3 = .ok (.invokestatic 19, 3) := by decide +kernel
theorem dX9_partIsRight_6 : decode cX9_partIsRight 6 = .ok (.invokestatic 35, 3) := by decide +kernel
theorem dX9_partIsRight_9 : decode cX9_partIsRight 9 = .ok (.iadd, 1) := by decide +kernel
theorem dX9_partIsRight_10 : decode cX9_partIsRight 10 = .ok (.istore_n 2, 1) := by decide +kernel
theorem dX9_partIsRight_11 : decode cX9_partIsRight 11 = .ok (.aload_n 0, 1) := by decide +kernel
theorem dX9_partIsRight_12 : decode cX9_partIsRight 12 = .ok (.iload_n 2, 1) := by decide +kernel
theorem dX9_partIsRight_13 : decode cX9_partIsRight 13 = .ok (.invokevirtual 26, 3) := by decide +kernel
theorem dX9_partIsRight_16 : decode cX9_partIsRight 16 = .ok (.aload_n 0, 1) := by decide +kernel
theorem dX9_partIsRight_17 : decode cX9_partIsRight 17 = .ok (.aload_n 0, 1) := by decide +kernel
theorem dX9_partIsRight_18 : decode cX9_partIsRight 18 = .ok (.invokevirtual 38, 3) := by decide +kernel
theorem dX9_partIsRight_21 : decode cX9_partIsRight 21 = .ok (.iload_n 1, 1) := by decide +kernel
theorem dX9_partIsRight_22 : decode cX9_partIsRight 22 = .ok (.iload_n 2, 1) := by decide +kernel
theorem dX9_partIsRight_23 : decode cX9_partIsRight 23 = .ok (.invokestatic 42, 3) := by decide +kernel
theorem dX9_partIsRight_26 : decode cX9_partIsRight 26 = .ok (.if_icmp .ne 7, 3) := by decide +kernel
theorem dX9_partIsRight_29 : decode cX9_partIsRight 29 = .ok (.iconst 1, 1) := by decide +kernel
theorem dX9_partIsRight_30 : decode cX9_partIsRight 30 = .ok (.goto 4, 3) := by decide +kernel
theorem dX9_partIsRight_33 : decode cX9_partIsRight 33 = .ok (.iconst 0, 1) := by decide +kernel
theorem dX9_partIsRight_34 : decode cX9_partIsRight 34 = .ok (.ireturn, 1) := by decide +kernel
theorem yv_X9_partIsRight : YS yX9_partIsRight cX9_partIsRight 3 (some .boolean) 2 := ⟨kw2_45, kw1_13, kw2_46, by decide +kernel⟩
set_option maxHeartbeats 4000000 in
set_option maxRecDepth 100000 in
theorem c_X9_partIsRight {l : Launch} {D : va_G} {cy : Nat → ClassId} {ws : va_W} {b n : Nat} {f : Nat → UInt8} (hB : PK cy ws b f n) {hd : Nat} (hh : hd = 20 ∨ hd = 40) (hz1 : hd ≤ n) : RO l yX9_partIsRight cX9_partIsRight 3 (some .boolean) 3 72 [.ref b, .int (nI hd)] D cy ws (.int (bI (tg_partOk (tg_rd f n) n hd))) := by
  refine ROz (by decide) (lv0 := [(0, .ref b), (1, .int (nI hd))]) rfl (Nat.le_of_ble_eq_true rfl) ?_
  intro p e s m args below meth c ls Q S hP hK hend hl
  have hx := S.1
  have hb := S.2.1
  have hown : s.vm.findClass RX9 = some m.cls := S.2.2.2.1
  have ht : ∀ w ∈ lw_g, w.before args s = true := fun w h => S.2.2.2.2 w (List.mem_cons_of_mem _ h)
  obtain ⟨kb, ka, ar, N, hb0, ha0, hnN, hN⟩ := id hB
  refine lv_iload_n hx hb dX9_partIsRight_0 rfl (lv_at hl 1 rfl) ?_
  refine lv_aload_n hx hb dX9_partIsRight_1 rfl (lv_at hl 0 rfl) ?_
  refine lv_iload_n hx hb dX9_partIsRight_2 rfl (lv_at hl 1 rfl) ?_
  refine ro_S S (c_X4_protocolOf hB (hd := hd) (by omega)) kw2_47 yv_X4_protocolOf ⟨Nat.le_of_ble_eq_true rfl, Nat.le_of_ble_eq_true rfl⟩ hK hP rfl hl.1 rfl (Nat.le_of_ble_eq_true rfl) dX9_partIsRight_3 ⟨Nat.le_refl _, Nat.le_refl _⟩ ?_
  have hq3 := tg_proto_lt f n hd
  refine ro_S S (c_X4_sumAt (q := tg_proto (tg_rd f n) hd) (by omega)) kw2_50 yv_X4_sumAt ⟨Nat.le_of_ble_eq_true rfl, Nat.le_of_ble_eq_true rfl⟩ hK hP rfl hl.1 rfl (Nat.le_of_ble_eq_true rfl) dX9_partIsRight_6 ⟨Nat.le_refl _, Nat.le_refl _⟩ ?_
  have hq6 := tg_sumAt_le (tg_proto (tg_rd f n) hd)
  refine nv_iadd hx hb dX9_partIsRight_9 ?_
  refine lv_istore_n (lv' := [(2, .int (nI (hd + (tg_sumAt (tg_proto (tg_rd f n) hd))))), (0, .ref b), (1, .int (nI hd))]) hx hb dX9_partIsRight_10 rfl hl (by decide) rfl (fun ls hl => ?_)
  refine lv_aload_n hx hb dX9_partIsRight_11 rfl (lv_at hl 1 rfl) ?_
  refine lv_iload_n hx hb dX9_partIsRight_12 rfl (lv_at hl 0 rfl) ?_
  refine ro_V S (c_X1_pair hB (a := hd + (tg_sumAt (tg_proto (tg_rd f n) hd))) (by omega)) kw2_53 yv_X1_pair ⟨Nat.le_of_ble_eq_true rfl, Nat.le_of_ble_eq_true rfl⟩ hK hP (va_recv hK hP (ci := 2) (q0 := kb) rfl hb0) rfl hl.1 rfl (Nat.le_of_ble_eq_true rfl) dX9_partIsRight_13 ⟨Nat.le_refl _, Nat.le_refl _⟩ ?_
  have hq13 := tg_pr_lt f n (hd + (tg_sumAt (tg_proto (tg_rd f n) hd)))
  refine lv_aload_n hx hb dX9_partIsRight_16 rfl (lv_at hl 1 rfl) ?_
  refine lv_aload_n hx hb dX9_partIsRight_17 rfl (lv_at hl 1 rfl) ?_
  refine ro_V S (c_X1_length hB) kw2_54 yv_X1_length ⟨Nat.le_of_ble_eq_true rfl, Nat.le_of_ble_eq_true rfl⟩ hK hP (va_recv hK hP (ci := 2) (q0 := kb) rfl hb0) rfl hl.1 rfl (Nat.le_of_ble_eq_true rfl) dX9_partIsRight_18 ⟨Nat.le_refl _, Nat.le_refl _⟩ ?_
  refine lv_iload_n hx hb dX9_partIsRight_21 rfl (lv_at hl 2 rfl) ?_
  refine lv_iload_n hx hb dX9_partIsRight_22 rfl (lv_at hl 0 rfl) ?_
  refine ro_S S (c_X9_ofPart hB (z := n) (hd := hd) (w := hd + (tg_sumAt (tg_proto (tg_rd f n) hd))) (by omega) (by omega) (by omega) (by omega)) kw2_55 yv_X9_ofPart ⟨Nat.le_of_ble_eq_true rfl, Nat.le_of_ble_eq_true rfl⟩ hK hP rfl hl.1 rfl (Nat.le_of_ble_eq_true rfl) dX9_partIsRight_23 ⟨Nat.le_refl _, Nat.le_refl _⟩ ?_
  have hq23 := tg_sum_le (tg_rd f n) hd n (hd + (tg_sumAt (tg_proto (tg_rd f n) hd))) (tg_proto (tg_rd f n) hd)
  refine nv_icmp_ne (tgt := 33) hx hb dX9_partIsRight_26 (by decide) (by omega) (by omega) (fun h26 => ?_) (fun h26 => ?_)
  · skip
    refine nv_iconst (k := 0) hx hb dX9_partIsRight_33 rfl ?_
    exact hend ((bI_f (by subst_vars; simp only [tg_partOk, tg_place]; exact decide_eq_false (by omega)))) dX9_partIsRight_34
  refine nv_iconst (k := 1) hx hb dX9_partIsRight_29 rfl ?_
  refine lv_goto (tgt := 34) hx hb dX9_partIsRight_30 (by decide) ?_
  exact hend ((bI_t (by subst_vars; simp only [tg_partOk, tg_place]; exact decide_eq_true (by omega)))) dX9_partIsRight_34
