theorem dX8_headMask_0 : decode cX8_headMask 0 = .ok (.ldc2_w 34, 3) := by decide +kernel
theorem dX8_headMask_3 : decode cX8_headMask 3 = .ok (.bipush 64, 2) := by decide +kernel
theorem dX8_headMask_5 : decode cX8_headMask 5 = .ok (.iload_n 0, 1) := by decide +kernel
theorem dX8_headMask_6 : decode cX8_headMask 6 = .ok (.isub, 1) := by decide +kernel
theorem dX8_headMask_7 : decode cX8_headMask 7 = .ok (.lshl, 1) := by decide +kernel
theorem dX8_headMask_8 : decode cX8_headMask 8 = .ok (.lreturn, 1) := by decide +kernel
theorem yv_X8_headMask : YS yX8_headMask cX8_headMask 1 (some .long) 1 := ⟨kw1_158, kw1_4, kw1_159, by decide +kernel⟩
set_option maxHeartbeats 4000000 in
set_option maxRecDepth 100000 in
theorem c_X8_headMask {l : Launch} {D : va_G} {cy : Nat → ClassId} {ws : va_W} {k : Nat} (hk : k ≤ 64) : RO l yX8_headMask cX8_headMask 1 (some .long) 0 0 [.int (nI k)] D cy ws (.long (tg_hm k)) := by
  refine ROl (by decide) (lv0 := [(0, .int (nI k))]) rfl (Nat.le_of_ble_eq_true rfl) ?_
  intro p e s m args below meth c ls Q S hP hK hend hl
  have hx := S.1
  have hb := S.2.1
  have hown : s.vm.findClass RX8 = some m.cls := S.2.2.2.1
  have ht : ∀ w ∈ lw_g, w.before args s = true := fun w h => S.2.2.2.2 w (List.mem_cons_of_mem _ h)
  refine lv_ldc2 hx hb hown (ht _ kw1_160) dX8_headMask_0 ?_
  refine nv_bipush (k := 64) hx hb dX8_headMask_3 (by decide) ?_
  refine lv_iload_n hx hb dX8_headMask_5 rfl (lv_at hl 0 rfl) ?_
  refine nv_isub hx hb (by omega) dX8_headMask_6 ?_
  refine lv_lshl hx hb dX8_headMask_7 rfl ?_
  exact hend (rfl) dX8_headMask_8
theorem dX8_tailMask_0 : decode cX8_tailMask 0 = .ok (.lconst 1, 1) := by decide +kernel
theorem dX8_tailMask_1 : decode cX8_tailMask 1 = .ok (.iload_n 0, 1) := by decide +kernel
theorem dX8_tailMask_2 : decode cX8_tailMask 2 = .ok (.lshl, 1) := by decide +kernel
theorem dX8_tailMask_3 : decode cX8_tailMask 3 = .ok (.lconst 1, 1) := by decide +kernel
theorem dX8_tailMask_4 : decode cX8_tailMask 4 = .ok (.lsub, 1) := by decide +kernel
theorem dX8_tailMask_5 : decode cX8_tailMask 5 = .ok (.lreturn, 1) := by decide +kernel
theorem yv_X8_tailMask : YS yX8_tailMask cX8_tailMask 1 (some .long) 1 := ⟨kw1_206, kw1_4, kw1_207, by decide +kernel⟩
set_option maxHeartbeats 4000000 in
set_option maxRecDepth 100000 in
theorem c_X8_tailMask {l : Launch} {D : va_G} {cy : Nat → ClassId} {ws : va_W} {k : Nat} (hk : k ≤ 62) : RO l yX8_tailMask cX8_tailMask 1 (some .long) 0 0 [.int (nI k)] D cy ws (.long (lN (2 ^ k - 1))) := by
  refine ROl (by decide) (lv0 := [(0, .int (nI k))]) rfl (Nat.le_of_ble_eq_true rfl) ?_
  intro p e s m args below meth c ls Q S hP hK hend hl
  have hx := S.1
  have hb := S.2.1
  have hown : s.vm.findClass RX8 = some m.cls := S.2.2.2.1
  have ht : ∀ w ∈ lw_g, w.before args s = true := fun w h => S.2.2.2.2 w (List.mem_cons_of_mem _ h)
  have hp2 := Nat.two_pow_pos k
  refine lv_lconst (v := lN 1) hx hb dX8_tailMask_0 (by decide) ?_
  refine lv_iload_n hx hb dX8_tailMask_1 rfl (lv_at hl 0 rfl) ?_
  refine nv_lshl hx hb (by omega) dX8_tailMask_2 ?_
  refine lv_lconst (v := lN 1) hx hb dX8_tailMask_3 (by decide) ?_
  refine nv_lsub hx hb (by omega) dX8_tailMask_4 ?_
  exact hend (congrArg lN (by rw [Nat.one_mul])) dX8_tailMask_5
theorem dX8_bits_0 : decode cX8_bits 0 = .ok (.aload_n 0, 1) := by decide +kernel
theorem dX8_bits_1 : decode cX8_bits 1 = .ok (.getfield 7, 3) := by decide +kernel
theorem dX8_bits_4 : decode cX8_bits 4 = .ok (.ireturn, 1) := by decide +kernel
theorem yv_X8_bits : YV RX8 yX8_bits cX8_bits 1 (some .int) 0 := ⟨kw4_97, kw4_98, kw1_4, kw4_99, by decide +kernel⟩
set_option maxHeartbeats 4000000 in
set_option maxRecDepth 100000 in
theorem c_X8_bits {l : Launch} {D : va_G} {cy : Nat → ClassId} {ws : va_W} {st bits F G : Nat} (hST : STP ws st bits F G) : RO l yX8_bits cX8_bits 1 (some .int) 0 0 [.ref st] D cy ws (.int (nI bits)) := by
  refine ROi (by decide) (lv0 := [(0, .ref st)]) rfl (Nat.le_of_ble_eq_true rfl) ?_
  intro p e s m args below meth c ls Q S hP hK hend hl
  have hx := S.1
  have hb := S.2.1
  have hown : s.vm.findClass RX8 = some m.cls := S.2.2.2.1
  have ht : ∀ w ∈ lw_g, w.before args s = true := fun w h => S.2.2.2.2 w (List.mem_cons_of_mem _ h)
  obtain ⟨ks, hs0, hsi⟩ := id hST
  have hbits := hsi.b
  have hF := hsi.F
  have hG := hsi.G
  refine lv_aload_n hx hb dX8_bits_0 rfl (lv_at hl 0 rfl) ?_
  refine va_get (ci := 6) (C := RX8) (T := TX8) (N := 4) hx hb ht iFX8 hown hK hP ks hs0 rfl 2 (by decide) (ht _ kw1_56) (fun _ h9 => h9) rfl dX8_bits_1 ?_
  exact hend (rfl) dX8_bits_4
theorem dX8_isSet_0 : decode cX8_isSet 0 = .ok (.aload_n 0, 1) := by decide +kernel
theorem dX8_isSet_1 : decode cX8_isSet 1 = .ok (.getfield 7, 3) := by decide +kernel
theorem dX8_isSet_4 : decode cX8_isSet 4 = .ok (.ifCond .eq 7, 3) := by decide +kernel
theorem dX8_isSet_7 : decode cX8_isSet 7 = .ok (.iconst 1, 1) := by decide +kernel
theorem dX8_isSet_8 : decode cX8_isSet 8 = .ok (.goto 4, 3) := by decide +kernel
theorem dX8_isSet_11 : decode cX8_isSet 11 = .ok (.iconst 0, 1) := by decide +kernel
theorem dX8_isSet_12 : decode cX8_isSet 12 = .ok (.ireturn, 1) := by decide +kernel
theorem yv_X8_isSet : YV RX8 yX8_isSet cX8_isSet 1 (some .boolean) 0 := ⟨kw2_70, kw2_71, kw1_4, kw2_72, by decide +kernel⟩
set_option maxHeartbeats 4000000 in
set_option maxRecDepth 100000 in
theorem c_X8_isSet {l : Launch} {D : va_G} {cy : Nat → ClassId} {ws : va_W} {st bits F G : Nat} (hST : STP ws st bits F G) : RO l yX8_isSet cX8_isSet 1 (some .boolean) 0 0 [.ref st] D cy ws (.int (bI (decide (bits ≠ 0)))) := by
  refine ROz (by decide) (lv0 := [(0, .ref st)]) rfl (Nat.le_of_ble_eq_true rfl) ?_
  intro p e s m args below meth c ls Q S hP hK hend hl
  have hx := S.1
  have hb := S.2.1
  have hown : s.vm.findClass RX8 = some m.cls := S.2.2.2.1
  have ht : ∀ w ∈ lw_g, w.before args s = true := fun w h => S.2.2.2.2 w (List.mem_cons_of_mem _ h)
  obtain ⟨ks, hs0, hsi⟩ := id hST
  have hbits := hsi.b
  have hF := hsi.F
  have hG := hsi.G
  refine lv_aload_n hx hb dX8_isSet_0 rfl (lv_at hl 0 rfl) ?_
  refine va_get (ci := 6) (C := RX8) (T := TX8) (N := 4) hx hb ht iFX8 hown hK hP ks hs0 rfl 2 (by decide) (ht _ kw1_56) (fun _ h9 => h9) rfl dX8_isSet_1 ?_
  refine nv_if_eq (tgt := 11) hx hb dX8_isSet_4 (by decide) (by omega) (fun h4 => ?_) (fun h4 => ?_)
  · skip
    refine nv_iconst (k := 0) hx hb dX8_isSet_11 rfl ?_
    exact hend ((bI_f (decide_eq_false (by omega)))) dX8_isSet_12
  refine nv_iconst (k := 1) hx hb dX8_isSet_7 rfl ?_
  refine lv_goto (tgt := 12) hx hb dX8_isSet_8 (by decide) ?_
  exact hend ((bI_t (decide_eq_true (by omega)))) dX8_isSet_12
theorem dX8_embedHigh_0 : decode cX8_embedHigh 0 = .ok (.aload_n 0, 1) := by decide +kernel
theorem dX8_embedHigh_1 : decode cX8_embedHigh 1 = .ok (.getfield 7, 3) := by decide +kernel
theorem dX8_embedHigh_4 : decode cX8_embedHigh 4 = .ok (.ifCond .eq 12, 3) := by decide +kernel
theorem dX8_embedHigh_7 : decode cX8_embedHigh 7 = .ok (.aload_n 0, 1) := by decide +kernel
theorem dX8_embedHigh_8 : decode cX8_embedHigh 8 = .ok (.getfield 7, 3) := by decide +kernel
theorem dX8_embedHigh_11 : decode cX8_embedHigh 11 = .ok (.bipush 96, 2) := by decide +kernel
theorem dX8_embedHigh_13 : decode cX8_embedHigh 13 = .ok (.if_icmp .ne 8, 3) := by decide +kernel
theorem dX8_embedHigh_16 : decode cX8_embedHigh 16 = .ok (.aload_n 0, 1) := by decide +kernel
theorem dX8_embedHigh_17 : decode cX8_embedHigh 17 = .ok (.getfield 13, 3) := by decide +kernel
theorem dX8_embedHigh_20 : decode cX8_embedHigh 20 = .ok (.lreturn, 1) := by decide +kernel
theorem dX8_embedHigh_21 : decode cX8_embedHigh 21 = .ok (.aload_n 0, 1) := by decide +kernel
theorem dX8_embedHigh_22 : decode cX8_embedHigh 22 = .ok (.getfield 13, 3) := by decide +kernel
theorem dX8_embedHigh_25 : decode cX8_embedHigh 25 = .ok (.iload_n 1, 1) := by decide +kernel
theorem dX8_embedHigh_26 : decode cX8_embedHigh 26 = .ok (.i2l, 1) := by decide +kernel
theorem dX8_embedHigh_27 : decode cX8_embedHigh 27 = .ok (.ldc2_w 29, 3) := by decide +kernel
theorem dX8_embedHigh_30 : decode cX8_embedHigh 30 = .ok (.land, 1) := by decide +kernel
theorem dX8_embedHigh_31 : decode cX8_embedHigh 31 = .ok (.aload_n 0, 1) := by decide +kernel
theorem dX8_embedHigh_32 : decode cX8_embedHigh 32 = .ok (.getfield 26, 3) := by decide +kernel
theorem dX8_embedHigh_35 : decode cX8_embedHigh 35 = .ok (.lushr, 1) := by decide +kernel
theorem dX8_embedHigh_36 : decode cX8_embedHigh 36 = .ok (.lor, 1) := by decide +kernel
theorem dX8_embedHigh_37 : decode cX8_embedHigh 37 = .ok (.lreturn, 1) := by decide +kernel
theorem yv_X8_embedHigh : YV RX8 yX8_embedHigh cX8_embedHigh 2 (some .long) 1 := ⟨kw1_193, kw1_194, kw1_4, kw1_195, by decide +kernel⟩
set_option maxHeartbeats 4000000 in
set_option maxRecDepth 100000 in
theorem c_X8_embedHigh {l : Launch} {D : va_G} {cy : Nat → ClassId} {ws : va_W} {st bits F G : Nat} (hST : STP ws st bits F G) {x : Nat} (hx0 : x < 2 ^ 32) : RO l yX8_embedHigh cX8_embedHigh 2 (some .long) 0 0 [.ref st, .int (nI x)] D cy ws (.long (lN (tg_eh bits F x))) := by
  refine ROl (by decide) (lv0 := [(0, .ref st), (1, .int (nI x))]) rfl (Nat.le_of_ble_eq_true rfl) ?_
  intro p e s m args below meth c ls Q S hP hK hend hl
  have hx := S.1
  have hb := S.2.1
  have hown : s.vm.findClass RX8 = some m.cls := S.2.2.2.1
  have ht : ∀ w ∈ lw_g, w.before args s = true := fun w h => S.2.2.2.2 w (List.mem_cons_of_mem _ h)
  obtain ⟨ks, hs0, hsi⟩ := id hST
  have hbits := hsi.b
  have hF := hsi.F
  have hG := hsi.G
  refine lv_aload_n hx hb dX8_embedHigh_0 rfl (lv_at hl 0 rfl) ?_
  refine va_get (ci := 6) (C := RX8) (T := TX8) (N := 4) hx hb ht iFX8 hown hK hP ks hs0 rfl 2 (by decide) (ht _ kw1_56) (fun _ h9 => h9) rfl dX8_embedHigh_1 ?_
  refine nv_if_eq (tgt := 16) hx hb dX8_embedHigh_4 (by decide) (by omega) (fun h4 => ?_) (fun h4 => ?_)
  · skip
    refine lv_aload_n hx hb dX8_embedHigh_16 rfl (lv_at hl 0 rfl) ?_
    refine va_get (ci := 6) (C := RX8) (T := TX8) (N := 4) hx hb ht iFX8 hown hK hP ks hs0 rfl 0 (by decide) (ht _ kw1_54) (fun _ h9 => h9) rfl dX8_embedHigh_17 ?_
    exact hend ((congrArg lN (by unfold tg_eh; rw [if_pos (by omega)]))) dX8_embedHigh_20
  refine lv_aload_n hx hb dX8_embedHigh_7 rfl (lv_at hl 0 rfl) ?_
  refine va_get (ci := 6) (C := RX8) (T := TX8) (N := 4) hx hb ht iFX8 hown hK hP ks hs0 rfl 2 (by decide) (ht _ kw1_56) (fun _ h9 => h9) rfl dX8_embedHigh_8 ?_
  refine nv_bipush (k := 96) hx hb dX8_embedHigh_11 (by decide) ?_
  refine nv_icmp_ne (tgt := 21) hx hb dX8_embedHigh_13 (by decide) (by omega) (by omega) (fun h13 => ?_) (fun h13 => ?_)
  · skip
    refine lv_aload_n hx hb dX8_embedHigh_21 rfl (lv_at hl 0 rfl) ?_
    refine va_get (ci := 6) (C := RX8) (T := TX8) (N := 4) hx hb ht iFX8 hown hK hP ks hs0 rfl 0 (by decide) (ht _ kw1_54) (fun _ h9 => h9) rfl dX8_embedHigh_22 ?_
    refine lv_iload_n hx hb dX8_embedHigh_25 rfl (lv_at hl 1 rfl) ?_
    refine lv_i2l hx hb dX8_embedHigh_26 rfl ?_
    refine nv_ldc2 (k := 4294967295) hx hb hown (ht _ kw1_196) (by decide) dX8_embedHigh_27 ?_
    refine nv_landw hx hb (by omega) dX8_embedHigh_30 ?_
    refine lv_aload_n hx hb dX8_embedHigh_31 rfl (lv_at hl 0 rfl) ?_
    refine va_get (ci := 6) (C := RX8) (T := TX8) (N := 4) hx hb ht iFX8 hown hK hP ks hs0 rfl 3 (by decide) (ht _ kw1_57) (fun _ h9 => h9) rfl dX8_embedHigh_32 ?_
    refine nv_lushr hx hb (by omega) (by omega) dX8_embedHigh_35 ?_
    refine lv_lor hx hb dX8_embedHigh_36 ?_
    exact hend ((eh_n hsi (by omega) (by omega) (by omega) rfl)) dX8_embedHigh_37
  refine lv_aload_n hx hb dX8_embedHigh_16 rfl (lv_at hl 0 rfl) ?_
  refine va_get (ci := 6) (C := RX8) (T := TX8) (N := 4) hx hb ht iFX8 hown hK hP ks hs0 rfl 0 (by decide) (ht _ kw1_54) (fun _ h9 => h9) rfl dX8_embedHigh_17 ?_
  exact hend ((congrArg lN (by unfold tg_eh; rw [if_pos (by omega)]))) dX8_embedHigh_20
theorem dX8_embedLow_0 : decode cX8_embedLow 0 = .ok (.iload_n 1, 1) := by decide +kernel
theorem dX8_embedLow_1 : decode cX8_embedLow 1 = .ok (.i2l, 1) := by decide +kernel
theorem dX8_embedLow_2 : decode cX8_embedLow 2 = .ok (.ldc2_w 29, 3) := by decide +kernel
theorem dX8_embedLow_5 : decode cX8_embedLow 5 = .ok (.land, 1) := by decide +kernel
theorem dX8_embedLow_6 : decode cX8_embedLow 6 = .ok (.lstore_n 2, 1) := by decide +kernel
theorem dX8_embedLow_7 : decode cX8_embedLow 7 = .ok (.aload_n 0, 1) := by decide +kernel
theorem dX8_embedLow_8 : decode cX8_embedLow 8 = .ok (.getfield 7, 3) := by decide +kernel
theorem dX8_embedLow_11 : decode cX8_embedLow 11 = .ok (.ifCond .eq 12, 3) := by decide +kernel
theorem dX8_embedLow_14 : decode cX8_embedLow 14 = .ok (.aload_n 0, 1) := by decide +kernel
theorem dX8_embedLow_15 : decode cX8_embedLow 15 = .ok (.getfield 7, 3) := by decide +kernel
theorem dX8_embedLow_18 : decode cX8_embedLow 18 = .ok (.bipush 96, 2) := by decide +kernel
theorem dX8_embedLow_20 : decode cX8_embedLow 20 = .ok (.if_icmp .ne 21, 3) := by decide +kernel
theorem dX8_embedLow_23 : decode cX8_embedLow 23 = .ok (.aload_n 0, 1) := by decide +kernel
theorem dX8_embedLow_24 : decode cX8_embedLow 24 = .ok (.getfield 7, 3) := by decide +kernel
theorem dX8_embedLow_27 : decode cX8_embedLow 27 = .ok (.ifCond .ne 7, 3) := by decide +kernel
theorem dX8_embedLow_30 : decode cX8_embedLow 30 = .ok (.lconst 0, 1) := by decide +kernel
theorem dX8_embedLow_31 : decode cX8_embedLow 31 = .ok (.goto 9, 3) := by decide +kernel
theorem dX8_embedLow_34 : decode cX8_embedLow 34 = .ok (.aload_n 0, 1) := by decide +kernel
theorem dX8_embedLow_35 : decode cX8_embedLow 35 = .ok (.getfield 19, 3) := by decide +kernel
theorem dX8_embedLow_38 : decode cX8_embedLow 38 = .ok (.lload_n 2, 1) := by decide +kernel
theorem dX8_embedLow_39 : decode cX8_embedLow 39 = .ok (.lor, 1) := by decide +kernel
theorem dX8_embedLow_40 : decode cX8_embedLow 40 = .ok (.lreturn, 1) := by decide +kernel
theorem dX8_embedLow_41 : decode cX8_embedLow 41 = .ok (.lload_n 2, 1) := by decide +kernel
theorem dX8_embedLow_42 : decode cX8_embedLow 42 = .ok (.aload_n 0, 1) := by decide +kernel
theorem dX8_embedLow_43 : decode cX8_embedLow 43 = .ok (.getfield 26, 3) := by decide +kernel
theorem dX8_embedLow_46 : decode cX8_embedLow 46 = .ok (.invokestatic 31, 3) := by decide +kernel
theorem dX8_embedLow_49 : decode cX8_embedLow 49 = .ok (.land, 1) := by decide +kernel
theorem dX8_embedLow_50 : decode cX8_embedLow 50 = .ok (.bipush 56, 2) := by decide +kernel
theorem dX8_embedLow_52 : decode cX8_embedLow 52 = .ok (.aload_n 0, 1) := by decide +kernel
theorem dX8_embedLow_53 : decode cX8_embedLow 53 = .ok (.getfield 26, 3) := by decide +kernel
theorem dX8_embedLow_56 : decode cX8_embedLow 56 = .ok (.isub, 1) := by decide +kernel
theorem dX8_embedLow_57 : decode cX8_embedLow 57 = .ok (.lshl, 1) := by decide +kernel
theorem dX8_embedLow_58 : decode cX8_embedLow 58 = .ok (.lreturn, 1) := by decide +kernel
theorem yv_X8_embedLow : YV RX8 yX8_embedLow cX8_embedLow 4 (some .long) 1 := ⟨kw1_202, kw1_203, kw1_4, kw1_204, by decide +kernel⟩
set_option maxHeartbeats 4000000 in
set_option maxRecDepth 100000 in
theorem c_X8_embedLow {l : Launch} {D : va_G} {cy : Nat → ClassId} {ws : va_W} {st bits F G : Nat} (hST : STP ws st bits F G) {x : Nat} (hx0 : x < 2 ^ 32) : RO l yX8_embedLow cX8_embedLow 4 (some .long) 1 20 [.ref st, .int (nI x)] D cy ws (.long (lN (tg_el bits G x))) := by
  refine ROl (by decide) (lv0 := [(0, .ref st), (1, .int (nI x))]) rfl (Nat.le_of_ble_eq_true rfl) ?_
  intro p e s m args below meth c ls Q S hP hK hend hl
  have hx := S.1
  have hb := S.2.1
  have hown : s.vm.findClass RX8 = some m.cls := S.2.2.2.1
  have ht : ∀ w ∈ lw_g, w.before args s = true := fun w h => S.2.2.2.2 w (List.mem_cons_of_mem _ h)
  obtain ⟨ks, hs0, hsi⟩ := id hST
  have hbits := hsi.b
  have hF := hsi.F
  have hG := hsi.G
  refine lv_iload_n hx hb dX8_embedLow_0 rfl (lv_at hl 1 rfl) ?_
  refine lv_i2l hx hb dX8_embedLow_1 rfl ?_
  refine nv_ldc2 (k := 4294967295) hx hb hown (ht _ kw1_196) (by decide) dX8_embedLow_2 ?_
  refine nv_landw hx hb (by omega) dX8_embedLow_5 ?_
  refine lv_lstore_n (lv' := [(2, .long (lN (x))), (0, .ref st), (1, .int (nI x))]) hx hb dX8_embedLow_6 rfl hl (by decide) rfl (fun ls hl => ?_)
  refine lv_aload_n hx hb dX8_embedLow_7 rfl (lv_at hl 1 rfl) ?_
  refine va_get (ci := 6) (C := RX8) (T := TX8) (N := 4) hx hb ht iFX8 hown hK hP ks hs0 rfl 2 (by decide) (ht _ kw1_56) (fun _ h9 => h9) rfl dX8_embedLow_8 ?_
  refine nv_if_eq (tgt := 23) hx hb dX8_embedLow_11 (by decide) (by omega) (fun h11 => ?_) (fun h11 => ?_)
  · skip
    refine lv_aload_n hx hb dX8_embedLow_23 rfl (lv_at hl 1 rfl) ?_
    refine va_get (ci := 6) (C := RX8) (T := TX8) (N := 4) hx hb ht iFX8 hown hK hP ks hs0 rfl 2 (by decide) (ht _ kw1_56) (fun _ h9 => h9) rfl dX8_embedLow_24 ?_
    refine nv_if_ne (tgt := 34) hx hb dX8_embedLow_27 (by decide) (by omega) (fun h27 => ?_) (fun h27 => ?_)
    · skip
      refine lv_aload_n hx hb dX8_embedLow_34 rfl (lv_at hl 1 rfl) ?_
      refine va_get (ci := 6) (C := RX8) (T := TX8) (N := 4) hx hb ht iFX8 hown hK hP ks hs0 rfl 1 (by decide) (ht _ kw1_55) (fun _ h9 => h9) rfl dX8_embedLow_35 ?_
      refine lv_lload_n hx hb dX8_embedLow_38 rfl (lv_at hl 0 rfl) ?_
      refine lv_lor hx hb dX8_embedLow_39 ?_
      exact hend ((el_96 hsi (by omega) (by omega) rfl)) dX8_embedLow_40
    refine lv_lconst (v := lN 0) hx hb dX8_embedLow_30 (by decide) ?_
    refine lv_goto (tgt := 40) hx hb dX8_embedLow_31 (by decide) ?_
    exact hend ((el_0 (by omega) rfl)) dX8_embedLow_40
  refine lv_aload_n hx hb dX8_embedLow_14 rfl (lv_at hl 1 rfl) ?_
  refine va_get (ci := 6) (C := RX8) (T := TX8) (N := 4) hx hb ht iFX8 hown hK hP ks hs0 rfl 2 (by decide) (ht _ kw1_56) (fun _ h9 => h9) rfl dX8_embedLow_15 ?_
  refine nv_bipush (k := 96) hx hb dX8_embedLow_18 (by decide) ?_
  refine nv_icmp_ne (tgt := 41) hx hb dX8_embedLow_20 (by decide) (by omega) (by omega) (fun h20 => ?_) (fun h20 => ?_)
  · skip
    refine lv_lload_n hx hb dX8_embedLow_41 rfl (lv_at hl 0 rfl) ?_
    refine lv_aload_n hx hb dX8_embedLow_42 rfl (lv_at hl 1 rfl) ?_
    refine va_get (ci := 6) (C := RX8) (T := TX8) (N := 4) hx hb ht iFX8 hown hK hP ks hs0 rfl 3 (by decide) (ht _ kw1_57) (fun _ h9 => h9) rfl dX8_embedLow_43 ?_
    refine ro_S S (c_X8_tailMask (k := bits - 32) (by omega)) kw1_205 yv_X8_tailMask ⟨Nat.le_of_ble_eq_true rfl, Nat.le_of_ble_eq_true rfl⟩ hK hP rfl hl.1 rfl (Nat.le_of_ble_eq_true rfl) dX8_embedLow_46 ⟨Nat.le_refl _, Nat.le_refl _⟩ ?_
    refine nv_landm (bits - 32) hx hb rfl dX8_embedLow_49 ?_
    refine nv_bipush (k := 56) hx hb dX8_embedLow_50 (by decide) ?_
    refine lv_aload_n hx hb dX8_embedLow_52 rfl (lv_at hl 1 rfl) ?_
    refine va_get (ci := 6) (C := RX8) (T := TX8) (N := 4) hx hb ht iFX8 hown hK hP ks hs0 rfl 3 (by decide) (ht _ kw1_57) (fun _ h9 => h9) rfl dX8_embedLow_53 ?_
    refine nv_isub hx hb (by omega) dX8_embedLow_56 ?_
    refine nv_lshl hx hb (by omega) dX8_embedLow_57 ?_
    exact hend ((el_n hbits (by omega) (by omega) rfl)) dX8_embedLow_58
  refine lv_aload_n hx hb dX8_embedLow_23 rfl (lv_at hl 1 rfl) ?_
  refine va_get (ci := 6) (C := RX8) (T := TX8) (N := 4) hx hb ht iFX8 hown hK hP ks hs0 rfl 2 (by decide) (ht _ kw1_56) (fun _ h9 => h9) rfl dX8_embedLow_24 ?_
  refine nv_if_ne (tgt := 34) hx hb dX8_embedLow_27 (by decide) (by omega) (fun h27 => ?_) (fun h27 => ?_)
  · skip
    refine lv_aload_n hx hb dX8_embedLow_34 rfl (lv_at hl 1 rfl) ?_
    refine va_get (ci := 6) (C := RX8) (T := TX8) (N := 4) hx hb ht iFX8 hown hK hP ks hs0 rfl 1 (by decide) (ht _ kw1_55) (fun _ h9 => h9) rfl dX8_embedLow_35 ?_
    refine lv_lload_n hx hb dX8_embedLow_38 rfl (lv_at hl 0 rfl) ?_
    refine lv_lor hx hb dX8_embedLow_39 ?_
    exact hend ((el_96 hsi (by omega) (by omega) rfl)) dX8_embedLow_40
  refine lv_lconst (v := lN 0) hx hb dX8_embedLow_30 (by decide) ?_
  refine lv_goto (tgt := 40) hx hb dX8_embedLow_31 (by decide) ?_
  exact hend ((el_0 (by omega) rfl)) dX8_embedLow_40
theorem dX8_draw_0 : decode cX8_draw 0 = .ok (.aload_n 0, 1) := by decide +kernel
theorem dX8_draw_1 : decode cX8_draw 1 = .ok (.getfield 7, 3) := by decide +kernel
theorem dX8_draw_4 : decode cX8_draw 4 = .ok (.bipush 96, 2) := by decide +kernel
theorem dX8_draw_6 : decode cX8_draw 6 = .ok (.if_icmp .ne 49, 3) := by decide +kernel
theorem dX8_draw_9 : decode cX8_draw 9 = .ok (.lload_n 1, 1) := by decide +kernel
theorem dX8_draw_10 : decode cX8_draw 10 = .ok (.aload_n 0, 1) := by decide +kernel
theorem dX8_draw_11 : decode cX8_draw 11 = .ok (.getfield 13, 3) := by decide +kernel
theorem dX8_draw_14 : decode cX8_draw 14 = .ok (.lcmp, 1) := by decide +kernel
theorem dX8_draw_15 : decode cX8_draw 15 = .ok (.ifCond .ne 20, 3) := by decide +kernel
theorem dX8_draw_18 : decode cX8_draw 18 = .ok (.lload_n 3, 1) := by decide +kernel
theorem dX8_draw_19 : decode cX8_draw 19 = .ok (.ldc2_w 17, 3) := by decide +kernel
theorem dX8_draw_22 : decode cX8_draw 22 = .ok (.land, 1) := by decide +kernel
theorem dX8_draw_23 : decode cX8_draw 23 = .ok (.aload_n 0, 1) := by decide +kernel
theorem dX8_draw_24 : decode cX8_draw 24 = .ok (.getfield 19, 3) := by decide +kernel
theorem dX8_draw_27 : decode cX8_draw 27 = .ok (.lcmp, 1) := by decide +kernel
theorem dX8_draw_28 : decode cX8_draw 28 = .ok (.ifCond .ne 7, 3) := by decide +kernel
theorem dX8_draw_31 : decode cX8_draw 31 = .ok (.iconst 1, 1) := by decide +kernel
theorem dX8_draw_32 : decode cX8_draw 32 = .ok (.goto 4, 3) := by decide +kernel
theorem dX8_draw_35 : decode cX8_draw 35 = .ok (.iconst 0, 1) := by decide +kernel
theorem dX8_draw_36 : decode cX8_draw 36 = .ok (.istore 5, 2) := by decide +kernel
theorem dX8_draw_38 : decode cX8_draw 38 = .ok (.iload 5, 2) := by decide +kernel
theorem dX8_draw_40 : decode cX8_draw 40 = .ok (.ifCond .eq 11, 3) := by decide +kernel
theorem dX8_draw_43 : decode cX8_draw 43 = .ok (.lload_n 3, 1) := by decide +kernel
theorem dX8_draw_44 : decode cX8_draw 44 = .ok (.ldc2_w 29, 3) := by decide +kernel
theorem dX8_draw_47 : decode cX8_draw 47 = .ok (.land, 1) := by decide +kernel
theorem dX8_draw_48 : decode cX8_draw 48 = .ok (.goto 6, 3) := by decide +kernel
theorem dX8_draw_51 : decode cX8_draw 51 = .ok (.ldc2_w 34, 3) := by decide +kernel
theorem dX8_draw_54 : decode cX8_draw 54 = .ok (.lreturn, 1) := by decide +kernel
theorem dX8_draw_55 : decode cX8_draw 55 = .ok (.aload_n 0, 1) := by decide +kernel
theorem dX8_draw_56 : decode cX8_draw 56 = .ok (.getfield 7, 3) := by decide +kernel
theorem dX8_draw_59 : decode cX8_draw 59 = .ok (.invokestatic 22, 3) := by decide +kernel
theorem dX8_draw_62 : decode cX8_draw 62 = .ok (.lstore 5, 2) := by decide +kernel
theorem dX8_draw_64 : decode cX8_draw 64 = .ok (.aload_n 0, 1) := by decide +kernel
theorem dX8_draw_65 : decode cX8_draw 65 = .ok (.getfield 7, 3) := by decide +kernel
theorem dX8_draw_68 : decode cX8_draw 68 = .ok (.ifCond .eq 24, 3) := by decide +kernel
theorem dX8_draw_71 : decode cX8_draw 71 = .ok (.lload_n 1, 1) := by decide +kernel
theorem dX8_draw_72 : decode cX8_draw 72 = .ok (.lload 5, 2) := by decide +kernel
theorem dX8_draw_74 : decode cX8_draw 74 = .ok (.land, 1) := by decide +kernel
theorem dX8_draw_75 : decode cX8_draw 75 = .ok (.aload_n 0, 1) := by decide +kernel
theorem dX8_draw_76 : decode cX8_draw 76 = .ok (.getfield 13, 3) := by decide +kernel
theorem dX8_draw_79 : decode cX8_draw 79 = .ok (.lcmp, 1) := by decide +kernel
theorem dX8_draw_80 : decode cX8_draw 80 = .ok (.ifCond .ne 12, 3) := by decide +kernel
theorem dX8_draw_83 : decode cX8_draw 83 = .ok (.lload_n 3, 1) := by decide +kernel
theorem dX8_draw_84 : decode cX8_draw 84 = .ok (.bipush 56, 2) := by decide +kernel
theorem dX8_draw_86 : decode cX8_draw 86 = .ok (.lushr, 1) := by decide +kernel
theorem dX8_draw_87 : decode cX8_draw 87 = .ok (.lconst 0, 1) := by decide +kernel
theorem dX8_draw_88 : decode cX8_draw 88 = .ok (.lcmp, 1) := by decide +kernel
theorem dX8_draw_89 : decode cX8_draw 89 = .ok (.ifCond .eq 7, 3) := by decide +kernel
theorem dX8_draw_92 : decode cX8_draw 92 = .ok (.ldc2_w 34, 3) := by decide +kernel
theorem dX8_draw_95 : decode cX8_draw 95 = .ok (.lreturn, 1) := by decide +kernel
theorem dX8_draw_96 : decode cX8_draw 96 = .ok (.lload_n 3, 1) := by decide +kernel
theorem dX8_draw_97 : decode cX8_draw 97 = .ok (.bipush 56, 2) := by decide +kernel
theorem dX8_draw_99 : decode cX8_draw 99 = .ok (.aload_n 0, 1) := by decide +kernel
theorem dX8_draw_100 : decode cX8_draw 100 = .ok (.getfield 26, 3) := by decide +kernel
theorem dX8_draw_103 : decode cX8_draw 103 = .ok (.isub, 1) := by decide +kernel
theorem dX8_draw_104 : decode cX8_draw 104 = .ok (.lushr, 1) := by decide +kernel
theorem dX8_draw_105 : decode cX8_draw 105 = .ok (.aload_n 0, 1) := by decide +kernel
theorem dX8_draw_106 : decode cX8_draw 106 = .ok (.getfield 26, 3) := by decide +kernel
theorem dX8_draw_109 : decode cX8_draw 109 = .ok (.invokestatic 31, 3) := by decide +kernel
theorem dX8_draw_112 : decode cX8_draw 112 = .ok (.land, 1) := by decide +kernel
theorem dX8_draw_113 : decode cX8_draw 113 = .ok (.lstore 7, 2) := by decide +kernel
theorem dX8_draw_115 : decode cX8_draw 115 = .ok (.lload_n 1, 1) := by decide +kernel
theorem dX8_draw_116 : decode cX8_draw 116 = .ok (.lload 5, 2) := by decide +kernel
theorem dX8_draw_118 : decode cX8_draw 118 = .ok (.ldc2_w 34, 3) := by decide +kernel
theorem dX8_draw_121 : decode cX8_draw 121 = .ok (.lxor, 1) := by decide +kernel
theorem dX8_draw_122 : decode cX8_draw 122 = .ok (.land, 1) := by decide +kernel
theorem dX8_draw_123 : decode cX8_draw 123 = .ok (.aload_n 0, 1) := by decide +kernel
theorem dX8_draw_124 : decode cX8_draw 124 = .ok (.getfield 26, 3) := by decide +kernel
theorem dX8_draw_127 : decode cX8_draw 127 = .ok (.lshl, 1) := by decide +kernel
theorem dX8_draw_128 : decode cX8_draw 128 = .ok (.lload 7, 2) := by decide +kernel
theorem dX8_draw_130 : decode cX8_draw 130 = .ok (.lor, 1) := by decide +kernel
theorem dX8_draw_131 : decode cX8_draw 131 = .ok (.lreturn, 1) := by decide +kernel
theorem yv_X8_draw : YV RX8 yX8_draw cX8_draw 9 (some .long) 2 := ⟨kw1_213, kw1_214, kw1_4, kw1_215, by decide +kernel⟩
set_option maxHeartbeats 4000000 in
set_option maxRecDepth 100000 in
theorem c_X8_draw {l : Launch} {D : va_G} {cy : Nat → ClassId} {ws : va_W} {st bits F G : Nat} (hST : STP ws st bits F G) {hi lo : Nat} (hhi : hi < 2 ^ 64) (hlo : lo < 2 ^ 64) : RO l yX8_draw cX8_draw 9 (some .long) 1 20 [.ref st, .long (lN (hi)), .long (lN (lo))] D cy ws (.long (tg_draw bits F G hi lo)) := by
  refine ROl (by decide) (lv0 := [(0, .ref st), (1, .long (lN (hi))), (3, .long (lN (lo)))]) rfl (Nat.le_of_ble_eq_true rfl) ?_
  intro p e s m args below meth c ls Q S hP hK hend hl
  have hx := S.1
  have hb := S.2.1
  have hown : s.vm.findClass RX8 = some m.cls := S.2.2.2.1
  have ht : ∀ w ∈ lw_g, w.before args s = true := fun w h => S.2.2.2.2 w (List.mem_cons_of_mem _ h)
  obtain ⟨ks, hs0, hsi⟩ := id hST
  have hbits := hsi.b
  have hF := hsi.F
  have hG := hsi.G
  refine lv_aload_n hx hb dX8_draw_0 rfl (lv_at hl 0 rfl) ?_
  refine va_get (ci := 6) (C := RX8) (T := TX8) (N := 4) hx hb ht iFX8 hown hK hP ks hs0 rfl 2 (by decide) (ht _ kw1_56) (fun _ h9 => h9) rfl dX8_draw_1 ?_
  refine nv_bipush (k := 96) hx hb dX8_draw_4 (by decide) ?_
  refine nv_icmp_ne (tgt := 55) hx hb dX8_draw_6 (by decide) (by omega) (by omega) (fun h6 => ?_) (fun h6 => ?_)
  · skip
    refine lv_aload_n hx hb dX8_draw_55 rfl (lv_at hl 0 rfl) ?_
    refine va_get (ci := 6) (C := RX8) (T := TX8) (N := 4) hx hb ht iFX8 hown hK hP ks hs0 rfl 2 (by decide) (ht _ kw1_56) (fun _ h9 => h9) rfl dX8_draw_56 ?_
    refine ro_S S (c_X8_headMask (k := bits) (by omega)) kw1_157 yv_X8_headMask ⟨Nat.le_of_ble_eq_true rfl, Nat.le_of_ble_eq_true rfl⟩ hK hP rfl hl.1 rfl (Nat.le_of_ble_eq_true rfl) dX8_draw_59 ⟨Nat.le_refl _, Nat.le_refl _⟩ ?_
    refine lv_lstore (lv' := [(5, .long (tg_hm bits)), (0, .ref st), (1, .long (lN (hi))), (3, .long (lN (lo)))]) hx hb dX8_draw_62 hl (by decide) rfl (fun ls hl => ?_)
    refine lv_aload_n hx hb dX8_draw_64 rfl (lv_at hl 1 rfl) ?_
    refine va_get (ci := 6) (C := RX8) (T := TX8) (N := 4) hx hb ht iFX8 hown hK hP ks hs0 rfl 2 (by decide) (ht _ kw1_56) (fun _ h9 => h9) rfl dX8_draw_65 ?_
    refine nv_if_eq (tgt := 92) hx hb dX8_draw_68 (by decide) (by omega) (fun h68 => ?_) (fun h68 => ?_)
    · skip
      refine lv_ldc2 hx hb hown (ht _ kw1_160) dX8_draw_92 ?_
      exact hend ((by first | (subst h68; exact dr_0) | exact dr_a hbits h6 hhi h79 | exact dr_b h6 h88)) dX8_draw_95
    refine lv_lload_n hx hb dX8_draw_71 rfl (lv_at hl 2 rfl) ?_
    refine lv_lload hx hb dX8_draw_72 (lv_at hl 0 rfl) ?_
    refine lv_land hx hb dX8_draw_74 ?_
    refine lv_aload_n hx hb dX8_draw_75 rfl (lv_at hl 1 rfl) ?_
    refine va_get (ci := 6) (C := RX8) (T := TX8) (N := 4) hx hb ht iFX8 hown hK hP ks hs0 rfl 0 (by decide) (ht _ kw1_54) (fun _ h9 => h9) rfl dX8_draw_76 ?_
    refine nv_lcmp_ne (tgt := 92) hx hb dX8_draw_79 dX8_draw_80 (by decide) (fun h79 => ?_) (fun h79 => ?_)
    · skip
      refine lv_ldc2 hx hb hown (ht _ kw1_160) dX8_draw_92 ?_
      exact hend ((by first | (subst h68; exact dr_0) | exact dr_a hbits h6 hhi h79 | exact dr_b h6 h88)) dX8_draw_95
    refine lv_lload_n hx hb dX8_draw_83 rfl (lv_at hl 3 rfl) ?_
    refine nv_bipush (k := 56) hx hb dX8_draw_84 (by decide) ?_
    refine nv_lushr hx hb (by omega) (by omega) dX8_draw_86 ?_
    refine lv_lconst (v := lN 0) hx hb dX8_draw_87 (by decide) ?_
    refine nv_lcmp_eq (tgt := 96) hx hb dX8_draw_88 dX8_draw_89 (by decide) (fun h88 => ?_) (fun h88 => ?_)
    · skip
      refine lv_lload_n hx hb dX8_draw_96 rfl (lv_at hl 3 rfl) ?_
      refine nv_bipush (k := 56) hx hb dX8_draw_97 (by decide) ?_
      refine lv_aload_n hx hb dX8_draw_99 rfl (lv_at hl 1 rfl) ?_
      refine va_get (ci := 6) (C := RX8) (T := TX8) (N := 4) hx hb ht iFX8 hown hK hP ks hs0 rfl 3 (by decide) (ht _ kw1_57) (fun _ h9 => h9) rfl dX8_draw_100 ?_
      refine nv_isub hx hb (by omega) dX8_draw_103 ?_
      refine nv_lushr hx hb (by omega) (by omega) dX8_draw_104 ?_
      refine lv_aload_n hx hb dX8_draw_105 rfl (lv_at hl 1 rfl) ?_
      refine va_get (ci := 6) (C := RX8) (T := TX8) (N := 4) hx hb ht iFX8 hown hK hP ks hs0 rfl 3 (by decide) (ht _ kw1_57) (fun _ h9 => h9) rfl dX8_draw_106 ?_
      refine ro_S S (c_X8_tailMask (k := bits - 32) (by omega)) kw1_205 yv_X8_tailMask ⟨Nat.le_of_ble_eq_true rfl, Nat.le_of_ble_eq_true rfl⟩ hK hP rfl hl.1 rfl (Nat.le_of_ble_eq_true rfl) dX8_draw_109 ⟨Nat.le_refl _, Nat.le_refl _⟩ ?_
      refine nv_landm (bits - 32) hx hb rfl dX8_draw_112 ?_
      refine lv_lstore (lv' := [(7, .long (lN (((lo) / 2 ^ (56 - (bits - 32))) % 2 ^ (bits - 32)))), (5, .long (tg_hm bits)), (0, .ref st), (1, .long (lN (hi))), (3, .long (lN (lo)))]) hx hb dX8_draw_113 hl (by decide) rfl (fun ls hl => ?_)
      refine lv_lload_n hx hb dX8_draw_115 rfl (lv_at hl 3 rfl) ?_
      refine lv_lload hx hb dX8_draw_116 (lv_at hl 1 rfl) ?_
      refine lv_ldc2 hx hb hown (ht _ kw1_160) dX8_draw_118 ?_
      refine lv_lxor hx hb dX8_draw_121 ?_
      refine lv_land hx hb dX8_draw_122 ?_
      refine lv_aload_n hx hb dX8_draw_123 rfl (lv_at hl 2 rfl) ?_
      refine va_get (ci := 6) (C := RX8) (T := TX8) (N := 4) hx hb ht iFX8 hown hK hP ks hs0 rfl 3 (by decide) (ht _ kw1_57) (fun _ h9 => h9) rfl dX8_draw_124 ?_
      refine lv_lshl hx hb dX8_draw_127 rfl ?_
      refine lv_lload hx hb dX8_draw_128 (lv_at hl 0 rfl) ?_
      refine lv_lor hx hb dX8_draw_130 ?_
      exact hend ((dr_y hbits h68 h6 hF hhi hlo h79 h88 rfl)) dX8_draw_131
    refine lv_ldc2 hx hb hown (ht _ kw1_160) dX8_draw_92 ?_
    exact hend ((by first | (subst h68; exact dr_0) | exact dr_a hbits h6 hhi h79 | exact dr_b h6 h88)) dX8_draw_95
  refine lv_lload_n hx hb dX8_draw_9 rfl (lv_at hl 1 rfl) ?_
  refine lv_aload_n hx hb dX8_draw_10 rfl (lv_at hl 0 rfl) ?_
  refine va_get (ci := 6) (C := RX8) (T := TX8) (N := 4) hx hb ht iFX8 hown hK hP ks hs0 rfl 0 (by decide) (ht _ kw1_54) (fun _ h9 => h9) rfl dX8_draw_11 ?_
  refine nv_lcmp_ne (tgt := 35) hx hb dX8_draw_14 dX8_draw_15 (by decide) (fun h14 => ?_) (fun h14 => ?_)
  · skip
    refine nv_iconst (k := 0) hx hb dX8_draw_35 rfl ?_
    refine lv_istore (lv' := [(5, .int (nI 0)), (0, .ref st), (1, .long (lN (hi))), (3, .long (lN (lo)))]) hx hb dX8_draw_36 hl (by decide) rfl (fun ls hl => ?_)
    refine lv_iload hx hb dX8_draw_38 (lv_at hl 0 rfl) ?_
    refine nv_if_eq (tgt := 51) hx hb dX8_draw_40 (by decide) (by omega) (fun _ => ?_) (fun h => absurd h (by decide))
    refine lv_ldc2 hx hb hown (ht _ kw1_160) dX8_draw_51 ?_
    exact hend ((by subst h6; first | exact dr_96a h14 | exact dr_96b hlo h27)) dX8_draw_54
  refine lv_lload_n hx hb dX8_draw_18 rfl (lv_at hl 2 rfl) ?_
  refine lv_ldc2 hx hb hown (ht _ kw1_156) dX8_draw_19 ?_
  refine lv_land hx hb dX8_draw_22 ?_
  refine lv_aload_n hx hb dX8_draw_23 rfl (lv_at hl 0 rfl) ?_
  refine va_get (ci := 6) (C := RX8) (T := TX8) (N := 4) hx hb ht iFX8 hown hK hP ks hs0 rfl 1 (by decide) (ht _ kw1_55) (fun _ h9 => h9) rfl dX8_draw_24 ?_
  refine nv_lcmp_ne (tgt := 35) hx hb dX8_draw_27 dX8_draw_28 (by decide) (fun h27 => ?_) (fun h27 => ?_)
  · skip
    refine nv_iconst (k := 0) hx hb dX8_draw_35 rfl ?_
    refine lv_istore (lv' := [(5, .int (nI 0)), (0, .ref st), (1, .long (lN (hi))), (3, .long (lN (lo)))]) hx hb dX8_draw_36 hl (by decide) rfl (fun ls hl => ?_)
    refine lv_iload hx hb dX8_draw_38 (lv_at hl 0 rfl) ?_
    refine nv_if_eq (tgt := 51) hx hb dX8_draw_40 (by decide) (by omega) (fun _ => ?_) (fun h => absurd h (by decide))
    refine lv_ldc2 hx hb hown (ht _ kw1_160) dX8_draw_51 ?_
    exact hend ((by subst h6; first | exact dr_96a h14 | exact dr_96b hlo h27)) dX8_draw_54
  refine nv_iconst (k := 1) hx hb dX8_draw_31 rfl ?_
  refine lv_goto (tgt := 36) hx hb dX8_draw_32 (by decide) ?_
  refine lv_istore (lv' := [(5, .int (nI 1)), (0, .ref st), (1, .long (lN (hi))), (3, .long (lN (lo)))]) hx hb dX8_draw_36 hl (by decide) rfl (fun ls hl => ?_)
  refine lv_iload hx hb dX8_draw_38 (lv_at hl 0 rfl) ?_
  refine nv_if_eq (tgt := 51) hx hb dX8_draw_40 (by decide) (by omega) (fun h => absurd h (by decide)) (fun _ => ?_)
  refine lv_lload_n hx hb dX8_draw_43 rfl (lv_at hl 3 rfl) ?_
  refine nv_ldc2 (k := 4294967295) hx hb hown (ht _ kw1_196) (by decide) dX8_draw_44 ?_
  refine nv_landm 32 hx hb (by decide) dX8_draw_47 ?_
  refine lv_goto (tgt := 54) hx hb dX8_draw_48 (by decide) ?_
  exact hend ((by subst h6; exact dr_96 hG hF hhi hlo h14 h27)) dX8_draw_54
theorem dX8_covers_0 : decode cX8_covers 0 = .ok (.aload_n 0, 1) := by decide +kernel
theorem dX8_covers_1 : decode cX8_covers 1 = .ok (.lload_n 1, 1) := by decide +kernel
theorem dX8_covers_2 : decode cX8_covers 2 = .ok (.lload_n 3, 1) := by decide +kernel
theorem dX8_covers_3 : decode cX8_covers 3 = .ok (.invokevirtual 36, 3) := by decide +kernel
theorem dX8_covers_6 : decode cX8_covers 6 = .ok (.lconst 0, 1) := by decide +kernel
theorem dX8_covers_7 : decode cX8_covers 7 = .ok (.lcmp, 1) := by decide +kernel
theorem dX8_covers_8 : decode cX8_covers 8 = .ok (.ifCond .lt 7, 3) := by decide +kernel
theorem dX8_covers_11 : decode cX8_covers 11 = .ok (.iconst 1, 1) := by decide +kernel
theorem dX8_covers_12 : decode cX8_covers 12 = .ok (.goto 4, 3) := by decide +kernel
theorem dX8_covers_15 : decode cX8_covers 15 = .ok (.iconst 0, 1) := by decide +kernel
theorem dX8_covers_16 : decode cX8_covers 16 = .ok (.ireturn, 1) := by decide +kernel
theorem yv_X8_covers : YV RX8 yX8_covers cX8_covers 5 (some .boolean) 2 := ⟨kw2_84, kw2_85, kw1_4, kw2_86, by decide +kernel⟩
set_option maxHeartbeats 4000000 in
set_option maxRecDepth 100000 in
theorem c_X8_covers {l : Launch} {D : va_G} {cy : Nat → ClassId} {ws : va_W} {st bits F G : Nat} (hST : STP ws st bits F G) {hi lo : Nat} (hhi : hi < 2 ^ 64) (hlo : lo < 2 ^ 64) : RO l yX8_covers cX8_covers 5 (some .boolean) 2 48 [.ref st, .long (lN (hi)), .long (lN (lo))] D cy ws (.int (bI (tg_of bits F G hi lo))) := by
  refine ROz (by decide) (lv0 := [(0, .ref st), (1, .long (lN (hi))), (3, .long (lN (lo)))]) rfl (Nat.le_of_ble_eq_true rfl) ?_
  intro p e s m args below meth c ls Q S hP hK hend hl
  have hx := S.1
  have hb := S.2.1
  have hown : s.vm.findClass RX8 = some m.cls := S.2.2.2.1
  have ht : ∀ w ∈ lw_g, w.before args s = true := fun w h => S.2.2.2.2 w (List.mem_cons_of_mem _ h)
  obtain ⟨ks, hs0, hsi⟩ := id hST
  have hbits := hsi.b
  have hF := hsi.F
  have hG := hsi.G
  refine lv_aload_n hx hb dX8_covers_0 rfl (lv_at hl 0 rfl) ?_
  refine lv_lload_n hx hb dX8_covers_1 rfl (lv_at hl 1 rfl) ?_
  refine lv_lload_n hx hb dX8_covers_2 rfl (lv_at hl 2 rfl) ?_
  refine ro_V S (c_X8_draw hST (hi := hi) (lo := lo) (by omega) (by omega)) kw2_87 yv_X8_draw ⟨Nat.le_of_ble_eq_true rfl, Nat.le_of_ble_eq_true rfl⟩ hK hP (va_recv hK hP (ci := 6) (q0 := ks) rfl hs0) rfl hl.1 rfl (Nat.le_of_ble_eq_true rfl) dX8_covers_3 ⟨Nat.le_refl _, Nat.le_refl _⟩ ?_
  refine lv_lconst (v := lN 0) hx hb dX8_covers_6 (by decide) ?_
  refine nv_lcmp_lt (tgt := 15) hx hb dX8_covers_7 dX8_covers_8 (by decide) (fun h7 => ?_) (fun h7 => ?_)
  · skip
    refine nv_iconst (k := 0) hx hb dX8_covers_15 rfl ?_
    exact hend ((bI_f ((dr_neg hbits).mp (by assumption)))) dX8_covers_16
  refine nv_iconst (k := 1) hx hb dX8_covers_11 rfl ?_
  refine lv_goto (tgt := 16) hx hb dX8_covers_12 (by decide) ?_
  exact hend ((bI_t (by have := mt (dr_neg hbits).mpr (by assumption); simpa using this))) dX8_covers_16
theorem dX5_isOdd_0 : decode cX5_isOdd 0 = .ok (.iload_n 0, 1) := by decide +kernel
theorem dX5_isOdd_1 : decode cX5_isOdd 1 = .ok (.bipush 24, 2) := by decide +kernel
theorem dX5_isOdd_3 : decode cX5_isOdd 3 = .ok (.iushr, 1) := by decide +kernel
theorem dX5_isOdd_4 : decode cX5_isOdd 4 = .ok (.istore_n 1, 1) := by decide +kernel
theorem dX5_isOdd_5 : decode cX5_isOdd 5 = .ok (.iload_n 1, 1) := by decide +kernel
theorem dX5_isOdd_6 : decode cX5_isOdd 6 = .ok (.ifCond .eq 16, 3) := by decide +kernel
theorem dX5_isOdd_9 : decode cX5_isOdd 9 = .ok (.iload_n 1, 1) := by decide +kernel
theorem dX5_isOdd_10 : decode cX5_isOdd 10 = .ok (.bipush 127, 2) := by decide +kernel
theorem dX5_isOdd_12 : decode cX5_isOdd 12 = .ok (.if_icmp .eq 10, 3) := by decide +kernel
theorem dX5_isOdd_15 : decode cX5_isOdd 15 = .ok (.iload_n 1, 1) := by decide +kernel
theorem dX5_isOdd_16 : decode cX5_isOdd 16 = .ok (.sipush 224, 3) := by decide +kernel
theorem dX5_isOdd_19 : decode cX5_isOdd 19 = .ok (.if_icmp .lt 7, 3) := by decide +kernel
theorem dX5_isOdd_22 : decode cX5_isOdd 22 = .ok (.iconst 1, 1) := by decide +kernel
theorem dX5_isOdd_23 : decode cX5_isOdd 23 = .ok (.goto 4, 3) := by decide +kernel
theorem dX5_isOdd_26 : decode cX5_isOdd 26 = .ok (.iconst 0, 1) := by decide +kernel
theorem dX5_isOdd_27 : decode cX5_isOdd 27 = .ok (.ireturn, 1) := by decide +kernel
theorem yv_X5_isOdd : YS yX5_isOdd cX5_isOdd 2 (some .boolean) 1 := ⟨kw1_178, kw1_5, kw1_179, by decide +kernel⟩
set_option maxHeartbeats 4000000 in
set_option maxRecDepth 100000 in
theorem c_X5_isOdd {l : Launch} {D : va_G} {cy : Nat → ClassId} {ws : va_W} {x : Nat} (hx0 : x < 2 ^ 32) : RO l yX5_isOdd cX5_isOdd 2 (some .boolean) 0 0 [.int (nI x)] D cy ws (.int (bI (tg_odd x))) := by
  refine ROz (by decide) (lv0 := [(0, .int (nI x))]) rfl (Nat.le_of_ble_eq_true rfl) ?_
  intro p e s m args below meth c ls Q S hP hK hend hl
  have hx := S.1
  have hb := S.2.1
  have hown : s.vm.findClass RX5 = some m.cls := S.2.2.2.1
  have ht : ∀ w ∈ lw_g, w.before args s = true := fun w h => S.2.2.2.2 w (List.mem_cons_of_mem _ h)
  refine lv_iload_n hx hb dX5_isOdd_0 rfl (lv_at hl 0 rfl) ?_
  refine nv_bipush (k := 24) hx hb dX5_isOdd_1 (by decide) ?_
  refine nv_iushr hx hb (by omega) (by omega) dX5_isOdd_3 ?_
  refine lv_istore_n (lv' := [(1, .int (nI ((x) / 2 ^ 24))), (0, .int (nI x))]) hx hb dX5_isOdd_4 rfl hl (by decide) rfl (fun ls hl => ?_)
  refine lv_iload_n hx hb dX5_isOdd_5 rfl (lv_at hl 0 rfl) ?_
  refine nv_if_eq (tgt := 22) hx hb dX5_isOdd_6 (by decide) (by omega) (fun h6 => ?_) (fun h6 => ?_)
  · skip
    refine nv_iconst (k := 1) hx hb dX5_isOdd_22 rfl ?_
    refine lv_goto (tgt := 27) hx hb dX5_isOdd_23 (by decide) ?_
    exact hend ((bI_t (by simp only [tg_odd]; exact decide_eq_true (by omega)))) dX5_isOdd_27
  refine lv_iload_n hx hb dX5_isOdd_9 rfl (lv_at hl 0 rfl) ?_
  refine nv_bipush (k := 127) hx hb dX5_isOdd_10 (by decide) ?_
  refine nv_icmp_eq (tgt := 22) hx hb dX5_isOdd_12 (by decide) (by omega) (by omega) (fun h12 => ?_) (fun h12 => ?_)
  · skip
    refine nv_iconst (k := 1) hx hb dX5_isOdd_22 rfl ?_
    refine lv_goto (tgt := 27) hx hb dX5_isOdd_23 (by decide) ?_
    exact hend ((bI_t (by simp only [tg_odd]; exact decide_eq_true (by omega)))) dX5_isOdd_27
  refine lv_iload_n hx hb dX5_isOdd_15 rfl (lv_at hl 0 rfl) ?_
  refine nv_sipush (k := 224) hx hb dX5_isOdd_16 (by decide) ?_
  refine nv_icmp_lt (tgt := 26) hx hb dX5_isOdd_19 (by decide) (by omega) (by omega) (fun h19 => ?_) (fun h19 => ?_)
  · skip
    refine nv_iconst (k := 0) hx hb dX5_isOdd_26 rfl ?_
    exact hend ((bI_f (by simp only [tg_odd]; exact decide_eq_false (by omega)))) dX5_isOdd_27
  refine nv_iconst (k := 1) hx hb dX5_isOdd_22 rfl ?_
  refine lv_goto (tgt := 27) hx hb dX5_isOdd_23 (by decide) ?_
  exact hend ((bI_t (by simp only [tg_odd]; exact decide_eq_true (by omega)))) dX5_isOdd_27
theorem dX5_size_0 : decode cX5_size 0 = .ok (.aload_n 0, 1) := by decide +kernel
theorem dX5_size_1 : decode cX5_size 1 = .ok (.getfield 13, 3) := by decide +kernel
theorem dX5_size_4 : decode cX5_size 4 = .ok (.ireturn, 1) := by decide +kernel
theorem yv_X5_size : YV RX5 yX5_size cX5_size 1 (some .int) 0 := ⟨kw2_74, kw2_75, kw1_5, kw2_76, by decide +kernel⟩
set_option maxHeartbeats 4000000 in
set_option maxRecDepth 100000 in
theorem c_X5_size {l : Launch} {D : va_G} {cy : Nat → ClassId} {ws : va_W} {po u : Nat} {g : Nat → Int32} (hPL : PLP cy ws po g u) : RO l yX5_size cX5_size 1 (some .int) 0 0 [.ref po] D cy ws (.int (nI u)) := by
  refine ROi (by decide) (lv0 := [(0, .ref po)]) rfl (Nat.le_of_ble_eq_true rfl) ?_
  intro p e s m args below meth c ls Q S hP hK hend hl
  have hx := S.1
  have hb := S.2.1
  have hown : s.vm.findClass RX5 = some m.cls := S.2.2.2.1
  have ht : ∀ w ∈ lw_g, w.before args s = true := fun w h => S.2.2.2.2 w (List.mem_cons_of_mem _ h)
  obtain ⟨kp, kq, pa, hp0, hq0, hu⟩ := id hPL
  refine lv_aload_n hx hb dX5_size_0 rfl (lv_at hl 0 rfl) ?_
  refine va_get (ci := 4) (C := RX5) (T := TX5) (N := 2) hx hb ht iFX5 hown hK hP kp hp0 rfl 1 (by decide) (ht _ kw1_74) (fun _ h9 => h9) rfl dX5_size_1 ?_
  exact hend (rfl) dX5_size_4
theorem dX5_at_0 : decode cX5_at 0 = .ok (.iload_n 1, 1) := by decide +kernel
theorem dX5_at_1 : decode cX5_at 1 = .ok (.ifCond .lt 20, 3) := by decide +kernel
theorem dX5_at_4 : decode cX5_at 4 = .ok (.iload_n 1, 1) := by decide +kernel
theorem dX5_at_5 : decode cX5_at 5 = .ok (.aload_n 0, 1) := by decide +kernel
theorem dX5_at_6 : decode cX5_at 6 = .ok (.getfield 13, 3) := by decide +kernel
theorem dX5_at_9 : decode cX5_at 9 = .ok (.if_icmp .ge 12, 3) := by decide +kernel
theorem dX5_at_12 : decode cX5_at 12 = .ok (.aload_n 0, 1) := by decide +kernel
theorem dX5_at_13 : decode cX5_at 13 = .ok (.getfield 9, 3) := by decide +kernel
theorem dX5_at_16 : decode cX5_at 16 = .ok (.iload_n 1, 1) := by decide +kernel
theorem dX5_at_17 : decode cX5_at 17 = .ok (.iaload, 1) := by decide +kernel
theorem dX5_at_18 : decode cX5_at 18 = .ok (.goto 4, 3) := by decide +kernel
theorem dX5_at_21 : decode cX5_at 21 = .ok (.iconst 0, 1) := by decide +kernel
theorem dX5_at_22 : decode cX5_at 22 = .ok (.ireturn, 1) := by decide +kernel
theorem yv_X5_at : YV RX5 yX5_at cX5_at 2 (some .int) 1 := ⟨kw3_113, kw3_114, kw1_5, kw3_115, by decide +kernel⟩
set_option maxHeartbeats 4000000 in
set_option maxRecDepth 100000 in
theorem c_X5_at {l : Launch} {D : va_G} {cy : Nat → ClassId} {ws : va_W} {po u : Nat} {g : Nat → Int32} (hPL : PLP cy ws po g u) {k : Nat} (hk : k < u) : RO l yX5_at cX5_at 2 (some .int) 0 0 [.ref po, .int (nI k)] D cy ws (.int (g k)) := by
  refine ROi (by decide) (lv0 := [(0, .ref po), (1, .int (nI k))]) rfl (Nat.le_of_ble_eq_true rfl) ?_
  intro p e s m args below meth c ls Q S hP hK hend hl
  have hx := S.1
  have hb := S.2.1
  have hown : s.vm.findClass RX5 = some m.cls := S.2.2.2.1
  have ht : ∀ w ∈ lw_g, w.before args s = true := fun w h => S.2.2.2.2 w (List.mem_cons_of_mem _ h)
  obtain ⟨kp, kq, pa, hp0, hq0, hu⟩ := id hPL
  refine lv_iload_n hx hb dX5_at_0 rfl (lv_at hl 1 rfl) ?_
  refine nv_if_lt (tgt := 21) hx hb dX5_at_1 (by decide) (by omega) ?_
  refine lv_iload_n hx hb dX5_at_4 rfl (lv_at hl 1 rfl) ?_
  refine lv_aload_n hx hb dX5_at_5 rfl (lv_at hl 0 rfl) ?_
  refine va_get (ci := 4) (C := RX5) (T := TX5) (N := 2) hx hb ht iFX5 hown hK hP kp hp0 rfl 1 (by decide) (ht _ kw1_74) (fun _ h9 => h9) rfl dX5_at_6 ?_
  refine nv_icmp_ge (tgt := 21) hx hb dX5_at_9 (by decide) (by omega) (by omega) (fun h9 => ?_) (fun h9 => ?_)
  · skip
    refine nv_iconst (k := 0) hx hb dX5_at_21 rfl ?_
    exact hend ((by omega)) dX5_at_22
  refine lv_aload_n hx hb dX5_at_12 rfl (lv_at hl 0 rfl) ?_
  refine va_get (ci := 4) (C := RX5) (T := TX5) (N := 2) hx hb ht iFX5 hown hK hP kp hp0 rfl 0 (by decide) (ht _ kw1_73) (fun _ h9 => h9) rfl dX5_at_13 ?_
  refine lv_iload_n hx hb dX5_at_16 rfl (lv_at hl 1 rfl) ?_
  refine nv_iald hx hb hK hP kq hq0 (by omega) (by omega) dX5_at_17 ?_
  refine lv_goto (tgt := 22) hx hb dX5_at_18 (by decide) ?_
  exact hend ((rfl)) dX5_at_22
theorem dX5_numberOf_0 : decode cX5_numberOf 0 = .ok (.iconst 0, 1) := by decide +kernel
theorem dX5_numberOf_1 : decode cX5_numberOf 1 = .ok (.istore_n 2, 1) := by decide +kernel
theorem dX5_numberOf_2 : decode cX5_numberOf 2 = .ok (.iload_n 2, 1) := by decide +kernel
theorem dX5_numberOf_3 : decode cX5_numberOf 3 = .ok (.aload_n 0, 1) := by decide +kernel
theorem dX5_numberOf_4 : decode cX5_numberOf 4 = .ok (.getfield 13, 3) := by decide +kernel
theorem dX5_numberOf_7 : decode cX5_numberOf 7 = .ok (.if_icmp .ge 21, 3) := by decide +kernel
theorem dX5_numberOf_10 : decode cX5_numberOf 10 = .ok (.aload_n 0, 1) := by decide +kernel
theorem dX5_numberOf_11 : decode cX5_numberOf 11 = .ok (.getfield 9, 3) := by decide +kernel
theorem dX5_numberOf_14 : decode cX5_numberOf 14 = .ok (.iload_n 2, 1) := by decide +kernel
theorem dX5_numberOf_15 : decode cX5_numberOf 15 = .ok (.iaload, 1) := by decide +kernel
theorem dX5_numberOf_16 : decode cX5_numberOf 16 = .ok (.iload_n 1, 1) := by decide +kernel
theorem dX5_numberOf_17 : decode cX5_numberOf 17 = .ok (.if_icmp .ne 5, 3) := by decide +kernel
theorem dX5_numberOf_20 : decode cX5_numberOf 20 = .ok (.iload_n 2, 1) := by decide +kernel
theorem dX5_numberOf_21 : decode cX5_numberOf 21 = .ok (.ireturn, 1) := by decide +kernel
theorem dX5_numberOf_22 : decode cX5_numberOf 22 = .ok (.iinc 2 1, 3) := by decide +kernel
theorem dX5_numberOf_25 : decode cX5_numberOf 25 = .ok (.goto (-23), 3) := by decide +kernel
theorem dX5_numberOf_28 : decode cX5_numberOf 28 = .ok (.iconst (-1), 1) := by decide +kernel
theorem dX5_numberOf_29 : decode cX5_numberOf 29 = .ok (.ireturn, 1) := by decide +kernel
theorem yv_X5_numberOf : YV RX5 yX5_numberOf cX5_numberOf 3 (some .int) 1 := ⟨kw1_185, kw1_186, kw1_5, kw1_187, by decide +kernel⟩
set_option maxHeartbeats 4000000 in
set_option maxRecDepth 100000 in
theorem c_X5_numberOf {l : Launch} {D : va_G} {cy : Nat → ClassId} {ws : va_W} {po u : Nat} {g : Nat → Int32} (hPL : PLP cy ws po g u) {x : Nat} (hx0 : x < 2 ^ 32) : RO l yX5_numberOf cX5_numberOf 3 (some .int) 0 0 [.ref po, .int (nI x)] D cy ws (.int (tg_num (tg_first (fun k => decide (g k = nI x)) u) u)) := by
  refine ROi (by decide) (lv0 := [(0, .ref po), (1, .int (nI x))]) rfl (Nat.le_of_ble_eq_true rfl) ?_
  intro p e s m args below meth c ls Q S hP hK hend hl
  have hx := S.1
  have hb := S.2.1
  have hown : s.vm.findClass RX5 = some m.cls := S.2.2.2.1
  have ht : ∀ w ∈ lw_g, w.before args s = true := fun w h => S.2.2.2.2 w (List.mem_cons_of_mem _ h)
  obtain ⟨kp, kq, pa, hp0, hq0, hu⟩ := id hPL
  refine nv_iconst (k := 0) hx hb dX5_numberOf_0 rfl ?_
  refine lv_istore_n (lv' := [(2, .int (nI 0)), (0, .ref po), (1, .int (nI x))]) hx hb dX5_numberOf_1 rfl hl (by decide) rfl (fun ls hl => ?_)
  have L2 : ∀ (fu : Nat) (i : Nat), u - i < fu → i ≤ u → (∀ j, j < i → ¬ g j = nI x) → ∀ ls : Array Slot, lv_has ls 3 [(0, .ref po), (1, .int (nI x)), (2, .int (nI i))] → W p l e (rmo 0 0) s m args below meth c s.heap [] 0 0 Q (F0 m 2 ls []) := by
    intro fu
    induction fu with
    | zero => intro i h9; omega
    | succ fu ih =>
      intro i hfu hi hno ls hl
      refine lv_iload_n hx hb dX5_numberOf_2 rfl (lv_at hl 2 rfl) ?_
      refine lv_aload_n hx hb dX5_numberOf_3 rfl (lv_at hl 0 rfl) ?_
      refine va_get (ci := 4) (C := RX5) (T := TX5) (N := 2) hx hb ht iFX5 hown hK hP kp hp0 rfl 1 (by decide) (ht _ kw1_74) (fun _ h9 => h9) rfl dX5_numberOf_4 ?_
      refine nv_icmp_ge (tgt := 28) hx hb dX5_numberOf_7 (by decide) (by omega) (by omega) (fun h7 => ?_) (fun h7 => ?_)
      · skip
        refine lv_iconst (v := -1) hx hb dX5_numberOf_28 (by decide) ?_
        exact hend ((by rw [tg_first_none (fun j hj => by simp [hno j (by omega)]), tg_num, if_neg (by omega)])) dX5_numberOf_29
      refine lv_aload_n hx hb dX5_numberOf_10 rfl (lv_at hl 0 rfl) ?_
      refine va_get (ci := 4) (C := RX5) (T := TX5) (N := 2) hx hb ht iFX5 hown hK hP kp hp0 rfl 0 (by decide) (ht _ kw1_73) (fun _ h9 => h9) rfl dX5_numberOf_11 ?_
      refine lv_iload_n hx hb dX5_numberOf_14 rfl (lv_at hl 2 rfl) ?_
      refine nv_iald hx hb hK hP kq hq0 (by omega) (by omega) dX5_numberOf_15 ?_
      refine lv_iload_n hx hb dX5_numberOf_16 rfl (lv_at hl 1 rfl) ?_
      refine lv_icmp_ne (tgt := 22) hx hb dX5_numberOf_17 (by decide) (fun h17 => ?_) (fun h17 => ?_)
      · skip
        refine lv_iinc (v := (nI (i + 1))) (lv' := [(2, .int (nI (i + 1))), (0, .ref po), (1, .int (nI x))]) hx hb dX5_numberOf_22 hl (k := 2) rfl (nI_inc _ _) (by decide) rfl (fun ls hl => ?_)
        refine lv_goto (tgt := 2) hx hb dX5_numberOf_25 (by decide) ?_
        exact ih (i + 1) (by omega) (by omega) (fun j hj => by rcases Nat.lt_or_ge j i with q | q; exact hno j q; rw [show j = i by omega]; exact h17) ls (lv_sub hl [1, 2, 0] rfl)
      refine lv_iload_n hx hb dX5_numberOf_20 rfl (lv_at hl 2 rfl) ?_
      exact hend ((by rw [tg_first_at (k := i) (by simp [h17]) (fun j hj => by simp [hno j hj]) (by omega), tg_num, if_pos (by omega)])) dX5_numberOf_21
  exact L2 (u + 1) 0 (by omega) (by omega) (fun j hj => absurd hj (by omega)) ls (lv_sub hl [1, 2, 0] rfl)
theorem dX5_has_0 : decode cX5_has 0 = .ok (.aload_n 0, 1) := by decide +kernel
theorem dX5_has_1 : decode cX5_has 1 = .ok (.iload_n 1, 1) := by decide +kernel
theorem dX5_has_2 : decode cX5_has 2 = .ok (.invokevirtual 17, 3) := by decide +kernel
theorem dX5_has_5 : decode cX5_has 5 = .ok (.ifCond .lt 7, 3) := by decide +kernel
theorem dX5_has_8 : decode cX5_has 8 = .ok (.iconst 1, 1) := by decide +kernel
theorem dX5_has_9 : decode cX5_has 9 = .ok (.goto 4, 3) := by decide +kernel
theorem dX5_has_12 : decode cX5_has 12 = .ok (.iconst 0, 1) := by decide +kernel
theorem dX5_has_13 : decode cX5_has 13 = .ok (.ireturn, 1) := by decide +kernel
theorem yv_X5_has : YV RX5 yX5_has cX5_has 2 (some .boolean) 1 := ⟨kw1_181, kw1_182, kw1_5, kw1_183, by decide +kernel⟩
set_option maxHeartbeats 4000000 in
set_option maxRecDepth 100000 in
theorem c_X5_has {l : Launch} {D : va_G} {cy : Nat → ClassId} {ws : va_W} {po u : Nat} {g : Nat → Int32} (hPL : PLP cy ws po g u) {x : Nat} (hx0 : x < 2 ^ 32) : RO l yX5_has cX5_has 2 (some .boolean) 1 22 [.ref po, .int (nI x)] D cy ws (.int (bI (tg_has g u x))) := by
  refine ROz (by decide) (lv0 := [(0, .ref po), (1, .int (nI x))]) rfl (Nat.le_of_ble_eq_true rfl) ?_
  intro p e s m args below meth c ls Q S hP hK hend hl
  have hx := S.1
  have hb := S.2.1
  have hown : s.vm.findClass RX5 = some m.cls := S.2.2.2.1
  have ht : ∀ w ∈ lw_g, w.before args s = true := fun w h => S.2.2.2.2 w (List.mem_cons_of_mem _ h)
  obtain ⟨kp, kq, pa, hp0, hq0, hu⟩ := id hPL
  refine lv_aload_n hx hb dX5_has_0 rfl (lv_at hl 0 rfl) ?_
  refine lv_iload_n hx hb dX5_has_1 rfl (lv_at hl 1 rfl) ?_
  refine ro_V S (c_X5_numberOf hPL (x := x) (by omega)) kw1_184 yv_X5_numberOf ⟨Nat.le_of_ble_eq_true rfl, Nat.le_of_ble_eq_true rfl⟩ hK hP (va_recv hK hP (ci := 4) (q0 := kp) rfl hp0) rfl hl.1 rfl (Nat.le_of_ble_eq_true rfl) dX5_has_2 ⟨Nat.le_refl _, Nat.le_refl _⟩ ?_
  refine lv_if_lt (tgt := 12) hx hb dX5_has_5 (by decide) (fun h5 => ?_) (fun h5 => ?_)
  · skip
    refine nv_iconst (k := 0) hx hb dX5_has_12 rfl ?_
    exact hend ((bI_f (num_f (by omega) (by assumption)))) dX5_has_13
  refine nv_iconst (k := 1) hx hb dX5_has_8 rfl ?_
  refine lv_goto (tgt := 13) hx hb dX5_has_9 (by decide) ?_
  exact hend ((bI_t (num_t (by omega) (by assumption)))) dX5_has_13
