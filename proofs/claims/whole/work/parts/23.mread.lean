theorem dX12_isIn_0 : decode cX12_isIn 0 = .ok (.lload_n 0, 1) := by decide +kernel
theorem dX12_isIn_1 : decode cX12_isIn 1 = .ok (.lload_n 2, 1) := by decide +kernel
theorem dX12_isIn_2 : decode cX12_isIn 2 = .ok (.lcmp, 1) := by decide +kernel
theorem dX12_isIn_3 : decode cX12_isIn 3 = .ok (.ifCond .lt 14, 3) := by decide +kernel
theorem dX12_isIn_6 : decode cX12_isIn 6 = .ok (.lload_n 0, 1) := by decide +kernel
theorem dX12_isIn_7 : decode cX12_isIn 7 = .ok (.lload 4, 2) := by decide +kernel
theorem dX12_isIn_9 : decode cX12_isIn 9 = .ok (.lcmp, 1) := by decide +kernel
theorem dX12_isIn_10 : decode cX12_isIn 10 = .ok (.ifCond .gt 7, 3) := by decide +kernel
theorem dX12_isIn_13 : decode cX12_isIn 13 = .ok (.iconst 1, 1) := by decide +kernel
theorem dX12_isIn_14 : decode cX12_isIn 14 = .ok (.goto 4, 3) := by decide +kernel
theorem dX12_isIn_17 : decode cX12_isIn 17 = .ok (.iconst 0, 1) := by decide +kernel
theorem dX12_isIn_18 : decode cX12_isIn 18 = .ok (.ireturn, 1) := by decide +kernel
theorem yv_X12_isIn : YS yX12_isIn cX12_isIn 6 (some .boolean) 3 := ⟨kw5_15, kw1_10, kw5_16, by decide +kernel⟩
set_option maxHeartbeats 4000000 in
set_option maxRecDepth 100000 in
theorem c_X12_isIn {l : Launch} {D : va_G} {cy : Nat → ClassId} {ws : va_W} {v lo hi : Int64} : RO l yX12_isIn cX12_isIn 6 (some .boolean) 0 0 [.long v, .long lo, .long hi] D cy ws (.int (bI (tg_isIn v lo hi))) := by
  refine ROz (by decide) (lv0 := [(0, .long v), (2, .long lo), (4, .long hi)]) rfl (Nat.le_of_ble_eq_true rfl) ?_
  intro p e s m args below meth c ls Q S hP hK hend hl
  have hx := S.1
  have hb := S.2.1
  have hown : s.vm.findClass RX12 = some m.cls := S.2.2.2.1
  have ht : ∀ w ∈ lw_g, w.before args s = true := fun w h => S.2.2.2.2 w (List.mem_cons_of_mem _ h)
  refine lv_lload_n hx hb dX12_isIn_0 rfl (lv_at hl 0 rfl) ?_
  refine lv_lload_n hx hb dX12_isIn_1 rfl (lv_at hl 1 rfl) ?_
  refine nv_lcmp_lt (tgt := 17) hx hb dX12_isIn_2 dX12_isIn_3 (by decide) (fun h2 => ?_) (fun h2 => ?_)
  · skip
    refine nv_iconst (k := 0) hx hb dX12_isIn_17 rfl ?_
    exact hend ((bI_f (decide_eq_false (fun q => by first | exact Int64.not_lt.mpr q.1 h2 | exact Int64.not_lt.mpr q.2 h9)))) dX12_isIn_18
  refine lv_lload_n hx hb dX12_isIn_6 rfl (lv_at hl 0 rfl) ?_
  refine lv_lload hx hb dX12_isIn_7 (lv_at hl 2 rfl) ?_
  refine nv_lcmp_gt (tgt := 17) hx hb dX12_isIn_9 dX12_isIn_10 (by decide) (fun h9 => ?_) (fun h9 => ?_)
  · skip
    refine nv_iconst (k := 0) hx hb dX12_isIn_17 rfl ?_
    exact hend ((bI_f (decide_eq_false (fun q => by first | exact Int64.not_lt.mpr q.1 h2 | exact Int64.not_lt.mpr q.2 h9)))) dX12_isIn_18
  refine nv_iconst (k := 1) hx hb dX12_isIn_13 rfl ?_
  refine lv_goto (tgt := 18) hx hb dX12_isIn_14 (by decide) ?_
  exact hend ((bI_t (decide_eq_true ⟨Int64.not_lt.mp h2, Int64.not_lt.mp h9⟩))) dX12_isIn_18
theorem dX12_isOdd_0 : decode cX12_isOdd 0 = .ok (.iload_n 0, 1) := by decide +kernel
theorem dX12_isOdd_1 : decode cX12_isOdd 1 = .ok (.bipush 24, 2) := by decide +kernel
theorem dX12_isOdd_3 : decode cX12_isOdd 3 = .ok (.iushr, 1) := by decide +kernel
theorem dX12_isOdd_4 : decode cX12_isOdd 4 = .ok (.istore_n 1, 1) := by decide +kernel
theorem dX12_isOdd_5 : decode cX12_isOdd 5 = .ok (.iload_n 1, 1) := by decide +kernel
theorem dX12_isOdd_6 : decode cX12_isOdd 6 = .ok (.ifCond .eq 16, 3) := by decide +kernel
theorem dX12_isOdd_9 : decode cX12_isOdd 9 = .ok (.iload_n 1, 1) := by decide +kernel
theorem dX12_isOdd_10 : decode cX12_isOdd 10 = .ok (.bipush 127, 2) := by decide +kernel
theorem dX12_isOdd_12 : decode cX12_isOdd 12 = .ok (.if_icmp .eq 10, 3) := by decide +kernel
theorem dX12_isOdd_15 : decode cX12_isOdd 15 = .ok (.iload_n 1, 1) := by decide +kernel
theorem dX12_isOdd_16 : decode cX12_isOdd 16 = .ok (.sipush 224, 3) := by decide +kernel
theorem dX12_isOdd_19 : decode cX12_isOdd 19 = .ok (.if_icmp .lt 7, 3) := by decide +kernel
theorem dX12_isOdd_22 : decode cX12_isOdd 22 = .ok (.iconst 1, 1) := by decide +kernel
theorem dX12_isOdd_23 : decode cX12_isOdd 23 = .ok (.goto 4, 3) := by decide +kernel
theorem dX12_isOdd_26 : decode cX12_isOdd 26 = .ok (.iconst 0, 1) := by decide +kernel
theorem dX12_isOdd_27 : decode cX12_isOdd 27 = .ok (.ireturn, 1) := by decide +kernel
theorem yv_X12_isOdd : YS yX12_isOdd cX12_isOdd 2 (some .boolean) 1 := ⟨kw4_207, kw1_10, kw4_208, by decide +kernel⟩
set_option maxHeartbeats 4000000 in
set_option maxRecDepth 100000 in
theorem c_X12_isOdd {l : Launch} {D : va_G} {cy : Nat → ClassId} {ws : va_W} {x : Nat} (hx0 : x < 2 ^ 32) : RO l yX12_isOdd cX12_isOdd 2 (some .boolean) 0 0 [.int (nI x)] D cy ws (.int (bI (tg_odd x))) := by
  refine ROz (by decide) (lv0 := [(0, .int (nI x))]) rfl (Nat.le_of_ble_eq_true rfl) ?_
  intro p e s m args below meth c ls Q S hP hK hend hl
  have hx := S.1
  have hb := S.2.1
  have hown : s.vm.findClass RX12 = some m.cls := S.2.2.2.1
  have ht : ∀ w ∈ lw_g, w.before args s = true := fun w h => S.2.2.2.2 w (List.mem_cons_of_mem _ h)
  refine lv_iload_n hx hb dX12_isOdd_0 rfl (lv_at hl 0 rfl) ?_
  refine nv_bipush (k := 24) hx hb dX12_isOdd_1 (by decide) ?_
  refine nv_iushr hx hb (by omega) (by omega) dX12_isOdd_3 ?_
  refine lv_istore_n (lv' := [(1, .int (nI ((x) / 2 ^ 24))), (0, .int (nI x))]) hx hb dX12_isOdd_4 rfl hl (by decide) rfl (fun ls hl => ?_)
  refine lv_iload_n hx hb dX12_isOdd_5 rfl (lv_at hl 0 rfl) ?_
  refine nv_if_eq (tgt := 22) hx hb dX12_isOdd_6 (by decide) (by omega) (fun h6 => ?_) (fun h6 => ?_)
  · skip
    refine nv_iconst (k := 1) hx hb dX12_isOdd_22 rfl ?_
    refine lv_goto (tgt := 27) hx hb dX12_isOdd_23 (by decide) ?_
    exact hend ((bI_t (by simp only [tg_odd]; exact decide_eq_true (by omega)))) dX12_isOdd_27
  refine lv_iload_n hx hb dX12_isOdd_9 rfl (lv_at hl 0 rfl) ?_
  refine nv_bipush (k := 127) hx hb dX12_isOdd_10 (by decide) ?_
  refine nv_icmp_eq (tgt := 22) hx hb dX12_isOdd_12 (by decide) (by omega) (by omega) (fun h12 => ?_) (fun h12 => ?_)
  · skip
    refine nv_iconst (k := 1) hx hb dX12_isOdd_22 rfl ?_
    refine lv_goto (tgt := 27) hx hb dX12_isOdd_23 (by decide) ?_
    exact hend ((bI_t (by simp only [tg_odd]; exact decide_eq_true (by omega)))) dX12_isOdd_27
  refine lv_iload_n hx hb dX12_isOdd_15 rfl (lv_at hl 0 rfl) ?_
  refine nv_sipush (k := 224) hx hb dX12_isOdd_16 (by decide) ?_
  refine nv_icmp_lt (tgt := 26) hx hb dX12_isOdd_19 (by decide) (by omega) (by omega) (fun h19 => ?_) (fun h19 => ?_)
  · skip
    refine nv_iconst (k := 0) hx hb dX12_isOdd_26 rfl ?_
    exact hend ((bI_f (by simp only [tg_odd]; exact decide_eq_false (by omega)))) dX12_isOdd_27
  refine nv_iconst (k := 1) hx hb dX12_isOdd_22 rfl ?_
  refine lv_goto (tgt := 27) hx hb dX12_isOdd_23 (by decide) ?_
  exact hend ((bI_t (by simp only [tg_odd]; exact decide_eq_true (by omega)))) dX12_isOdd_27
theorem dX12_byteOf_0 : decode cX12_byteOf 0 = .ok (.iload 4, 2) := by decide +kernel
theorem dX12_byteOf_2 : decode cX12_byteOf 2 = .ok (.bipush 8, 2) := by decide +kernel
theorem dX12_byteOf_4 : decode cX12_byteOf 4 = .ok (.if_icmp .ge 16, 3) := by decide +kernel
theorem dX12_byteOf_7 : decode cX12_byteOf 7 = .ok (.lload_n 0, 1) := by decide +kernel
theorem dX12_byteOf_8 : decode cX12_byteOf 8 = .ok (.bipush 56, 2) := by decide +kernel
theorem dX12_byteOf_10 : decode cX12_byteOf 10 = .ok (.bipush 8, 2) := by decide +kernel
theorem dX12_byteOf_12 : decode cX12_byteOf 12 = .ok (.iload 4, 2) := by decide +kernel
theorem dX12_byteOf_14 : decode cX12_byteOf 14 = .ok (.imul, 1) := by decide +kernel
theorem dX12_byteOf_15 : decode cX12_byteOf 15 = .ok (.isub, 1) := by decide +kernel
theorem dX12_byteOf_16 : decode cX12_byteOf 16 = .ok (.lshr, 1) := by decide +kernel
theorem dX12_byteOf_17 : decode cX12_byteOf 17 = .ok (.goto 13, 3) := by decide +kernel
theorem dX12_byteOf_20 : decode cX12_byteOf 20 = .ok (.lload_n 2, 1) := by decide +kernel
theorem dX12_byteOf_21 : decode cX12_byteOf 21 = .ok (.bipush 120, 2) := by decide +kernel
theorem dX12_byteOf_23 : decode cX12_byteOf 23 = .ok (.bipush 8, 2) := by decide +kernel
theorem dX12_byteOf_25 : decode cX12_byteOf 25 = .ok (.iload 4, 2) := by decide +kernel
theorem dX12_byteOf_27 : decode cX12_byteOf 27 = .ok (.imul, 1) := by decide +kernel
theorem dX12_byteOf_28 : decode cX12_byteOf 28 = .ok (.isub, 1) := by decide +kernel
theorem dX12_byteOf_29 : decode cX12_byteOf 29 = .ok (.lshr, 1) := by decide +kernel
theorem dX12_byteOf_30 : decode cX12_byteOf 30 = .ok (.l2i, 1) := by decide +kernel
theorem dX12_byteOf_31 : decode cX12_byteOf 31 = .ok (.sipush 255, 3) := by decide +kernel
theorem dX12_byteOf_34 : decode cX12_byteOf 34 = .ok (.iand, 1) := by decide +kernel
theorem dX12_byteOf_35 : decode cX12_byteOf 35 = .ok (.ireturn, 1) := by decide +kernel
theorem yv_X12_byteOf : YS yX12_byteOf cX12_byteOf 5 (some .int) 3 := ⟨kw5_2, kw1_10, kw5_3, by decide +kernel⟩
set_option maxHeartbeats 4000000 in
set_option maxRecDepth 100000 in
theorem c_X12_byteOf {l : Launch} {D : va_G} {cy : Nat → ClassId} {ws : va_W} {hi lo i : Nat} (hhi : hi < 2 ^ 64) (hlo : lo < 2 ^ 64) (hi0 : i < 16) : RO l yX12_byteOf cX12_byteOf 5 (some .int) 0 0 [.long (lN (hi)), .long (lN (lo)), .int (nI i)] D cy ws (.int (nI (tg_by hi lo i))) := by
  refine ROi (by decide) (lv0 := [(0, .long (lN (hi))), (2, .long (lN (lo))), (4, .int (nI i))]) rfl (Nat.le_of_ble_eq_true rfl) ?_
  intro p e s m args below meth c ls Q S hP hK hend hl
  have hx := S.1
  have hb := S.2.1
  have hown : s.vm.findClass RX12 = some m.cls := S.2.2.2.1
  have ht : ∀ w ∈ lw_g, w.before args s = true := fun w h => S.2.2.2.2 w (List.mem_cons_of_mem _ h)
  refine lv_iload hx hb dX12_byteOf_0 (lv_at hl 2 rfl) ?_
  refine nv_bipush (k := 8) hx hb dX12_byteOf_2 (by decide) ?_
  refine nv_icmp_ge (tgt := 20) hx hb dX12_byteOf_4 (by decide) (by omega) (by omega) (fun h4 => ?_) (fun h4 => ?_)
  · skip
    refine lv_lload_n hx hb dX12_byteOf_20 rfl (lv_at hl 1 rfl) ?_
    refine nv_bipush (k := 120) hx hb dX12_byteOf_21 (by decide) ?_
    refine nv_bipush (k := 8) hx hb dX12_byteOf_23 (by decide) ?_
    refine lv_iload hx hb dX12_byteOf_25 (lv_at hl 2 rfl) ?_
    refine nv_imul hx hb dX12_byteOf_27 ?_
    refine nv_isub hx hb (by omega) dX12_byteOf_28 ?_
    refine lv_lshr hx hb dX12_byteOf_29 rfl ?_
    refine lv_l2i hx hb dX12_byteOf_30 rfl ?_
    refine nv_sipush (k := 255) hx hb dX12_byteOf_31 (by decide) ?_
    refine lv_iand hx hb dX12_byteOf_34 ?_
    exact hend ((by rw [by8of (by omega) (by omega)]; exact congrArg nI (by simp only [tg_by]; split <;> omega))) dX12_byteOf_35
  refine lv_lload_n hx hb dX12_byteOf_7 rfl (lv_at hl 0 rfl) ?_
  refine nv_bipush (k := 56) hx hb dX12_byteOf_8 (by decide) ?_
  refine nv_bipush (k := 8) hx hb dX12_byteOf_10 (by decide) ?_
  refine lv_iload hx hb dX12_byteOf_12 (lv_at hl 2 rfl) ?_
  refine nv_imul hx hb dX12_byteOf_14 ?_
  refine nv_isub hx hb (by omega) dX12_byteOf_15 ?_
  refine lv_lshr hx hb dX12_byteOf_16 rfl ?_
  refine lv_goto (tgt := 30) hx hb dX12_byteOf_17 (by decide) ?_
  refine lv_l2i hx hb dX12_byteOf_30 rfl ?_
  refine nv_sipush (k := 255) hx hb dX12_byteOf_31 (by decide) ?_
  refine lv_iand hx hb dX12_byteOf_34 ?_
  exact hend ((by rw [by8of (by omega) (by omega)]; exact congrArg nI (by simp only [tg_by]; split <;> omega))) dX12_byteOf_35
theorem dX12_kindOf_0 : decode cX12_kindOf 0 = .ok (.aload_n 0, 1) := by decide +kernel
theorem dX12_kindOf_1 : decode cX12_kindOf 1 = .ok (.iload_n 1, 1) := by decide +kernel
theorem dX12_kindOf_2 : decode cX12_kindOf 2 = .ok (.bipush 13, 2) := by decide +kernel
theorem dX12_kindOf_4 : decode cX12_kindOf 4 = .ok (.iadd, 1) := by decide +kernel
theorem dX12_kindOf_5 : decode cX12_kindOf 5 = .ok (.invokestatic 124, 3) := by decide +kernel
theorem dX12_kindOf_8 : decode cX12_kindOf 8 = .ok (.istore_n 2, 1) := by decide +kernel
theorem dX12_kindOf_9 : decode cX12_kindOf 9 = .ok (.iload_n 2, 1) := by decide +kernel
theorem dX12_kindOf_10 : decode cX12_kindOf 10 = .ok (.iconst 4, 1) := by decide +kernel
theorem dX12_kindOf_11 : decode cX12_kindOf 11 = .ok (.iand, 1) := by decide +kernel
theorem dX12_kindOf_12 : decode cX12_kindOf 12 = .ok (.ifCond .eq 7, 3) := by decide +kernel
theorem dX12_kindOf_15 : decode cX12_kindOf 15 = .ok (.iconst 0, 1) := by decide +kernel
theorem dX12_kindOf_16 : decode cX12_kindOf 16 = .ok (.goto 24, 3) := by decide +kernel
theorem dX12_kindOf_19 : decode cX12_kindOf 19 = .ok (.iload_n 2, 1) := by decide +kernel
theorem dX12_kindOf_20 : decode cX12_kindOf 20 = .ok (.iconst 2, 1) := by decide +kernel
theorem dX12_kindOf_21 : decode cX12_kindOf 21 = .ok (.iand, 1) := by decide +kernel
theorem dX12_kindOf_22 : decode cX12_kindOf 22 = .ok (.ifCond .eq 7, 3) := by decide +kernel
theorem dX12_kindOf_25 : decode cX12_kindOf 25 = .ok (.iconst 1, 1) := by decide +kernel
theorem dX12_kindOf_26 : decode cX12_kindOf 26 = .ok (.goto 14, 3) := by decide +kernel
theorem dX12_kindOf_29 : decode cX12_kindOf 29 = .ok (.iload_n 2, 1) := by decide +kernel
theorem dX12_kindOf_30 : decode cX12_kindOf 30 = .ok (.iconst 1, 1) := by decide +kernel
theorem dX12_kindOf_31 : decode cX12_kindOf 31 = .ok (.iand, 1) := by decide +kernel
theorem dX12_kindOf_32 : decode cX12_kindOf 32 = .ok (.ifCond .eq 7, 3) := by decide +kernel
theorem dX12_kindOf_35 : decode cX12_kindOf 35 = .ok (.iconst 2, 1) := by decide +kernel
theorem dX12_kindOf_36 : decode cX12_kindOf 36 = .ok (.goto 4, 3) := by decide +kernel
theorem dX12_kindOf_39 : decode cX12_kindOf 39 = .ok (.iconst 3, 1) := by decide +kernel
theorem dX12_kindOf_40 : decode cX12_kindOf 40 = .ok (.ireturn, 1) := by decide +kernel
theorem yv_X12_kindOf : YS yX12_kindOf cX12_kindOf 3 (some .int) 2 := ⟨kw5_80, kw1_10, kw5_81, by decide +kernel⟩
set_option maxHeartbeats 4000000 in
set_option maxRecDepth 100000 in
theorem c_X12_kindOf {l : Launch} {D : va_G} {cy : Nat → ClassId} {ws : va_W} {ro n : Nat} {f : Nat → UInt8} (hR : AR cy ws ro f n) {hd : Nat} (hi : hd + 13 < n) : RO l yX12_kindOf cX12_kindOf 3 (some .int) 1 21 [.ref ro, .int (nI hd)] D cy ws (.int (nI (3 - tg_event (tg_rd f n) hd 6))) := by
  refine ROi (by decide) (lv0 := [(0, .ref ro), (1, .int (nI hd))]) rfl (Nat.le_of_ble_eq_true rfl) ?_
  intro p e s m args below meth c ls Q S hP hK hend hl
  have hx := S.1
  have hb := S.2.1
  have hown : s.vm.findClass RX12 = some m.cls := S.2.2.2.1
  have ht : ∀ w ∈ lw_g, w.before args s = true := fun w h => S.2.2.2.2 w (List.mem_cons_of_mem _ h)
  obtain ⟨kr, N, hr0, hnN, hN⟩ := id hR
  refine lv_aload_n hx hb dX12_kindOf_0 rfl (lv_at hl 0 rfl) ?_
  refine lv_iload_n hx hb dX12_kindOf_1 rfl (lv_at hl 1 rfl) ?_
  refine nv_bipush (k := 13) hx hb dX12_kindOf_2 (by decide) ?_
  refine nv_iadd hx hb dX12_kindOf_4 ?_
  refine ro_S S (c_X12_at hR (i := hd + 13) (by omega)) kw5_41 yv_X12_at ⟨Nat.le_of_ble_eq_true rfl, Nat.le_of_ble_eq_true rfl⟩ hK hP rfl hl.1 rfl (Nat.le_of_ble_eq_true rfl) dX12_kindOf_5 ⟨Nat.zero_le _, Nat.zero_le _⟩ ?_
  have hq5 := tg_rd_lt f n (hd + 13)
  refine lv_istore_n (lv' := [(2, .int (nI (tg_rd f n (hd + 13)))), (0, .ref ro), (1, .int (nI hd))]) hx hb dX12_kindOf_8 rfl hl (by decide) rfl (fun ls hl => ?_)
  refine lv_iload_n hx hb dX12_kindOf_9 rfl (lv_at hl 0 rfl) ?_
  refine nv_iconst (k := 4) hx hb dX12_kindOf_10 rfl ?_
  refine nv_iandN hx hb dX12_kindOf_11 ?_
  have hq11 : (tg_rd f n (hd + 13)) &&& (4) ≤ (4) := Nat.and_le_right
  refine nv_if_eq (tgt := 19) hx hb dX12_kindOf_12 (by decide) (by omega) (fun h12 => ?_) (fun h12 => ?_)
  · skip
    refine lv_iload_n hx hb dX12_kindOf_19 rfl (lv_at hl 0 rfl) ?_
    refine nv_iconst (k := 2) hx hb dX12_kindOf_20 rfl ?_
    refine nv_iandN hx hb dX12_kindOf_21 ?_
    have hq21 : (tg_rd f n (hd + 13)) &&& (2) ≤ (2) := Nat.and_le_right
    refine nv_if_eq (tgt := 29) hx hb dX12_kindOf_22 (by decide) (by omega) (fun h22 => ?_) (fun h22 => ?_)
    · skip
      refine lv_iload_n hx hb dX12_kindOf_29 rfl (lv_at hl 0 rfl) ?_
      refine nv_iconst (k := 1) hx hb dX12_kindOf_30 rfl ?_
      refine nv_iand 1 hx hb (by omega) (by decide) dX12_kindOf_31 ?_
      refine nv_if_eq (tgt := 39) hx hb dX12_kindOf_32 (by decide) (by omega) (fun h32 => ?_) (fun h32 => ?_)
      · skip
        refine nv_iconst (k := 3) hx hb dX12_kindOf_39 rfl ?_
        exact hend ((congrArg nI (by simp only [tg_event]; (repeat' split) <;> omega))) dX12_kindOf_40
      refine nv_iconst (k := 2) hx hb dX12_kindOf_35 rfl ?_
      refine lv_goto (tgt := 40) hx hb dX12_kindOf_36 (by decide) ?_
      exact hend ((congrArg nI (by simp only [tg_event]; (repeat' split) <;> omega))) dX12_kindOf_40
    refine nv_iconst (k := 1) hx hb dX12_kindOf_25 rfl ?_
    refine lv_goto (tgt := 40) hx hb dX12_kindOf_26 (by decide) ?_
    exact hend ((congrArg nI (by simp only [tg_event]; (repeat' split) <;> omega))) dX12_kindOf_40
  refine nv_iconst (k := 0) hx hb dX12_kindOf_15 rfl ?_
  refine lv_goto (tgt := 40) hx hb dX12_kindOf_16 (by decide) ?_
  exact hend ((congrArg nI (by simp only [tg_event]; (repeat' split) <;> omega))) dX12_kindOf_40
theorem dX12_placeOf_0 : decode cX12_placeOf 0 = .ok (.aload_n 0, 1) := by decide +kernel
theorem dX12_placeOf_1 : decode cX12_placeOf 1 = .ok (.getfield 64, 3) := by decide +kernel
theorem dX12_placeOf_4 : decode cX12_placeOf 4 = .ok (.bipush 8, 2) := by decide +kernel
theorem dX12_placeOf_6 : decode cX12_placeOf 6 = .ok (.idiv, 1) := by decide +kernel
theorem dX12_placeOf_7 : decode cX12_placeOf 7 = .ok (.iload_n 1, 1) := by decide +kernel
theorem dX12_placeOf_8 : decode cX12_placeOf 8 = .ok (.iadd, 1) := by decide +kernel
theorem dX12_placeOf_9 : decode cX12_placeOf 9 = .ok (.istore_n 2, 1) := by decide +kernel
theorem dX12_placeOf_10 : decode cX12_placeOf 10 = .ok (.aload_n 0, 1) := by decide +kernel
theorem dX12_placeOf_11 : decode cX12_placeOf 11 = .ok (.getfield 64, 3) := by decide +kernel
theorem dX12_placeOf_14 : decode cX12_placeOf 14 = .ok (.bipush 96, 2) := by decide +kernel
theorem dX12_placeOf_16 : decode cX12_placeOf 16 = .ok (.if_icmp .ge 15, 3) := by decide +kernel
theorem dX12_placeOf_19 : decode cX12_placeOf 19 = .ok (.iload_n 2, 1) := by decide +kernel
theorem dX12_placeOf_20 : decode cX12_placeOf 20 = .ok (.bipush 8, 2) := by decide +kernel
theorem dX12_placeOf_22 : decode cX12_placeOf 22 = .ok (.if_icmp .lt 9, 3) := by decide +kernel
theorem dX12_placeOf_25 : decode cX12_placeOf 25 = .ok (.iload_n 2, 1) := by decide +kernel
theorem dX12_placeOf_26 : decode cX12_placeOf 26 = .ok (.iconst 1, 1) := by decide +kernel
theorem dX12_placeOf_27 : decode cX12_placeOf 27 = .ok (.iadd, 1) := by decide +kernel
theorem dX12_placeOf_28 : decode cX12_placeOf 28 = .ok (.goto 4, 3) := by decide +kernel
theorem dX12_placeOf_31 : decode cX12_placeOf 31 = .ok (.iload_n 2, 1) := by decide +kernel
theorem dX12_placeOf_32 : decode cX12_placeOf 32 = .ok (.ireturn, 1) := by decide +kernel
theorem yv_X12_placeOf : YV RX12 yX12_placeOf cX12_placeOf 3 (some .int) 1 := ⟨kw4_219, kws_20, kw1_10, kw4_220, by decide +kernel⟩
set_option maxHeartbeats 4000000 in
set_option maxRecDepth 100000 in
theorem c_X12_placeOf {l : Launch} {D : va_G} {cy : Nat → ClassId} {ws : va_W} {km mo : Nat} {fs : List Value} (hm0 : ws[km]? = some (mo, .inr (9, fs))) {bits : Nat} (hf_bits : fs[6]? = some (.int (nI bits))) {i : Nat} (hi : i < 4) (hbits : bits ≤ 96) : RO l yX12_placeOf cX12_placeOf 3 (some .int) 0 0 [.ref mo, .int (nI i)] D cy ws (.int (nI (tg_pl bits i))) := by
  refine ROi (by decide) (lv0 := [(0, .ref mo), (1, .int (nI i))]) rfl (Nat.le_of_ble_eq_true rfl) ?_
  intro p e s m args below meth c ls Q S hP hK hend hl
  have hx := S.1
  have hb := S.2.1
  have hown : s.vm.findClass RX12 = some m.cls := S.2.2.2.1
  have ht : ∀ w ∈ lw_g, w.before args s = true := fun w h => S.2.2.2.2 w (List.mem_cons_of_mem _ h)
  refine lv_aload_n hx hb dX12_placeOf_0 rfl (lv_at hl 0 rfl) ?_
  refine va_get (ci := 9) (C := RX12) (T := TX12) (N := 28) hx hb ht iFX12 hown hK hP km hm0 rfl 6 (by decide) (ht _ kw4_116) (fun _ h9 => h9) hf_bits dX12_placeOf_1 ?_
  refine nv_bipush (k := 8) hx hb dX12_placeOf_4 (by decide) ?_
  refine nv_idiv hx hb (by omega) (by omega) (by omega) dX12_placeOf_6 ?_
  refine lv_iload_n hx hb dX12_placeOf_7 rfl (lv_at hl 1 rfl) ?_
  refine nv_iadd hx hb dX12_placeOf_8 ?_
  refine lv_istore_n (lv' := [(2, .int (nI ((bits / 8) + i))), (0, .ref mo), (1, .int (nI i))]) hx hb dX12_placeOf_9 rfl hl (by decide) rfl (fun ls hl => ?_)
  refine lv_aload_n hx hb dX12_placeOf_10 rfl (lv_at hl 1 rfl) ?_
  refine va_get (ci := 9) (C := RX12) (T := TX12) (N := 28) hx hb ht iFX12 hown hK hP km hm0 rfl 6 (by decide) (ht _ kw4_116) (fun _ h9 => h9) hf_bits dX12_placeOf_11 ?_
  refine nv_bipush (k := 96) hx hb dX12_placeOf_14 (by decide) ?_
  refine nv_icmp_ge (tgt := 31) hx hb dX12_placeOf_16 (by decide) (by omega) (by omega) (fun h16 => ?_) (fun h16 => ?_)
  · skip
    refine lv_iload_n hx hb dX12_placeOf_31 rfl (lv_at hl 0 rfl) ?_
    exact hend ((congrArg nI (by simp only [tg_pl]; (repeat' split) <;> omega))) dX12_placeOf_32
  refine lv_iload_n hx hb dX12_placeOf_19 rfl (lv_at hl 0 rfl) ?_
  refine nv_bipush (k := 8) hx hb dX12_placeOf_20 (by decide) ?_
  refine nv_icmp_lt (tgt := 31) hx hb dX12_placeOf_22 (by decide) (by omega) (by omega) (fun h22 => ?_) (fun h22 => ?_)
  · skip
    refine lv_iload_n hx hb dX12_placeOf_31 rfl (lv_at hl 0 rfl) ?_
    exact hend ((congrArg nI (by simp only [tg_pl]; (repeat' split) <;> omega))) dX12_placeOf_32
  refine lv_iload_n hx hb dX12_placeOf_25 rfl (lv_at hl 0 rfl) ?_
  refine nv_iconst (k := 1) hx hb dX12_placeOf_26 rfl ?_
  refine nv_iadd hx hb dX12_placeOf_27 ?_
  refine lv_goto (tgt := 32) hx hb dX12_placeOf_28 (by decide) ?_
  exact hend ((congrArg nI (by simp only [tg_pl]; (repeat' split) <;> omega))) dX12_placeOf_32
theorem dX12_poolOf_0 : decode cX12_poolOf 0 = .ok (.iconst 0, 1) := by decide +kernel
theorem dX12_poolOf_1 : decode cX12_poolOf 1 = .ok (.istore_n 2, 1) := by decide +kernel
theorem dX12_poolOf_2 : decode cX12_poolOf 2 = .ok (.iload_n 2, 1) := by decide +kernel
theorem dX12_poolOf_3 : decode cX12_poolOf 3 = .ok (.aload_n 0, 1) := by decide +kernel
theorem dX12_poolOf_4 : decode cX12_poolOf 4 = .ok (.getfield 86, 3) := by decide +kernel
theorem dX12_poolOf_7 : decode cX12_poolOf 7 = .ok (.if_icmp .ge 21, 3) := by decide +kernel
theorem dX12_poolOf_10 : decode cX12_poolOf 10 = .ok (.aload_n 0, 1) := by decide +kernel
theorem dX12_poolOf_11 : decode cX12_poolOf 11 = .ok (.getfield 19, 3) := by decide +kernel
theorem dX12_poolOf_14 : decode cX12_poolOf 14 = .ok (.iload_n 2, 1) := by decide +kernel
theorem dX12_poolOf_15 : decode cX12_poolOf 15 = .ok (.iaload, 1) := by decide +kernel
theorem dX12_poolOf_16 : decode cX12_poolOf 16 = .ok (.iload_n 1, 1) := by decide +kernel
theorem dX12_poolOf_17 : decode cX12_poolOf 17 = .ok (.if_icmp .ne 5, 3) := by decide +kernel
theorem dX12_poolOf_20 : decode cX12_poolOf 20 = .ok (.iload_n 2, 1) := by decide +kernel
theorem dX12_poolOf_21 : decode cX12_poolOf 21 = .ok (.ireturn, 1) := by decide +kernel
theorem dX12_poolOf_22 : decode cX12_poolOf 22 = .ok (.iinc 2 1, 3) := by decide +kernel
theorem dX12_poolOf_25 : decode cX12_poolOf 25 = .ok (.goto (-23), 3) := by decide +kernel
theorem dX12_poolOf_28 : decode cX12_poolOf 28 = .ok (.iconst (-1), 1) := by decide +kernel
theorem dX12_poolOf_29 : decode cX12_poolOf 29 = .ok (.ireturn, 1) := by decide +kernel
theorem yv_X12_poolOf : YV RX12 yX12_poolOf cX12_poolOf 3 (some .int) 1 := ⟨kw4_211, kws_19, kw1_10, kw4_212, by decide +kernel⟩
set_option maxHeartbeats 4000000 in
set_option maxRecDepth 100000 in
theorem c_X12_poolOf {l : Launch} {D : va_G} {cy : Nat → ClassId} {ws : va_W} {km mo : Nat} {fs : List Value} (hm0 : ws[km]? = some (mo, .inr (9, fs))) {u : Nat} {pa : Nat} (hf_pools : fs[9]? = some (.int (nI u))) (hf_pool : fs[10]? = some (.ref pa)) {kq : Nat} {g : Nat → Int32} (hq0 : ws[kq]? = some (pa, .inl (cy 1, 4, .inl g))) (hu : u ≤ 4) {x : Nat} (hx0 : x < 2 ^ 32) : RO l yX12_poolOf cX12_poolOf 3 (some .int) 0 0 [.ref mo, .int (nI x)] D cy ws (.int (tg_num (tg_first (fun k => decide (g k = nI x)) u) u)) := by
  refine ROi (by decide) (lv0 := [(0, .ref mo), (1, .int (nI x))]) rfl (Nat.le_of_ble_eq_true rfl) ?_
  intro p e s m args below meth c ls Q S hP hK hend hl
  have hx := S.1
  have hb := S.2.1
  have hown : s.vm.findClass RX12 = some m.cls := S.2.2.2.1
  have ht : ∀ w ∈ lw_g, w.before args s = true := fun w h => S.2.2.2.2 w (List.mem_cons_of_mem _ h)
  refine nv_iconst (k := 0) hx hb dX12_poolOf_0 rfl ?_
  refine lv_istore_n (lv' := [(2, .int (nI 0)), (0, .ref mo), (1, .int (nI x))]) hx hb dX12_poolOf_1 rfl hl (by decide) rfl (fun ls hl => ?_)
  have L2 : ∀ (fu : Nat) (i : Nat), u - i < fu → i ≤ u → (∀ j, j < i → ¬ g j = nI x) → ∀ ls : Array Slot, lv_has ls 3 [(0, .ref mo), (1, .int (nI x)), (2, .int (nI i))] → W p l e (rmo 0 0) s m args below meth c s.heap [] 0 0 Q (F0 m 2 ls []) := by
    intro fu
    induction fu with
    | zero => intro i h9; omega
    | succ fu ih =>
      intro i hfu hi hno ls hl
      refine lv_iload_n hx hb dX12_poolOf_2 rfl (lv_at hl 2 rfl) ?_
      refine lv_aload_n hx hb dX12_poolOf_3 rfl (lv_at hl 0 rfl) ?_
      refine va_get (ci := 9) (C := RX12) (T := TX12) (N := 28) hx hb ht iFX12 hown hK hP km hm0 rfl 9 (by decide) (ht _ kw4_119) (fun _ h9 => h9) hf_pools dX12_poolOf_4 ?_
      refine nv_icmp_ge (tgt := 28) hx hb dX12_poolOf_7 (by decide) (by omega) (by omega) (fun h7 => ?_) (fun h7 => ?_)
      · skip
        refine lv_iconst (v := -1) hx hb dX12_poolOf_28 (by decide) ?_
        exact hend ((by rw [tg_first_none (fun j hj => by simp [hno j (by omega)]), tg_num, if_neg (by omega)])) dX12_poolOf_29
      refine lv_aload_n hx hb dX12_poolOf_10 rfl (lv_at hl 0 rfl) ?_
      refine va_get (ci := 9) (C := RX12) (T := TX12) (N := 28) hx hb ht iFX12 hown hK hP km hm0 rfl 10 (by decide) (ht _ kw4_120) (fun _ h9 => h9) hf_pool dX12_poolOf_11 ?_
      refine lv_iload_n hx hb dX12_poolOf_14 rfl (lv_at hl 2 rfl) ?_
      refine nv_iald hx hb hK hP kq hq0 (by omega) (by omega) dX12_poolOf_15 ?_
      refine lv_iload_n hx hb dX12_poolOf_16 rfl (lv_at hl 1 rfl) ?_
      refine lv_icmp_ne (tgt := 22) hx hb dX12_poolOf_17 (by decide) (fun h17 => ?_) (fun h17 => ?_)
      · skip
        refine lv_iinc (v := (nI (i + 1))) (lv' := [(2, .int (nI (i + 1))), (0, .ref mo), (1, .int (nI x))]) hx hb dX12_poolOf_22 hl (k := 2) rfl (nI_inc _ _) (by decide) rfl (fun ls hl => ?_)
        refine lv_goto (tgt := 2) hx hb dX12_poolOf_25 (by decide) ?_
        exact ih (i + 1) (by omega) (by omega) (fun j hj => by rcases Nat.lt_or_ge j i with q | q; exact hno j q; rw [show j = i by omega]; exact h17) ls (lv_sub hl [1, 2, 0] rfl)
      refine lv_iload_n hx hb dX12_poolOf_20 rfl (lv_at hl 2 rfl) ?_
      exact hend ((by rw [tg_first_at (k := i) (by simp [h17]) (fun j hj => by simp [hno j hj]) (by omega), tg_num, if_pos (by omega)])) dX12_poolOf_21
  exact L2 (u + 1) 0 (by omega) (by omega) (fun j hj => absurd hj (by omega)) ls (lv_sub hl [1, 2, 0] rfl)
theorem dX12_isRight_0 : decode cX12_isRight 0 = .ok (.iload_n 1, 1) := by decide +kernel
theorem dX12_isRight_1 : decode cX12_isRight 1 = .ok (.iload_n 2, 1) := by decide +kernel
theorem dX12_isRight_2 : decode cX12_isRight 2 = .ok (.invokestatic 145, 3) := by decide +kernel
theorem dX12_isRight_5 : decode cX12_isRight 5 = .ok (.iadd, 1) := by decide +kernel
theorem dX12_isRight_6 : decode cX12_isRight 6 = .ok (.istore_n 3, 1) := by decide +kernel
theorem dX12_isRight_7 : decode cX12_isRight 7 = .ok (.aload_n 0, 1) := by decide +kernel
theorem dX12_isRight_8 : decode cX12_isRight 8 = .ok (.getfield 16, 3) := by decide +kernel
theorem dX12_isRight_11 : decode cX12_isRight 11 = .ok (.iload_n 3, 1) := by decide +kernel
theorem dX12_isRight_12 : decode cX12_isRight 12 = .ok (.invokestatic 128, 3) := by decide +kernel
theorem dX12_isRight_15 : decode cX12_isRight 15 = .ok (.aload_n 0, 1) := by decide +kernel
theorem dX12_isRight_16 : decode cX12_isRight 16 = .ok (.getfield 16, 3) := by decide +kernel
theorem dX12_isRight_19 : decode cX12_isRight 19 = .ok (.iload_n 1, 1) := by decide +kernel
theorem dX12_isRight_20 : decode cX12_isRight 20 = .ok (.aload_n 0, 1) := by decide +kernel
theorem dX12_isRight_21 : decode cX12_isRight 21 = .ok (.getfield 121, 3) := by decide +kernel
theorem dX12_isRight_24 : decode cX12_isRight 24 = .ok (.iload_n 3, 1) := by decide +kernel
theorem dX12_isRight_25 : decode cX12_isRight 25 = .ok (.iload_n 2, 1) := by decide +kernel
theorem dX12_isRight_26 : decode cX12_isRight 26 = .ok (.invokestatic 148, 3) := by decide +kernel
theorem dX12_isRight_29 : decode cX12_isRight 29 = .ok (.if_icmp .ne 7, 3) := by decide +kernel
theorem dX12_isRight_32 : decode cX12_isRight 32 = .ok (.iconst 1, 1) := by decide +kernel
theorem dX12_isRight_33 : decode cX12_isRight 33 = .ok (.goto 4, 3) := by decide +kernel
theorem dX12_isRight_36 : decode cX12_isRight 36 = .ok (.iconst 0, 1) := by decide +kernel
theorem dX12_isRight_37 : decode cX12_isRight 37 = .ok (.ireturn, 1) := by decide +kernel
theorem yv_X12_isRight : YV RX12 yX12_isRight cX12_isRight 4 (some .boolean) 2 := ⟨kw5_53, kws_29, kw1_10, kw5_54, by decide +kernel⟩
set_option maxHeartbeats 4000000 in
set_option maxRecDepth 100000 in
theorem c_X12_isRight {l : Launch} {D : va_G} {cy : Nat → ClassId} {ws : va_W} {n : Nat} {f : Nat → UInt8} {km mo : Nat} {fs : List Value} (hm0 : ws[km]? = some (mo, .inr (9, fs))) {ai : Nat}  (hf_in : fs[4]? = some (.ref ai)) (hf_size : fs[5]? = some (.int (nI n))) (hR : AR cy ws ai f n) {hd q : Nat} (hh : hd = 20 ∨ hd = 40) (hz : hd + tg_sumAt q + 1 < n) (hq : q < 256) : RO l yX12_isRight cX12_isRight 4 (some .boolean) 4 96 [.ref mo, .int (nI hd), .int (nI q)] D cy ws (.int (bI (decide (tg_pr (tg_rd f n) (hd + tg_sumAt q) = tg_sum (tg_rd f n) hd n (hd + tg_sumAt q) q)))) := by
  refine ROz (by decide) (lv0 := [(0, .ref mo), (1, .int (nI hd)), (2, .int (nI q))]) rfl (Nat.le_of_ble_eq_true rfl) ?_
  intro p e s m args below meth c ls Q S hP hK hend hl
  have hx := S.1
  have hb := S.2.1
  have hown : s.vm.findClass RX12 = some m.cls := S.2.2.2.1
  have ht : ∀ w ∈ lw_g, w.before args s = true := fun w h => S.2.2.2.2 w (List.mem_cons_of_mem _ h)
  obtain ⟨kr, N, hr0, hnN, hN⟩ := id hR
  refine lv_iload_n hx hb dX12_isRight_0 rfl (lv_at hl 1 rfl) ?_
  refine lv_iload_n hx hb dX12_isRight_1 rfl (lv_at hl 2 rfl) ?_
  refine ro_S S (c_X12_placeOfSum (q := q) (by omega)) kw5_55 yv_X12_placeOfSum ⟨Nat.le_of_ble_eq_true rfl, Nat.le_of_ble_eq_true rfl⟩ hK hP rfl hl.1 rfl (Nat.le_of_ble_eq_true rfl) dX12_isRight_2 ⟨Nat.zero_le _, Nat.zero_le _⟩ ?_
  have hq2 := tg_sumAt_le q
  refine nv_iadd hx hb dX12_isRight_5 ?_
  refine lv_istore_n (lv' := [(3, .int (nI (hd + (tg_sumAt q)))), (0, .ref mo), (1, .int (nI hd)), (2, .int (nI q))]) hx hb dX12_isRight_6 rfl hl (by decide) rfl (fun ls hl => ?_)
  refine lv_aload_n hx hb dX12_isRight_7 rfl (lv_at hl 1 rfl) ?_
  refine va_get (ci := 9) (C := RX12) (T := TX12) (N := 28) hx hb ht iFX12 hown hK hP km hm0 rfl 4 (by decide) (ht _ kw4_114) (fun _ h9 => h9) hf_in dX12_isRight_8 ?_
  refine lv_iload_n hx hb dX12_isRight_11 rfl (lv_at hl 0 rfl) ?_
  refine ro_S S (c_X12_two hR (i := hd + (tg_sumAt q)) (by omega)) kw5_44 yv_X12_two ⟨Nat.le_of_ble_eq_true rfl, Nat.le_of_ble_eq_true rfl⟩ hK hP rfl hl.1 rfl (Nat.le_of_ble_eq_true rfl) dX12_isRight_12 ⟨Nat.zero_le _, Nat.zero_le _⟩ ?_
  have hq12 := tg_pr_lt f n (hd + (tg_sumAt q))
  refine lv_aload_n hx hb dX12_isRight_15 rfl (lv_at hl 1 rfl) ?_
  refine va_get (ci := 9) (C := RX12) (T := TX12) (N := 28) hx hb ht iFX12 hown hK hP km hm0 rfl 4 (by decide) (ht _ kw4_114) (fun _ h9 => h9) hf_in dX12_isRight_16 ?_
  refine lv_iload_n hx hb dX12_isRight_19 rfl (lv_at hl 2 rfl) ?_
  refine lv_aload_n hx hb dX12_isRight_20 rfl (lv_at hl 1 rfl) ?_
  refine va_get (ci := 9) (C := RX12) (T := TX12) (N := 28) hx hb ht iFX12 hown hK hP km hm0 rfl 5 (by decide) (ht _ kw4_115) (fun _ h9 => h9) hf_size dX12_isRight_21 ?_
  refine lv_iload_n hx hb dX12_isRight_24 rfl (lv_at hl 0 rfl) ?_
  refine lv_iload_n hx hb dX12_isRight_25 rfl (lv_at hl 3 rfl) ?_
  refine ro_S S (c_X12_sumOf hR (hd := hd) (z := n) (w := hd + (tg_sumAt q)) (q := q) (by omega) (by omega) (by omega) (by omega) (by omega)) kw5_58 yv_X12_sumOf ⟨Nat.le_of_ble_eq_true rfl, Nat.le_of_ble_eq_true rfl⟩ hK hP rfl hl.1 rfl (Nat.le_of_ble_eq_true rfl) dX12_isRight_26 ⟨Nat.zero_le _, Nat.zero_le _⟩ ?_
  have hq26 := tg_sum_le (tg_rd f n) hd n (hd + (tg_sumAt q)) q
  refine nv_icmp_ne (tgt := 36) hx hb dX12_isRight_29 (by decide) (by omega) (by omega) (fun h29 => ?_) (fun h29 => ?_)
  · skip
    refine nv_iconst (k := 0) hx hb dX12_isRight_36 rfl ?_
    exact hend ((bI_f (decide_eq_false (by omega)))) dX12_isRight_37
  refine nv_iconst (k := 1) hx hb dX12_isRight_32 rfl ?_
  refine lv_goto (tgt := 37) hx hb dX12_isRight_33 (by decide) ?_
  exact hend ((bI_t (decide_eq_true (by omega)))) dX12_isRight_37
theorem dX12_isBadPart_0 : decode cX12_isBadPart 0 = .ok (.aload_n 0, 1) := by decide +kernel
theorem dX12_isBadPart_1 : decode cX12_isBadPart 1 = .ok (.getfield 121, 3) := by decide +kernel
theorem dX12_isBadPart_4 : decode cX12_isBadPart 4 = .ok (.iload_n 1, 1) := by decide +kernel
theorem dX12_isBadPart_5 : decode cX12_isBadPart 5 = .ok (.isub, 1) := by decide +kernel
theorem dX12_isBadPart_6 : decode cX12_isBadPart 6 = .ok (.istore_n 3, 1) := by decide +kernel
theorem dX12_isBadPart_7 : decode cX12_isBadPart 7 = .ok (.iload_n 2, 1) := by decide +kernel
theorem dX12_isBadPart_8 : decode cX12_isBadPart 8 = .ok (.bipush 6, 2) := by decide +kernel
theorem dX12_isBadPart_10 : decode cX12_isBadPart 10 = .ok (.if_icmp .ne 51, 3) := by decide +kernel
theorem dX12_isBadPart_13 : decode cX12_isBadPart 13 = .ok (.iload_n 3, 1) := by decide +kernel
theorem dX12_isBadPart_14 : decode cX12_isBadPart 14 = .ok (.bipush 20, 2) := by decide +kernel
theorem dX12_isBadPart_16 : decode cX12_isBadPart 16 = .ok (.if_icmp .lt 39, 3) := by decide +kernel
theorem dX12_isBadPart_19 : decode cX12_isBadPart 19 = .ok (.aload_n 0, 1) := by decide +kernel
theorem dX12_isBadPart_20 : decode cX12_isBadPart 20 = .ok (.getfield 16, 3) := by decide +kernel
theorem dX12_isBadPart_23 : decode cX12_isBadPart 23 = .ok (.iload_n 1, 1) := by decide +kernel
theorem dX12_isBadPart_24 : decode cX12_isBadPart 24 = .ok (.bipush 12, 2) := by decide +kernel
theorem dX12_isBadPart_26 : decode cX12_isBadPart 26 = .ok (.iadd, 1) := by decide +kernel
theorem dX12_isBadPart_27 : decode cX12_isBadPart 27 = .ok (.invokestatic 124, 3) := by decide +kernel
theorem dX12_isBadPart_30 : decode cX12_isBadPart 30 = .ok (.iconst 4, 1) := by decide +kernel
theorem dX12_isBadPart_31 : decode cX12_isBadPart 31 = .ok (.ishr, 1) := by decide +kernel
theorem dX12_isBadPart_32 : decode cX12_isBadPart 32 = .ok (.iconst 5, 1) := by decide +kernel
theorem dX12_isBadPart_33 : decode cX12_isBadPart 33 = .ok (.if_icmp .lt 22, 3) := by decide +kernel
theorem dX12_isBadPart_36 : decode cX12_isBadPart 36 = .ok (.aload_n 0, 1) := by decide +kernel
theorem dX12_isBadPart_37 : decode cX12_isBadPart 37 = .ok (.getfield 16, 3) := by decide +kernel
theorem dX12_isBadPart_40 : decode cX12_isBadPart 40 = .ok (.iload_n 1, 1) := by decide +kernel
theorem dX12_isBadPart_41 : decode cX12_isBadPart 41 = .ok (.bipush 12, 2) := by decide +kernel
theorem dX12_isBadPart_43 : decode cX12_isBadPart 43 = .ok (.iadd, 1) := by decide +kernel
theorem dX12_isBadPart_44 : decode cX12_isBadPart 44 = .ok (.invokestatic 124, 3) := by decide +kernel
theorem dX12_isBadPart_47 : decode cX12_isBadPart 47 = .ok (.iconst 4, 1) := by decide +kernel
theorem dX12_isBadPart_48 : decode cX12_isBadPart 48 = .ok (.ishr, 1) := by decide +kernel
theorem dX12_isBadPart_49 : decode cX12_isBadPart 49 = .ok (.iconst 4, 1) := by decide +kernel
theorem dX12_isBadPart_50 : decode cX12_isBadPart 50 = .ok (.imul, 1) := by decide +kernel
theorem dX12_isBadPart_51 : decode cX12_isBadPart 51 = .ok (.iload_n 3, 1) := by decide +kernel
theorem dX12_isBadPart_52 : decode cX12_isBadPart 52 = .ok (.if_icmp .le 7, 3) := by decide +kernel
theorem dX12_isBadPart_55 : decode cX12_isBadPart 55 = .ok (.iconst 1, 1) := by decide +kernel
theorem dX12_isBadPart_56 : decode cX12_isBadPart 56 = .ok (.goto 4, 3) := by decide +kernel
theorem dX12_isBadPart_59 : decode cX12_isBadPart 59 = .ok (.iconst 0, 1) := by decide +kernel
theorem dX12_isBadPart_60 : decode cX12_isBadPart 60 = .ok (.ireturn, 1) := by decide +kernel
theorem dX12_isBadPart_61 : decode cX12_isBadPart 61 = .ok (.iload_n 3, 1) := by decide +kernel
theorem dX12_isBadPart_62 : decode cX12_isBadPart 62 = .ok (.bipush 8, 2) := by decide +kernel
theorem dX12_isBadPart_64 : decode cX12_isBadPart 64 = .ok (.if_icmp .lt 23, 3) := by decide +kernel
theorem dX12_isBadPart_67 : decode cX12_isBadPart 67 = .ok (.iload_n 2, 1) := by decide +kernel
theorem dX12_isBadPart_68 : decode cX12_isBadPart 68 = .ok (.bipush 17, 2) := by decide +kernel
theorem dX12_isBadPart_70 : decode cX12_isBadPart 70 = .ok (.if_icmp .ne 21, 3) := by decide +kernel
theorem dX12_isBadPart_73 : decode cX12_isBadPart 73 = .ok (.aload_n 0, 1) := by decide +kernel
theorem dX12_isBadPart_74 : decode cX12_isBadPart 74 = .ok (.getfield 16, 3) := by decide +kernel
theorem dX12_isBadPart_77 : decode cX12_isBadPart 77 = .ok (.iload_n 1, 1) := by decide +kernel
theorem dX12_isBadPart_78 : decode cX12_isBadPart 78 = .ok (.iconst 4, 1) := by decide +kernel
theorem dX12_isBadPart_79 : decode cX12_isBadPart 79 = .ok (.iadd, 1) := by decide +kernel
theorem dX12_isBadPart_80 : decode cX12_isBadPart 80 = .ok (.invokestatic 128, 3) := by decide +kernel
theorem dX12_isBadPart_83 : decode cX12_isBadPart 83 = .ok (.iload_n 3, 1) := by decide +kernel
theorem dX12_isBadPart_84 : decode cX12_isBadPart 84 = .ok (.if_icmp .eq 7, 3) := by decide +kernel
theorem dX12_isBadPart_87 : decode cX12_isBadPart 87 = .ok (.iconst 1, 1) := by decide +kernel
theorem dX12_isBadPart_88 : decode cX12_isBadPart 88 = .ok (.goto 4, 3) := by decide +kernel
theorem dX12_isBadPart_91 : decode cX12_isBadPart 91 = .ok (.iconst 0, 1) := by decide +kernel
theorem dX12_isBadPart_92 : decode cX12_isBadPart 92 = .ok (.ireturn, 1) := by decide +kernel
theorem yv_X12_isBadPart : YV RX12 yX12_isBadPart cX12_isBadPart 4 (some .boolean) 2 := ⟨kw5_49, kws_28, kw1_10, kw5_50, by decide +kernel⟩
set_option maxHeartbeats 4000000 in
set_option maxRecDepth 100000 in
theorem c_X12_isBadPart {l : Launch} {D : va_G} {cy : Nat → ClassId} {ws : va_W} {n : Nat} {f : Nat → UInt8} {km mo : Nat} {fs : List Value} (hm0 : ws[km]? = some (mo, .inr (9, fs))) {ai : Nat}  (hf_in : fs[4]? = some (.ref ai)) (hf_size : fs[5]? = some (.int (nI n))) (hR : AR cy ws ai f n) {hd q : Nat} (hh : hd ≤ n) (hq : q < 2 ^ 31) : RO l yX12_isBadPart cX12_isBadPart 4 (some .boolean) 2 42 [.ref mo, .int (nI hd), .int (nI q)] D cy ws (.int (bI (tg_bad (tg_rd f n) n hd q))) := by
  refine ROz (by decide) (lv0 := [(0, .ref mo), (1, .int (nI hd)), (2, .int (nI q))]) rfl (Nat.le_of_ble_eq_true rfl) ?_
  intro p e s m args below meth c ls Q S hP hK hend hl
  have hx := S.1
  have hb := S.2.1
  have hown : s.vm.findClass RX12 = some m.cls := S.2.2.2.1
  have ht : ∀ w ∈ lw_g, w.before args s = true := fun w h => S.2.2.2.2 w (List.mem_cons_of_mem _ h)
  obtain ⟨kr, N, hr0, hnN, hN⟩ := id hR
  refine lv_aload_n hx hb dX12_isBadPart_0 rfl (lv_at hl 0 rfl) ?_
  refine va_get (ci := 9) (C := RX12) (T := TX12) (N := 28) hx hb ht iFX12 hown hK hP km hm0 rfl 5 (by decide) (ht _ kw4_115) (fun _ h9 => h9) hf_size dX12_isBadPart_1 ?_
  refine lv_iload_n hx hb dX12_isBadPart_4 rfl (lv_at hl 1 rfl) ?_
  refine nv_isub hx hb (by omega) dX12_isBadPart_5 ?_
  refine lv_istore_n (lv' := [(3, .int (nI (n - hd))), (0, .ref mo), (1, .int (nI hd)), (2, .int (nI q))]) hx hb dX12_isBadPart_6 rfl hl (by decide) rfl (fun ls hl => ?_)
  refine lv_iload_n hx hb dX12_isBadPart_7 rfl (lv_at hl 3 rfl) ?_
  refine nv_bipush (k := 6) hx hb dX12_isBadPart_8 (by decide) ?_
  refine nv_icmp_ne (tgt := 61) hx hb dX12_isBadPart_10 (by decide) (by omega) (by omega) (fun h10 => ?_) (fun h10 => ?_)
  · skip
    refine lv_iload_n hx hb dX12_isBadPart_61 rfl (lv_at hl 0 rfl) ?_
    refine nv_bipush (k := 8) hx hb dX12_isBadPart_62 (by decide) ?_
    refine nv_icmp_lt (tgt := 87) hx hb dX12_isBadPart_64 (by decide) (by omega) (by omega) (fun h64 => ?_) (fun h64 => ?_)
    · skip
      refine nv_iconst (k := 1) hx hb dX12_isBadPart_87 rfl ?_
      refine lv_goto (tgt := 92) hx hb dX12_isBadPart_88 (by decide) ?_
      exact hend ((bI_t (by simp only [tg_bad]; exact decide_eq_true (by omega)))) dX12_isBadPart_92
    refine lv_iload_n hx hb dX12_isBadPart_67 rfl (lv_at hl 3 rfl) ?_
    refine nv_bipush (k := 17) hx hb dX12_isBadPart_68 (by decide) ?_
    refine nv_icmp_ne (tgt := 91) hx hb dX12_isBadPart_70 (by decide) (by omega) (by omega) (fun h70 => ?_) (fun h70 => ?_)
    · skip
      refine nv_iconst (k := 0) hx hb dX12_isBadPart_91 rfl ?_
      exact hend ((bI_f (by simp only [tg_bad]; exact decide_eq_false (by omega)))) dX12_isBadPart_92
    refine lv_aload_n hx hb dX12_isBadPart_73 rfl (lv_at hl 1 rfl) ?_
    refine va_get (ci := 9) (C := RX12) (T := TX12) (N := 28) hx hb ht iFX12 hown hK hP km hm0 rfl 4 (by decide) (ht _ kw4_114) (fun _ h9 => h9) hf_in dX12_isBadPart_74 ?_
    refine lv_iload_n hx hb dX12_isBadPart_77 rfl (lv_at hl 2 rfl) ?_
    refine nv_iconst (k := 4) hx hb dX12_isBadPart_78 rfl ?_
    refine nv_iadd hx hb dX12_isBadPart_79 ?_
    refine ro_S S (c_X12_two hR (i := hd + 4) (by omega)) kw5_44 yv_X12_two ⟨Nat.le_of_ble_eq_true rfl, Nat.le_of_ble_eq_true rfl⟩ hK hP rfl hl.1 rfl (Nat.le_of_ble_eq_true rfl) dX12_isBadPart_80 ⟨Nat.zero_le _, Nat.zero_le _⟩ ?_
    have hq80 := tg_pr_lt f n (hd + 4)
    refine lv_iload_n hx hb dX12_isBadPart_83 rfl (lv_at hl 0 rfl) ?_
    refine nv_icmp_eq (tgt := 91) hx hb dX12_isBadPart_84 (by decide) (by omega) (by omega) (fun h84 => ?_) (fun h84 => ?_)
    · skip
      refine nv_iconst (k := 0) hx hb dX12_isBadPart_91 rfl ?_
      exact hend ((bI_f (by simp only [tg_bad]; exact decide_eq_false (by omega)))) dX12_isBadPart_92
    refine nv_iconst (k := 1) hx hb dX12_isBadPart_87 rfl ?_
    refine lv_goto (tgt := 92) hx hb dX12_isBadPart_88 (by decide) ?_
    exact hend ((bI_t (by simp only [tg_bad]; exact decide_eq_true (by omega)))) dX12_isBadPart_92
  refine lv_iload_n hx hb dX12_isBadPart_13 rfl (lv_at hl 0 rfl) ?_
  refine nv_bipush (k := 20) hx hb dX12_isBadPart_14 (by decide) ?_
  refine nv_icmp_lt (tgt := 55) hx hb dX12_isBadPart_16 (by decide) (by omega) (by omega) (fun h16 => ?_) (fun h16 => ?_)
  · skip
    refine nv_iconst (k := 1) hx hb dX12_isBadPart_55 rfl ?_
    refine lv_goto (tgt := 60) hx hb dX12_isBadPart_56 (by decide) ?_
    exact hend ((bI_t (by simp only [tg_bad]; exact decide_eq_true (by omega)))) dX12_isBadPart_60
  refine lv_aload_n hx hb dX12_isBadPart_19 rfl (lv_at hl 1 rfl) ?_
  refine va_get (ci := 9) (C := RX12) (T := TX12) (N := 28) hx hb ht iFX12 hown hK hP km hm0 rfl 4 (by decide) (ht _ kw4_114) (fun _ h9 => h9) hf_in dX12_isBadPart_20 ?_
  refine lv_iload_n hx hb dX12_isBadPart_23 rfl (lv_at hl 2 rfl) ?_
  refine nv_bipush (k := 12) hx hb dX12_isBadPart_24 (by decide) ?_
  refine nv_iadd hx hb dX12_isBadPart_26 ?_
  refine ro_S S (c_X12_at hR (i := hd + 12) (by omega)) kw5_41 yv_X12_at ⟨Nat.le_of_ble_eq_true rfl, Nat.le_of_ble_eq_true rfl⟩ hK hP rfl hl.1 rfl (Nat.le_of_ble_eq_true rfl) dX12_isBadPart_27 ⟨Nat.zero_le _, Nat.zero_le _⟩ ?_
  have hq27 := tg_rd_lt f n (hd + 12)
  refine nv_iconst (k := 4) hx hb dX12_isBadPart_30 rfl ?_
  refine nv_ishr hx hb (by omega) (by omega) dX12_isBadPart_31 ?_
  refine nv_iconst (k := 5) hx hb dX12_isBadPart_32 rfl ?_
  refine nv_icmp_lt (tgt := 55) hx hb dX12_isBadPart_33 (by decide) (by omega) (by omega) (fun h33 => ?_) (fun h33 => ?_)
  · skip
    refine nv_iconst (k := 1) hx hb dX12_isBadPart_55 rfl ?_
    refine lv_goto (tgt := 60) hx hb dX12_isBadPart_56 (by decide) ?_
    exact hend ((bI_t (by simp only [tg_bad]; exact decide_eq_true (by omega)))) dX12_isBadPart_60
  refine lv_aload_n hx hb dX12_isBadPart_36 rfl (lv_at hl 1 rfl) ?_
  refine va_get (ci := 9) (C := RX12) (T := TX12) (N := 28) hx hb ht iFX12 hown hK hP km hm0 rfl 4 (by decide) (ht _ kw4_114) (fun _ h9 => h9) hf_in dX12_isBadPart_37 ?_
  refine lv_iload_n hx hb dX12_isBadPart_40 rfl (lv_at hl 2 rfl) ?_
  refine nv_bipush (k := 12) hx hb dX12_isBadPart_41 (by decide) ?_
  refine nv_iadd hx hb dX12_isBadPart_43 ?_
  refine ro_S S (c_X12_at hR (i := hd + 12) (by omega)) kw5_41 yv_X12_at ⟨Nat.le_of_ble_eq_true rfl, Nat.le_of_ble_eq_true rfl⟩ hK hP rfl hl.1 rfl (Nat.le_of_ble_eq_true rfl) dX12_isBadPart_44 ⟨Nat.zero_le _, Nat.zero_le _⟩ ?_
  have hq44 := tg_rd_lt f n (hd + 12)
  refine nv_iconst (k := 4) hx hb dX12_isBadPart_47 rfl ?_
  refine nv_ishr hx hb (by omega) (by omega) dX12_isBadPart_48 ?_
  refine nv_iconst (k := 4) hx hb dX12_isBadPart_49 rfl ?_
  refine nv_imul hx hb dX12_isBadPart_50 ?_
  refine lv_iload_n hx hb dX12_isBadPart_51 rfl (lv_at hl 0 rfl) ?_
  refine nv_icmp_le (tgt := 59) hx hb dX12_isBadPart_52 (by decide) (by omega) (by omega) (fun h52 => ?_) (fun h52 => ?_)
  · skip
    refine nv_iconst (k := 0) hx hb dX12_isBadPart_59 rfl ?_
    exact hend ((bI_f (by simp only [tg_bad]; exact decide_eq_false (by omega)))) dX12_isBadPart_60
  refine nv_iconst (k := 1) hx hb dX12_isBadPart_55 rfl ?_
  refine lv_goto (tgt := 60) hx hb dX12_isBadPart_56 (by decide) ?_
  exact hend ((bI_t (by simp only [tg_bad]; exact decide_eq_true (by omega)))) dX12_isBadPart_60
theorem dX12_isError_0 : decode cX12_isError 0 = .ok (.aload_n 0, 1) := by decide +kernel
theorem dX12_isError_1 : decode cX12_isError 1 = .ok (.getfield 16, 3) := by decide +kernel
theorem dX12_isError_4 : decode cX12_isError 4 = .ok (.bipush 9, 2) := by decide +kernel
theorem dX12_isError_6 : decode cX12_isError 6 = .ok (.invokestatic 124, 3) := by decide +kernel
theorem dX12_isError_9 : decode cX12_isError 9 = .ok (.iconst 1, 1) := by decide +kernel
theorem dX12_isError_10 : decode cX12_isError 10 = .ok (.if_icmp .ne 34, 3) := by decide +kernel
theorem dX12_isError_13 : decode cX12_isError 13 = .ok (.aload_n 0, 1) := by decide +kernel
theorem dX12_isError_14 : decode cX12_isError 14 = .ok (.getfield 16, 3) := by decide +kernel
theorem dX12_isError_17 : decode cX12_isError 17 = .ok (.bipush 20, 2) := by decide +kernel
theorem dX12_isError_19 : decode cX12_isError 19 = .ok (.invokestatic 124, 3) := by decide +kernel
theorem dX12_isError_22 : decode cX12_isError 22 = .ok (.iconst 3, 1) := by decide +kernel
theorem dX12_isError_23 : decode cX12_isError 23 = .ok (.if_icmp .eq 17, 3) := by decide +kernel
theorem dX12_isError_26 : decode cX12_isError 26 = .ok (.aload_n 0, 1) := by decide +kernel
theorem dX12_isError_27 : decode cX12_isError 27 = .ok (.getfield 16, 3) := by decide +kernel
theorem dX12_isError_30 : decode cX12_isError 30 = .ok (.bipush 20, 2) := by decide +kernel
theorem dX12_isError_32 : decode cX12_isError 32 = .ok (.invokestatic 124, 3) := by decide +kernel
theorem dX12_isError_35 : decode cX12_isError 35 = .ok (.bipush 11, 2) := by decide +kernel
theorem dX12_isError_37 : decode cX12_isError 37 = .ok (.if_icmp .ne 7, 3) := by decide +kernel
theorem dX12_isError_40 : decode cX12_isError 40 = .ok (.iconst 1, 1) := by decide +kernel
theorem dX12_isError_41 : decode cX12_isError 41 = .ok (.goto 4, 3) := by decide +kernel
theorem dX12_isError_44 : decode cX12_isError 44 = .ok (.iconst 0, 1) := by decide +kernel
theorem dX12_isError_45 : decode cX12_isError 45 = .ok (.ireturn, 1) := by decide +kernel
theorem yv_X12_isError : YV RX12 yX12_isError cX12_isError 1 (some .boolean) 0 := ⟨kw5_141, kws_42, kw1_10, kw5_142, by decide +kernel⟩
set_option maxHeartbeats 4000000 in
set_option maxRecDepth 100000 in
theorem c_X12_isError {l : Launch} {D : va_G} {cy : Nat → ClassId} {ws : va_W} {n : Nat} {f : Nat → UInt8} {km mo : Nat} {fs : List Value} (hm0 : ws[km]? = some (mo, .inr (9, fs))) {ai : Nat} (hf_in : fs[4]? = some (.ref ai)) (hR : AR cy ws ai f n) (hn21 : 20 < n) : RO l yX12_isError cX12_isError 1 (some .boolean) 1 21 [.ref mo] D cy ws (.int (bI (tg_isErr (tg_rd f n)))) := by
  refine ROz (by decide) (lv0 := [(0, .ref mo)]) rfl (Nat.le_of_ble_eq_true rfl) ?_
  intro p e s m args below meth c ls Q S hP hK hend hl
  have hx := S.1
  have hb := S.2.1
  have hown : s.vm.findClass RX12 = some m.cls := S.2.2.2.1
  have ht : ∀ w ∈ lw_g, w.before args s = true := fun w h => S.2.2.2.2 w (List.mem_cons_of_mem _ h)
  obtain ⟨kr, N, hr0, hnN, hN⟩ := id hR
  refine lv_aload_n hx hb dX12_isError_0 rfl (lv_at hl 0 rfl) ?_
  refine va_get (ci := 9) (C := RX12) (T := TX12) (N := 28) hx hb ht iFX12 hown hK hP km hm0 rfl 4 (by decide) (ht _ kw4_114) (fun _ h9 => h9) hf_in dX12_isError_1 ?_
  refine nv_bipush (k := 9) hx hb dX12_isError_4 (by decide) ?_
  refine ro_S S (c_X12_at hR (i := 9) (by omega)) kw5_41 yv_X12_at ⟨Nat.le_of_ble_eq_true rfl, Nat.le_of_ble_eq_true rfl⟩ hK hP rfl hl.1 rfl (Nat.le_of_ble_eq_true rfl) dX12_isError_6 ⟨Nat.zero_le _, Nat.zero_le _⟩ ?_
  have hq6 := tg_rd_lt f n 9
  refine nv_iconst (k := 1) hx hb dX12_isError_9 rfl ?_
  refine nv_icmp_ne (tgt := 44) hx hb dX12_isError_10 (by decide) (by omega) (by omega) (fun h10 => ?_) (fun h10 => ?_)
  · skip
    refine nv_iconst (k := 0) hx hb dX12_isError_44 rfl ?_
    exact hend ((bI_f (by simp only [tg_isErr]; exact decide_eq_false (by omega)))) dX12_isError_45
  refine lv_aload_n hx hb dX12_isError_13 rfl (lv_at hl 0 rfl) ?_
  refine va_get (ci := 9) (C := RX12) (T := TX12) (N := 28) hx hb ht iFX12 hown hK hP km hm0 rfl 4 (by decide) (ht _ kw4_114) (fun _ h9 => h9) hf_in dX12_isError_14 ?_
  refine nv_bipush (k := 20) hx hb dX12_isError_17 (by decide) ?_
  refine ro_S S (c_X12_at hR (i := 20) (by omega)) kw5_41 yv_X12_at ⟨Nat.le_of_ble_eq_true rfl, Nat.le_of_ble_eq_true rfl⟩ hK hP rfl hl.1 rfl (Nat.le_of_ble_eq_true rfl) dX12_isError_19 ⟨Nat.zero_le _, Nat.zero_le _⟩ ?_
  have hq19 := tg_rd_lt f n 20
  refine nv_iconst (k := 3) hx hb dX12_isError_22 rfl ?_
  refine nv_icmp_eq (tgt := 40) hx hb dX12_isError_23 (by decide) (by omega) (by omega) (fun h23 => ?_) (fun h23 => ?_)
  · skip
    refine nv_iconst (k := 1) hx hb dX12_isError_40 rfl ?_
    refine lv_goto (tgt := 45) hx hb dX12_isError_41 (by decide) ?_
    exact hend ((bI_t (by simp only [tg_isErr]; exact decide_eq_true (by omega)))) dX12_isError_45
  refine lv_aload_n hx hb dX12_isError_26 rfl (lv_at hl 0 rfl) ?_
  refine va_get (ci := 9) (C := RX12) (T := TX12) (N := 28) hx hb ht iFX12 hown hK hP km hm0 rfl 4 (by decide) (ht _ kw4_114) (fun _ h9 => h9) hf_in dX12_isError_27 ?_
  refine nv_bipush (k := 20) hx hb dX12_isError_30 (by decide) ?_
  refine ro_S S (c_X12_at hR (i := 20) (by omega)) kw5_41 yv_X12_at ⟨Nat.le_of_ble_eq_true rfl, Nat.le_of_ble_eq_true rfl⟩ hK hP rfl hl.1 rfl (Nat.le_of_ble_eq_true rfl) dX12_isError_32 ⟨Nat.zero_le _, Nat.zero_le _⟩ ?_
  have hq32 := tg_rd_lt f n 20
  refine nv_bipush (k := 11) hx hb dX12_isError_35 (by decide) ?_
  refine nv_icmp_ne (tgt := 44) hx hb dX12_isError_37 (by decide) (by omega) (by omega) (fun h37 => ?_) (fun h37 => ?_)
  · skip
    refine nv_iconst (k := 0) hx hb dX12_isError_44 rfl ?_
    exact hend ((bI_f (by simp only [tg_isErr]; exact decide_eq_false (by omega)))) dX12_isError_45
  refine nv_iconst (k := 1) hx hb dX12_isError_40 rfl ?_
  refine lv_goto (tgt := 45) hx hb dX12_isError_41 (by decide) ?_
  exact hend ((bI_t (by simp only [tg_isErr]; exact decide_eq_true (by omega)))) dX12_isError_45
theorem dX12_isBadError_0 : decode cX12_isBadError 0 = .ok (.aload_n 0, 1) := by decide +kernel
theorem dX12_isBadError_1 : decode cX12_isBadError 1 = .ok (.getfield 16, 3) := by decide +kernel
theorem dX12_isBadError_4 : decode cX12_isBadError 4 = .ok (.bipush 20, 2) := by decide +kernel
theorem dX12_isBadError_6 : decode cX12_isBadError 6 = .ok (.invokestatic 124, 3) := by decide +kernel
theorem dX12_isBadError_9 : decode cX12_isBadError 9 = .ok (.istore_n 1, 1) := by decide +kernel
theorem dX12_isBadError_10 : decode cX12_isBadError 10 = .ok (.aload_n 0, 1) := by decide +kernel
theorem dX12_isBadError_11 : decode cX12_isBadError 11 = .ok (.getfield 16, 3) := by decide +kernel
theorem dX12_isBadError_14 : decode cX12_isBadError 14 = .ok (.bipush 21, 2) := by decide +kernel
theorem dX12_isBadError_16 : decode cX12_isBadError 16 = .ok (.invokestatic 124, 3) := by decide +kernel
theorem dX12_isBadError_19 : decode cX12_isBadError 19 = .ok (.istore_n 2, 1) := by decide +kernel
theorem dX12_isBadError_20 : decode cX12_isBadError 20 = .ok (.iload_n 1, 1) := by decide +kernel
theorem dX12_isBadError_21 : decode cX12_isBadError 21 = .ok (.iconst 3, 1) := by decide +kernel
theorem dX12_isBadError_22 : decode cX12_isBadError 22 = .ok (.if_icmp .ne 28, 3) := by decide +kernel
theorem dX12_isBadError_25 : decode cX12_isBadError 25 = .ok (.iload_n 2, 1) := by decide +kernel
theorem dX12_isBadError_26 : decode cX12_isBadError 26 = .ok (.iconst 2, 1) := by decide +kernel
theorem dX12_isBadError_27 : decode cX12_isBadError 27 = .ok (.if_icmp .eq 19, 3) := by decide +kernel
theorem dX12_isBadError_30 : decode cX12_isBadError 30 = .ok (.iload_n 2, 1) := by decide +kernel
theorem dX12_isBadError_31 : decode cX12_isBadError 31 = .ok (.bipush 14, 2) := by decide +kernel
theorem dX12_isBadError_33 : decode cX12_isBadError 33 = .ok (.if_icmp .eq 13, 3) := by decide +kernel
theorem dX12_isBadError_36 : decode cX12_isBadError 36 = .ok (.iload_n 2, 1) := by decide +kernel
theorem dX12_isBadError_37 : decode cX12_isBadError 37 = .ok (.bipush 16, 2) := by decide +kernel
theorem dX12_isBadError_39 : decode cX12_isBadError 39 = .ok (.if_icmp .ge 7, 3) := by decide +kernel
theorem dX12_isBadError_42 : decode cX12_isBadError 42 = .ok (.iconst 1, 1) := by decide +kernel
theorem dX12_isBadError_43 : decode cX12_isBadError 43 = .ok (.goto 17, 3) := by decide +kernel
theorem dX12_isBadError_46 : decode cX12_isBadError 46 = .ok (.iconst 0, 1) := by decide +kernel
theorem dX12_isBadError_47 : decode cX12_isBadError 47 = .ok (.goto 13, 3) := by decide +kernel
theorem dX12_isBadError_50 : decode cX12_isBadError 50 = .ok (.iload_n 2, 1) := by decide +kernel
theorem dX12_isBadError_51 : decode cX12_isBadError 51 = .ok (.iconst 2, 1) := by decide +kernel
theorem dX12_isBadError_52 : decode cX12_isBadError 52 = .ok (.if_icmp .ge 7, 3) := by decide +kernel
theorem dX12_isBadError_55 : decode cX12_isBadError 55 = .ok (.iconst 1, 1) := by decide +kernel
theorem dX12_isBadError_56 : decode cX12_isBadError 56 = .ok (.goto 4, 3) := by decide +kernel
theorem dX12_isBadError_59 : decode cX12_isBadError 59 = .ok (.iconst 0, 1) := by decide +kernel
theorem dX12_isBadError_60 : decode cX12_isBadError 60 = .ok (.istore_n 3, 1) := by decide +kernel
theorem dX12_isBadError_61 : decode cX12_isBadError 61 = .ok (.iload_n 3, 1) := by decide +kernel
theorem dX12_isBadError_62 : decode cX12_isBadError 62 = .ok (.ifCond .eq 12, 3) := by decide +kernel
theorem dX12_isBadError_65 : decode cX12_isBadError 65 = .ok (.aload_n 0, 1) := by decide +kernel
theorem dX12_isBadError_66 : decode cX12_isBadError 66 = .ok (.getfield 121, 3) := by decide +kernel
theorem dX12_isBadError_69 : decode cX12_isBadError 69 = .ok (.bipush 56, 2) := by decide +kernel
theorem dX12_isBadError_71 : decode cX12_isBadError 71 = .ok (.if_icmp .ge 5, 3) := by decide +kernel
theorem dX12_isBadError_74 : decode cX12_isBadError 74 = .ok (.iconst 1, 1) := by decide +kernel
theorem dX12_isBadError_75 : decode cX12_isBadError 75 = .ok (.ireturn, 1) := by decide +kernel
theorem dX12_isBadError_76 : decode cX12_isBadError 76 = .ok (.aload_n 0, 1) := by decide +kernel
theorem dX12_isBadError_77 : decode cX12_isBadError 77 = .ok (.getfield 16, 3) := by decide +kernel
theorem dX12_isBadError_80 : decode cX12_isBadError 80 = .ok (.bipush 37, 2) := by decide +kernel
theorem dX12_isBadError_82 : decode cX12_isBadError 82 = .ok (.invokestatic 124, 3) := by decide +kernel
theorem dX12_isBadError_85 : decode cX12_isBadError 85 = .ok (.istore 4, 2) := by decide +kernel
theorem dX12_isBadError_87 : decode cX12_isBadError 87 = .ok (.aload_n 0, 1) := by decide +kernel
theorem dX12_isBadError_88 : decode cX12_isBadError 88 = .ok (.getfield 16, 3) := by decide +kernel
theorem dX12_isBadError_91 : decode cX12_isBadError 91 = .ok (.bipush 28, 2) := by decide +kernel
theorem dX12_isBadError_93 : decode cX12_isBadError 93 = .ok (.invokestatic 124, 3) := by decide +kernel
theorem dX12_isBadError_96 : decode cX12_isBadError 96 = .ok (.bipush 69, 2) := by decide +kernel
theorem dX12_isBadError_98 : decode cX12_isBadError 98 = .ok (.if_icmp .ne 43, 3) := by decide +kernel
theorem dX12_isBadError_101 : decode cX12_isBadError 101 = .ok (.iload 4, 2) := by decide +kernel
theorem dX12_isBadError_103 : decode cX12_isBadError 103 = .ok (.iconst 1, 1) := by decide +kernel
theorem dX12_isBadError_104 : decode cX12_isBadError 104 = .ok (.if_icmp .eq 17, 3) := by decide +kernel
theorem dX12_isBadError_107 : decode cX12_isBadError 107 = .ok (.iload 4, 2) := by decide +kernel
theorem dX12_isBadError_109 : decode cX12_isBadError 109 = .ok (.bipush 6, 2) := by decide +kernel
theorem dX12_isBadError_111 : decode cX12_isBadError 111 = .ok (.if_icmp .eq 10, 3) := by decide +kernel
theorem dX12_isBadError_114 : decode cX12_isBadError 114 = .ok (.iload 4, 2) := by decide +kernel
theorem dX12_isBadError_116 : decode cX12_isBadError 116 = .ok (.bipush 17, 2) := by decide +kernel
theorem dX12_isBadError_118 : decode cX12_isBadError 118 = .ok (.if_icmp .ne 23, 3) := by decide +kernel
theorem dX12_isBadError_121 : decode cX12_isBadError 121 = .ok (.iload 4, 2) := by decide +kernel
theorem dX12_isBadError_123 : decode cX12_isBadError 123 = .ok (.iconst 1, 1) := by decide +kernel
theorem dX12_isBadError_124 : decode cX12_isBadError 124 = .ok (.if_icmp .ne 21, 3) := by decide +kernel
theorem dX12_isBadError_127 : decode cX12_isBadError 127 = .ok (.aload_n 0, 1) := by decide +kernel
theorem dX12_isBadError_128 : decode cX12_isBadError 128 = .ok (.getfield 16, 3) := by decide +kernel
theorem dX12_isBadError_131 : decode cX12_isBadError 131 = .ok (.bipush 48, 2) := by decide +kernel
theorem dX12_isBadError_133 : decode cX12_isBadError 133 = .ok (.invokestatic 124, 3) := by decide +kernel
theorem dX12_isBadError_136 : decode cX12_isBadError 136 = .ok (.bipush 8, 2) := by decide +kernel
theorem dX12_isBadError_138 : decode cX12_isBadError 138 = .ok (.if_icmp .eq 7, 3) := by decide +kernel
theorem dX12_isBadError_141 : decode cX12_isBadError 141 = .ok (.iconst 1, 1) := by decide +kernel
theorem dX12_isBadError_142 : decode cX12_isBadError 142 = .ok (.goto 4, 3) := by decide +kernel
theorem dX12_isBadError_145 : decode cX12_isBadError 145 = .ok (.iconst 0, 1) := by decide +kernel
theorem dX12_isBadError_146 : decode cX12_isBadError 146 = .ok (.ireturn, 1) := by decide +kernel
theorem yv_X12_isBadError : YV RX12 yX12_isBadError cX12_isBadError 5 (some .boolean) 0 := ⟨kw5_145, kws_43, kw1_10, kw5_146, by decide +kernel⟩
set_option maxHeartbeats 4000000 in
set_option maxRecDepth 100000 in
theorem c_X12_isBadError {l : Launch} {D : va_G} {cy : Nat → ClassId} {ws : va_W} {n : Nat} {f : Nat → UInt8} {km mo : Nat} {fs : List Value} (hm0 : ws[km]? = some (mo, .inr (9, fs))) {ai : Nat}  (hf_in : fs[4]? = some (.ref ai)) (hf_size : fs[5]? = some (.int (nI n))) (hR : AR cy ws ai f n) (hn21 : 21 < n) : RO l yX12_isBadError cX12_isBadError 5 (some .boolean) 1 21 [.ref mo] D cy ws (.int (bI (tg_badErr (tg_rd f n) n))) := by
  refine ROz (by decide) (lv0 := [(0, .ref mo)]) rfl (Nat.le_of_ble_eq_true rfl) ?_
  intro p e s m args below meth c ls Q S hP hK hend hl
  have hx := S.1
  have hb := S.2.1
  have hown : s.vm.findClass RX12 = some m.cls := S.2.2.2.1
  have ht : ∀ w ∈ lw_g, w.before args s = true := fun w h => S.2.2.2.2 w (List.mem_cons_of_mem _ h)
  obtain ⟨kr, N, hr0, hnN, hN⟩ := id hR
  refine lv_aload_n hx hb dX12_isBadError_0 rfl (lv_at hl 0 rfl) ?_
  refine va_get (ci := 9) (C := RX12) (T := TX12) (N := 28) hx hb ht iFX12 hown hK hP km hm0 rfl 4 (by decide) (ht _ kw4_114) (fun _ h9 => h9) hf_in dX12_isBadError_1 ?_
  refine nv_bipush (k := 20) hx hb dX12_isBadError_4 (by decide) ?_
  refine ro_S S (c_X12_at hR (i := 20) (by omega)) kw5_41 yv_X12_at ⟨Nat.le_of_ble_eq_true rfl, Nat.le_of_ble_eq_true rfl⟩ hK hP rfl hl.1 rfl (Nat.le_of_ble_eq_true rfl) dX12_isBadError_6 ⟨Nat.zero_le _, Nat.zero_le _⟩ ?_
  have hq6 := tg_rd_lt f n 20
  refine lv_istore_n (lv' := [(1, .int (nI (tg_rd f n 20))), (0, .ref mo)]) hx hb dX12_isBadError_9 rfl hl (by decide) rfl (fun ls hl => ?_)
  refine lv_aload_n hx hb dX12_isBadError_10 rfl (lv_at hl 1 rfl) ?_
  refine va_get (ci := 9) (C := RX12) (T := TX12) (N := 28) hx hb ht iFX12 hown hK hP km hm0 rfl 4 (by decide) (ht _ kw4_114) (fun _ h9 => h9) hf_in dX12_isBadError_11 ?_
  refine nv_bipush (k := 21) hx hb dX12_isBadError_14 (by decide) ?_
  refine ro_S S (c_X12_at hR (i := 21) (by omega)) kw5_41 yv_X12_at ⟨Nat.le_of_ble_eq_true rfl, Nat.le_of_ble_eq_true rfl⟩ hK hP rfl hl.1 rfl (Nat.le_of_ble_eq_true rfl) dX12_isBadError_16 ⟨Nat.zero_le _, Nat.zero_le _⟩ ?_
  have hq16 := tg_rd_lt f n 21
  refine lv_istore_n (lv' := [(2, .int (nI (tg_rd f n 21))), (1, .int (nI (tg_rd f n 20))), (0, .ref mo)]) hx hb dX12_isBadError_19 rfl hl (by decide) rfl (fun ls hl => ?_)
  refine lv_iload_n hx hb dX12_isBadError_20 rfl (lv_at hl 1 rfl) ?_
  refine nv_iconst (k := 3) hx hb dX12_isBadError_21 rfl ?_
  refine nv_icmp_ne (tgt := 50) hx hb dX12_isBadError_22 (by decide) (by omega) (by omega) (fun h22 => ?_) (fun h22 => ?_)
  · skip
    refine lv_iload_n hx hb dX12_isBadError_50 rfl (lv_at hl 0 rfl) ?_
    refine nv_iconst (k := 2) hx hb dX12_isBadError_51 rfl ?_
    refine nv_icmp_ge (tgt := 59) hx hb dX12_isBadError_52 (by decide) (by omega) (by omega) (fun h52 => ?_) (fun h52 => ?_)
    · skip
      refine nv_iconst (k := 0) hx hb dX12_isBadError_59 rfl ?_
      refine lv_istore_n (lv' := [(3, .int (nI 0)), (2, .int (nI (tg_rd f n 21))), (1, .int (nI (tg_rd f n 20))), (0, .ref mo)]) hx hb dX12_isBadError_60 rfl hl (by decide) rfl (fun ls hl => ?_)
      refine lv_iload_n hx hb dX12_isBadError_61 rfl (lv_at hl 0 rfl) ?_
      refine nv_if_eq (tgt := 74) hx hb dX12_isBadError_62 (by decide) (by omega) (fun _ => ?_) (fun h => absurd h (by decide))
      refine nv_iconst (k := 1) hx hb dX12_isBadError_74 rfl ?_
      exact hend ((bI_t (by simp only [tg_badErr]; exact decide_eq_true (by omega)))) dX12_isBadError_75
    refine nv_iconst (k := 1) hx hb dX12_isBadError_55 rfl ?_
    refine lv_goto (tgt := 60) hx hb dX12_isBadError_56 (by decide) ?_
    refine lv_istore_n (lv' := [(3, .int (nI 1)), (2, .int (nI (tg_rd f n 21))), (1, .int (nI (tg_rd f n 20))), (0, .ref mo)]) hx hb dX12_isBadError_60 rfl hl (by decide) rfl (fun ls hl => ?_)
    refine lv_iload_n hx hb dX12_isBadError_61 rfl (lv_at hl 0 rfl) ?_
    refine nv_if_eq (tgt := 74) hx hb dX12_isBadError_62 (by decide) (by omega) (fun h => absurd h (by decide)) (fun _ => ?_)
    refine lv_aload_n hx hb dX12_isBadError_65 rfl (lv_at hl 3 rfl) ?_
    refine va_get (ci := 9) (C := RX12) (T := TX12) (N := 28) hx hb ht iFX12 hown hK hP km hm0 rfl 5 (by decide) (ht _ kw4_115) (fun _ h9 => h9) hf_size dX12_isBadError_66 ?_
    refine nv_bipush (k := 56) hx hb dX12_isBadError_69 (by decide) ?_
    refine nv_icmp_ge (tgt := 76) hx hb dX12_isBadError_71 (by decide) (by omega) (by omega) (fun h71 => ?_) (fun h71 => ?_)
    · skip
      refine lv_aload_n hx hb dX12_isBadError_76 rfl (lv_at hl 3 rfl) ?_
      refine va_get (ci := 9) (C := RX12) (T := TX12) (N := 28) hx hb ht iFX12 hown hK hP km hm0 rfl 4 (by decide) (ht _ kw4_114) (fun _ h9 => h9) hf_in dX12_isBadError_77 ?_
      refine nv_bipush (k := 37) hx hb dX12_isBadError_80 (by decide) ?_
      refine ro_S S (c_X12_at hR (i := 37) (by omega)) kw5_41 yv_X12_at ⟨Nat.le_of_ble_eq_true rfl, Nat.le_of_ble_eq_true rfl⟩ hK hP rfl hl.1 rfl (Nat.le_of_ble_eq_true rfl) dX12_isBadError_82 ⟨Nat.zero_le _, Nat.zero_le _⟩ ?_
      have hq82 := tg_rd_lt f n 37
      refine lv_istore (lv' := [(4, .int (nI (tg_rd f n 37))), (3, .int (nI 1)), (2, .int (nI (tg_rd f n 21))), (1, .int (nI (tg_rd f n 20))), (0, .ref mo)]) hx hb dX12_isBadError_85 hl (by decide) rfl (fun ls hl => ?_)
      refine lv_aload_n hx hb dX12_isBadError_87 rfl (lv_at hl 4 rfl) ?_
      refine va_get (ci := 9) (C := RX12) (T := TX12) (N := 28) hx hb ht iFX12 hown hK hP km hm0 rfl 4 (by decide) (ht _ kw4_114) (fun _ h9 => h9) hf_in dX12_isBadError_88 ?_
      refine nv_bipush (k := 28) hx hb dX12_isBadError_91 (by decide) ?_
      refine ro_S S (c_X12_at hR (i := 28) (by omega)) kw5_41 yv_X12_at ⟨Nat.le_of_ble_eq_true rfl, Nat.le_of_ble_eq_true rfl⟩ hK hP rfl hl.1 rfl (Nat.le_of_ble_eq_true rfl) dX12_isBadError_93 ⟨Nat.zero_le _, Nat.zero_le _⟩ ?_
      have hq93 := tg_rd_lt f n 28
      refine nv_bipush (k := 69) hx hb dX12_isBadError_96 (by decide) ?_
      refine nv_icmp_ne (tgt := 141) hx hb dX12_isBadError_98 (by decide) (by omega) (by omega) (fun h98 => ?_) (fun h98 => ?_)
      · skip
        refine nv_iconst (k := 1) hx hb dX12_isBadError_141 rfl ?_
        refine lv_goto (tgt := 146) hx hb dX12_isBadError_142 (by decide) ?_
        exact hend ((bI_t (by simp only [tg_badErr]; exact decide_eq_true (by omega)))) dX12_isBadError_146
      refine lv_iload hx hb dX12_isBadError_101 (lv_at hl 0 rfl) ?_
      refine nv_iconst (k := 1) hx hb dX12_isBadError_103 rfl ?_
      refine nv_icmp_eq (tgt := 121) hx hb dX12_isBadError_104 (by decide) (by omega) (by omega) (fun h104 => ?_) (fun h104 => ?_)
      · skip
        refine lv_iload hx hb dX12_isBadError_121 (lv_at hl 0 rfl) ?_
        refine nv_iconst (k := 1) hx hb dX12_isBadError_123 rfl ?_
        refine nv_icmp_ne (tgt := 145) hx hb dX12_isBadError_124 (by decide) (by omega) (by omega) (fun h124 => ?_) (fun h124 => ?_)
        · skip
          refine nv_iconst (k := 0) hx hb dX12_isBadError_145 rfl ?_
          exact hend ((bI_f (by simp only [tg_badErr]; exact decide_eq_false (by omega)))) dX12_isBadError_146
        refine lv_aload_n hx hb dX12_isBadError_127 rfl (lv_at hl 4 rfl) ?_
        refine va_get (ci := 9) (C := RX12) (T := TX12) (N := 28) hx hb ht iFX12 hown hK hP km hm0 rfl 4 (by decide) (ht _ kw4_114) (fun _ h9 => h9) hf_in dX12_isBadError_128 ?_
        refine nv_bipush (k := 48) hx hb dX12_isBadError_131 (by decide) ?_
        refine ro_S S (c_X12_at hR (i := 48) (by omega)) kw5_41 yv_X12_at ⟨Nat.le_of_ble_eq_true rfl, Nat.le_of_ble_eq_true rfl⟩ hK hP rfl hl.1 rfl (Nat.le_of_ble_eq_true rfl) dX12_isBadError_133 ⟨Nat.zero_le _, Nat.zero_le _⟩ ?_
        have hq133 := tg_rd_lt f n 48
        refine nv_bipush (k := 8) hx hb dX12_isBadError_136 (by decide) ?_
        refine nv_icmp_eq (tgt := 145) hx hb dX12_isBadError_138 (by decide) (by omega) (by omega) (fun h138 => ?_) (fun h138 => ?_)
        · skip
          refine nv_iconst (k := 0) hx hb dX12_isBadError_145 rfl ?_
          exact hend ((bI_f (by simp only [tg_badErr]; exact decide_eq_false (by omega)))) dX12_isBadError_146
        refine nv_iconst (k := 1) hx hb dX12_isBadError_141 rfl ?_
        refine lv_goto (tgt := 146) hx hb dX12_isBadError_142 (by decide) ?_
        exact hend ((bI_t (by simp only [tg_badErr]; exact decide_eq_true (by omega)))) dX12_isBadError_146
      refine lv_iload hx hb dX12_isBadError_107 (lv_at hl 0 rfl) ?_
      refine nv_bipush (k := 6) hx hb dX12_isBadError_109 (by decide) ?_
      refine nv_icmp_eq (tgt := 121) hx hb dX12_isBadError_111 (by decide) (by omega) (by omega) (fun h111 => ?_) (fun h111 => ?_)
      · skip
        refine lv_iload hx hb dX12_isBadError_121 (lv_at hl 0 rfl) ?_
        refine nv_iconst (k := 1) hx hb dX12_isBadError_123 rfl ?_
        refine nv_icmp_ne (tgt := 145) hx hb dX12_isBadError_124 (by decide) (by omega) (by omega) (fun h124 => ?_) (fun h124 => ?_)
        · skip
          refine nv_iconst (k := 0) hx hb dX12_isBadError_145 rfl ?_
          exact hend ((bI_f (by simp only [tg_badErr]; exact decide_eq_false (by omega)))) dX12_isBadError_146
        refine lv_aload_n hx hb dX12_isBadError_127 rfl (lv_at hl 4 rfl) ?_
        refine va_get (ci := 9) (C := RX12) (T := TX12) (N := 28) hx hb ht iFX12 hown hK hP km hm0 rfl 4 (by decide) (ht _ kw4_114) (fun _ h9 => h9) hf_in dX12_isBadError_128 ?_
        refine nv_bipush (k := 48) hx hb dX12_isBadError_131 (by decide) ?_
        refine ro_S S (c_X12_at hR (i := 48) (by omega)) kw5_41 yv_X12_at ⟨Nat.le_of_ble_eq_true rfl, Nat.le_of_ble_eq_true rfl⟩ hK hP rfl hl.1 rfl (Nat.le_of_ble_eq_true rfl) dX12_isBadError_133 ⟨Nat.zero_le _, Nat.zero_le _⟩ ?_
        have hq133 := tg_rd_lt f n 48
        refine nv_bipush (k := 8) hx hb dX12_isBadError_136 (by decide) ?_
        refine nv_icmp_eq (tgt := 145) hx hb dX12_isBadError_138 (by decide) (by omega) (by omega) (fun h138 => ?_) (fun h138 => ?_)
        · skip
          refine nv_iconst (k := 0) hx hb dX12_isBadError_145 rfl ?_
          exact hend ((bI_f (by simp only [tg_badErr]; exact decide_eq_false (by omega)))) dX12_isBadError_146
        refine nv_iconst (k := 1) hx hb dX12_isBadError_141 rfl ?_
        refine lv_goto (tgt := 146) hx hb dX12_isBadError_142 (by decide) ?_
        exact hend ((bI_t (by simp only [tg_badErr]; exact decide_eq_true (by omega)))) dX12_isBadError_146
      refine lv_iload hx hb dX12_isBadError_114 (lv_at hl 0 rfl) ?_
      refine nv_bipush (k := 17) hx hb dX12_isBadError_116 (by decide) ?_
      refine nv_icmp_ne (tgt := 141) hx hb dX12_isBadError_118 (by decide) (by omega) (by omega) (fun h118 => ?_) (fun h118 => ?_)
      · skip
        refine nv_iconst (k := 1) hx hb dX12_isBadError_141 rfl ?_
        refine lv_goto (tgt := 146) hx hb dX12_isBadError_142 (by decide) ?_
        exact hend ((bI_t (by simp only [tg_badErr]; exact decide_eq_true (by omega)))) dX12_isBadError_146
      refine lv_iload hx hb dX12_isBadError_121 (lv_at hl 0 rfl) ?_
      refine nv_iconst (k := 1) hx hb dX12_isBadError_123 rfl ?_
      refine nv_icmp_ne (tgt := 145) hx hb dX12_isBadError_124 (by decide) (by omega) (by omega) (fun h124 => ?_) (fun h124 => ?_)
      · skip
        refine nv_iconst (k := 0) hx hb dX12_isBadError_145 rfl ?_
        exact hend ((bI_f (by simp only [tg_badErr]; exact decide_eq_false (by omega)))) dX12_isBadError_146
      refine lv_aload_n hx hb dX12_isBadError_127 rfl (lv_at hl 4 rfl) ?_
      refine va_get (ci := 9) (C := RX12) (T := TX12) (N := 28) hx hb ht iFX12 hown hK hP km hm0 rfl 4 (by decide) (ht _ kw4_114) (fun _ h9 => h9) hf_in dX12_isBadError_128 ?_
      refine nv_bipush (k := 48) hx hb dX12_isBadError_131 (by decide) ?_
      refine ro_S S (c_X12_at hR (i := 48) (by omega)) kw5_41 yv_X12_at ⟨Nat.le_of_ble_eq_true rfl, Nat.le_of_ble_eq_true rfl⟩ hK hP rfl hl.1 rfl (Nat.le_of_ble_eq_true rfl) dX12_isBadError_133 ⟨Nat.zero_le _, Nat.zero_le _⟩ ?_
      have hq133 := tg_rd_lt f n 48
      refine nv_bipush (k := 8) hx hb dX12_isBadError_136 (by decide) ?_
      refine nv_icmp_eq (tgt := 145) hx hb dX12_isBadError_138 (by decide) (by omega) (by omega) (fun h138 => ?_) (fun h138 => ?_)
      · skip
        refine nv_iconst (k := 0) hx hb dX12_isBadError_145 rfl ?_
        exact hend ((bI_f (by simp only [tg_badErr]; exact decide_eq_false (by omega)))) dX12_isBadError_146
      refine nv_iconst (k := 1) hx hb dX12_isBadError_141 rfl ?_
      refine lv_goto (tgt := 146) hx hb dX12_isBadError_142 (by decide) ?_
      exact hend ((bI_t (by simp only [tg_badErr]; exact decide_eq_true (by omega)))) dX12_isBadError_146
    refine nv_iconst (k := 1) hx hb dX12_isBadError_74 rfl ?_
    exact hend ((bI_t (by simp only [tg_badErr]; exact decide_eq_true (by omega)))) dX12_isBadError_75
  refine lv_iload_n hx hb dX12_isBadError_25 rfl (lv_at hl 0 rfl) ?_
  refine nv_iconst (k := 2) hx hb dX12_isBadError_26 rfl ?_
  refine nv_icmp_eq (tgt := 46) hx hb dX12_isBadError_27 (by decide) (by omega) (by omega) (fun h27 => ?_) (fun h27 => ?_)
  · skip
    refine nv_iconst (k := 0) hx hb dX12_isBadError_46 rfl ?_
    refine lv_goto (tgt := 60) hx hb dX12_isBadError_47 (by decide) ?_
    refine lv_istore_n (lv' := [(3, .int (nI 0)), (2, .int (nI (tg_rd f n 21))), (1, .int (nI (tg_rd f n 20))), (0, .ref mo)]) hx hb dX12_isBadError_60 rfl hl (by decide) rfl (fun ls hl => ?_)
    refine lv_iload_n hx hb dX12_isBadError_61 rfl (lv_at hl 0 rfl) ?_
    refine nv_if_eq (tgt := 74) hx hb dX12_isBadError_62 (by decide) (by omega) (fun _ => ?_) (fun h => absurd h (by decide))
    refine nv_iconst (k := 1) hx hb dX12_isBadError_74 rfl ?_
    exact hend ((bI_t (by simp only [tg_badErr]; exact decide_eq_true (by omega)))) dX12_isBadError_75
  refine lv_iload_n hx hb dX12_isBadError_30 rfl (lv_at hl 0 rfl) ?_
  refine nv_bipush (k := 14) hx hb dX12_isBadError_31 (by decide) ?_
  refine nv_icmp_eq (tgt := 46) hx hb dX12_isBadError_33 (by decide) (by omega) (by omega) (fun h33 => ?_) (fun h33 => ?_)
  · skip
    refine nv_iconst (k := 0) hx hb dX12_isBadError_46 rfl ?_
    refine lv_goto (tgt := 60) hx hb dX12_isBadError_47 (by decide) ?_
    refine lv_istore_n (lv' := [(3, .int (nI 0)), (2, .int (nI (tg_rd f n 21))), (1, .int (nI (tg_rd f n 20))), (0, .ref mo)]) hx hb dX12_isBadError_60 rfl hl (by decide) rfl (fun ls hl => ?_)
    refine lv_iload_n hx hb dX12_isBadError_61 rfl (lv_at hl 0 rfl) ?_
    refine nv_if_eq (tgt := 74) hx hb dX12_isBadError_62 (by decide) (by omega) (fun _ => ?_) (fun h => absurd h (by decide))
    refine nv_iconst (k := 1) hx hb dX12_isBadError_74 rfl ?_
    exact hend ((bI_t (by simp only [tg_badErr]; exact decide_eq_true (by omega)))) dX12_isBadError_75
  refine lv_iload_n hx hb dX12_isBadError_36 rfl (lv_at hl 0 rfl) ?_
  refine nv_bipush (k := 16) hx hb dX12_isBadError_37 (by decide) ?_
  refine nv_icmp_ge (tgt := 46) hx hb dX12_isBadError_39 (by decide) (by omega) (by omega) (fun h39 => ?_) (fun h39 => ?_)
  · skip
    refine nv_iconst (k := 0) hx hb dX12_isBadError_46 rfl ?_
    refine lv_goto (tgt := 60) hx hb dX12_isBadError_47 (by decide) ?_
    refine lv_istore_n (lv' := [(3, .int (nI 0)), (2, .int (nI (tg_rd f n 21))), (1, .int (nI (tg_rd f n 20))), (0, .ref mo)]) hx hb dX12_isBadError_60 rfl hl (by decide) rfl (fun ls hl => ?_)
    refine lv_iload_n hx hb dX12_isBadError_61 rfl (lv_at hl 0 rfl) ?_
    refine nv_if_eq (tgt := 74) hx hb dX12_isBadError_62 (by decide) (by omega) (fun _ => ?_) (fun h => absurd h (by decide))
    refine nv_iconst (k := 1) hx hb dX12_isBadError_74 rfl ?_
    exact hend ((bI_t (by simp only [tg_badErr]; exact decide_eq_true (by omega)))) dX12_isBadError_75
  refine nv_iconst (k := 1) hx hb dX12_isBadError_42 rfl ?_
  refine lv_goto (tgt := 60) hx hb dX12_isBadError_43 (by decide) ?_
  refine lv_istore_n (lv' := [(3, .int (nI 1)), (2, .int (nI (tg_rd f n 21))), (1, .int (nI (tg_rd f n 20))), (0, .ref mo)]) hx hb dX12_isBadError_60 rfl hl (by decide) rfl (fun ls hl => ?_)
  refine lv_iload_n hx hb dX12_isBadError_61 rfl (lv_at hl 0 rfl) ?_
  refine nv_if_eq (tgt := 74) hx hb dX12_isBadError_62 (by decide) (by omega) (fun h => absurd h (by decide)) (fun _ => ?_)
  refine lv_aload_n hx hb dX12_isBadError_65 rfl (lv_at hl 3 rfl) ?_
  refine va_get (ci := 9) (C := RX12) (T := TX12) (N := 28) hx hb ht iFX12 hown hK hP km hm0 rfl 5 (by decide) (ht _ kw4_115) (fun _ h9 => h9) hf_size dX12_isBadError_66 ?_
  refine nv_bipush (k := 56) hx hb dX12_isBadError_69 (by decide) ?_
  refine nv_icmp_ge (tgt := 76) hx hb dX12_isBadError_71 (by decide) (by omega) (by omega) (fun h71 => ?_) (fun h71 => ?_)
  · skip
    refine lv_aload_n hx hb dX12_isBadError_76 rfl (lv_at hl 3 rfl) ?_
    refine va_get (ci := 9) (C := RX12) (T := TX12) (N := 28) hx hb ht iFX12 hown hK hP km hm0 rfl 4 (by decide) (ht _ kw4_114) (fun _ h9 => h9) hf_in dX12_isBadError_77 ?_
    refine nv_bipush (k := 37) hx hb dX12_isBadError_80 (by decide) ?_
    refine ro_S S (c_X12_at hR (i := 37) (by omega)) kw5_41 yv_X12_at ⟨Nat.le_of_ble_eq_true rfl, Nat.le_of_ble_eq_true rfl⟩ hK hP rfl hl.1 rfl (Nat.le_of_ble_eq_true rfl) dX12_isBadError_82 ⟨Nat.zero_le _, Nat.zero_le _⟩ ?_
    have hq82 := tg_rd_lt f n 37
    refine lv_istore (lv' := [(4, .int (nI (tg_rd f n 37))), (3, .int (nI 1)), (2, .int (nI (tg_rd f n 21))), (1, .int (nI (tg_rd f n 20))), (0, .ref mo)]) hx hb dX12_isBadError_85 hl (by decide) rfl (fun ls hl => ?_)
    refine lv_aload_n hx hb dX12_isBadError_87 rfl (lv_at hl 4 rfl) ?_
    refine va_get (ci := 9) (C := RX12) (T := TX12) (N := 28) hx hb ht iFX12 hown hK hP km hm0 rfl 4 (by decide) (ht _ kw4_114) (fun _ h9 => h9) hf_in dX12_isBadError_88 ?_
    refine nv_bipush (k := 28) hx hb dX12_isBadError_91 (by decide) ?_
    refine ro_S S (c_X12_at hR (i := 28) (by omega)) kw5_41 yv_X12_at ⟨Nat.le_of_ble_eq_true rfl, Nat.le_of_ble_eq_true rfl⟩ hK hP rfl hl.1 rfl (Nat.le_of_ble_eq_true rfl) dX12_isBadError_93 ⟨Nat.zero_le _, Nat.zero_le _⟩ ?_
    have hq93 := tg_rd_lt f n 28
    refine nv_bipush (k := 69) hx hb dX12_isBadError_96 (by decide) ?_
    refine nv_icmp_ne (tgt := 141) hx hb dX12_isBadError_98 (by decide) (by omega) (by omega) (fun h98 => ?_) (fun h98 => ?_)
    · skip
      refine nv_iconst (k := 1) hx hb dX12_isBadError_141 rfl ?_
      refine lv_goto (tgt := 146) hx hb dX12_isBadError_142 (by decide) ?_
      exact hend ((bI_t (by simp only [tg_badErr]; exact decide_eq_true (by omega)))) dX12_isBadError_146
    refine lv_iload hx hb dX12_isBadError_101 (lv_at hl 0 rfl) ?_
    refine nv_iconst (k := 1) hx hb dX12_isBadError_103 rfl ?_
    refine nv_icmp_eq (tgt := 121) hx hb dX12_isBadError_104 (by decide) (by omega) (by omega) (fun h104 => ?_) (fun h104 => ?_)
    · skip
      refine lv_iload hx hb dX12_isBadError_121 (lv_at hl 0 rfl) ?_
      refine nv_iconst (k := 1) hx hb dX12_isBadError_123 rfl ?_
      refine nv_icmp_ne (tgt := 145) hx hb dX12_isBadError_124 (by decide) (by omega) (by omega) (fun h124 => ?_) (fun h124 => ?_)
      · skip
        refine nv_iconst (k := 0) hx hb dX12_isBadError_145 rfl ?_
        exact hend ((bI_f (by simp only [tg_badErr]; exact decide_eq_false (by omega)))) dX12_isBadError_146
      refine lv_aload_n hx hb dX12_isBadError_127 rfl (lv_at hl 4 rfl) ?_
      refine va_get (ci := 9) (C := RX12) (T := TX12) (N := 28) hx hb ht iFX12 hown hK hP km hm0 rfl 4 (by decide) (ht _ kw4_114) (fun _ h9 => h9) hf_in dX12_isBadError_128 ?_
      refine nv_bipush (k := 48) hx hb dX12_isBadError_131 (by decide) ?_
      refine ro_S S (c_X12_at hR (i := 48) (by omega)) kw5_41 yv_X12_at ⟨Nat.le_of_ble_eq_true rfl, Nat.le_of_ble_eq_true rfl⟩ hK hP rfl hl.1 rfl (Nat.le_of_ble_eq_true rfl) dX12_isBadError_133 ⟨Nat.zero_le _, Nat.zero_le _⟩ ?_
      have hq133 := tg_rd_lt f n 48
      refine nv_bipush (k := 8) hx hb dX12_isBadError_136 (by decide) ?_
      refine nv_icmp_eq (tgt := 145) hx hb dX12_isBadError_138 (by decide) (by omega) (by omega) (fun h138 => ?_) (fun h138 => ?_)
      · skip
        refine nv_iconst (k := 0) hx hb dX12_isBadError_145 rfl ?_
        exact hend ((bI_f (by simp only [tg_badErr]; exact decide_eq_false (by omega)))) dX12_isBadError_146
      refine nv_iconst (k := 1) hx hb dX12_isBadError_141 rfl ?_
      refine lv_goto (tgt := 146) hx hb dX12_isBadError_142 (by decide) ?_
      exact hend ((bI_t (by simp only [tg_badErr]; exact decide_eq_true (by omega)))) dX12_isBadError_146
    refine lv_iload hx hb dX12_isBadError_107 (lv_at hl 0 rfl) ?_
    refine nv_bipush (k := 6) hx hb dX12_isBadError_109 (by decide) ?_
    refine nv_icmp_eq (tgt := 121) hx hb dX12_isBadError_111 (by decide) (by omega) (by omega) (fun h111 => ?_) (fun h111 => ?_)
    · skip
      refine lv_iload hx hb dX12_isBadError_121 (lv_at hl 0 rfl) ?_
      refine nv_iconst (k := 1) hx hb dX12_isBadError_123 rfl ?_
      refine nv_icmp_ne (tgt := 145) hx hb dX12_isBadError_124 (by decide) (by omega) (by omega) (fun h124 => ?_) (fun h124 => ?_)
      · skip
        refine nv_iconst (k := 0) hx hb dX12_isBadError_145 rfl ?_
        exact hend ((bI_f (by simp only [tg_badErr]; exact decide_eq_false (by omega)))) dX12_isBadError_146
      refine lv_aload_n hx hb dX12_isBadError_127 rfl (lv_at hl 4 rfl) ?_
      refine va_get (ci := 9) (C := RX12) (T := TX12) (N := 28) hx hb ht iFX12 hown hK hP km hm0 rfl 4 (by decide) (ht _ kw4_114) (fun _ h9 => h9) hf_in dX12_isBadError_128 ?_
      refine nv_bipush (k := 48) hx hb dX12_isBadError_131 (by decide) ?_
      refine ro_S S (c_X12_at hR (i := 48) (by omega)) kw5_41 yv_X12_at ⟨Nat.le_of_ble_eq_true rfl, Nat.le_of_ble_eq_true rfl⟩ hK hP rfl hl.1 rfl (Nat.le_of_ble_eq_true rfl) dX12_isBadError_133 ⟨Nat.zero_le _, Nat.zero_le _⟩ ?_
      have hq133 := tg_rd_lt f n 48
      refine nv_bipush (k := 8) hx hb dX12_isBadError_136 (by decide) ?_
      refine nv_icmp_eq (tgt := 145) hx hb dX12_isBadError_138 (by decide) (by omega) (by omega) (fun h138 => ?_) (fun h138 => ?_)
      · skip
        refine nv_iconst (k := 0) hx hb dX12_isBadError_145 rfl ?_
        exact hend ((bI_f (by simp only [tg_badErr]; exact decide_eq_false (by omega)))) dX12_isBadError_146
      refine nv_iconst (k := 1) hx hb dX12_isBadError_141 rfl ?_
      refine lv_goto (tgt := 146) hx hb dX12_isBadError_142 (by decide) ?_
      exact hend ((bI_t (by simp only [tg_badErr]; exact decide_eq_true (by omega)))) dX12_isBadError_146
    refine lv_iload hx hb dX12_isBadError_114 (lv_at hl 0 rfl) ?_
    refine nv_bipush (k := 17) hx hb dX12_isBadError_116 (by decide) ?_
    refine nv_icmp_ne (tgt := 141) hx hb dX12_isBadError_118 (by decide) (by omega) (by omega) (fun h118 => ?_) (fun h118 => ?_)
    · skip
      refine nv_iconst (k := 1) hx hb dX12_isBadError_141 rfl ?_
      refine lv_goto (tgt := 146) hx hb dX12_isBadError_142 (by decide) ?_
      exact hend ((bI_t (by simp only [tg_badErr]; exact decide_eq_true (by omega)))) dX12_isBadError_146
    refine lv_iload hx hb dX12_isBadError_121 (lv_at hl 0 rfl) ?_
    refine nv_iconst (k := 1) hx hb dX12_isBadError_123 rfl ?_
    refine nv_icmp_ne (tgt := 145) hx hb dX12_isBadError_124 (by decide) (by omega) (by omega) (fun h124 => ?_) (fun h124 => ?_)
    · skip
      refine nv_iconst (k := 0) hx hb dX12_isBadError_145 rfl ?_
      exact hend ((bI_f (by simp only [tg_badErr]; exact decide_eq_false (by omega)))) dX12_isBadError_146
    refine lv_aload_n hx hb dX12_isBadError_127 rfl (lv_at hl 4 rfl) ?_
    refine va_get (ci := 9) (C := RX12) (T := TX12) (N := 28) hx hb ht iFX12 hown hK hP km hm0 rfl 4 (by decide) (ht _ kw4_114) (fun _ h9 => h9) hf_in dX12_isBadError_128 ?_
    refine nv_bipush (k := 48) hx hb dX12_isBadError_131 (by decide) ?_
    refine ro_S S (c_X12_at hR (i := 48) (by omega)) kw5_41 yv_X12_at ⟨Nat.le_of_ble_eq_true rfl, Nat.le_of_ble_eq_true rfl⟩ hK hP rfl hl.1 rfl (Nat.le_of_ble_eq_true rfl) dX12_isBadError_133 ⟨Nat.zero_le _, Nat.zero_le _⟩ ?_
    have hq133 := tg_rd_lt f n 48
    refine nv_bipush (k := 8) hx hb dX12_isBadError_136 (by decide) ?_
    refine nv_icmp_eq (tgt := 145) hx hb dX12_isBadError_138 (by decide) (by omega) (by omega) (fun h138 => ?_) (fun h138 => ?_)
    · skip
      refine nv_iconst (k := 0) hx hb dX12_isBadError_145 rfl ?_
      exact hend ((bI_f (by simp only [tg_badErr]; exact decide_eq_false (by omega)))) dX12_isBadError_146
    refine nv_iconst (k := 1) hx hb dX12_isBadError_141 rfl ?_
    refine lv_goto (tgt := 146) hx hb dX12_isBadError_142 (by decide) ?_
    exact hend ((bI_t (by simp only [tg_badErr]; exact decide_eq_true (by omega)))) dX12_isBadError_146
  refine nv_iconst (k := 1) hx hb dX12_isBadError_74 rfl ?_
  exact hend ((bI_t (by simp only [tg_badErr]; exact decide_eq_true (by omega)))) dX12_isBadError_75
theorem dX12_isOfPrefix_0 : decode cX12_isOfPrefix 0 = .ok (.aload_n 0, 1) := by decide +kernel
theorem dX12_isOfPrefix_1 : decode cX12_isOfPrefix 1 = .ok (.getfield 64, 3) := by decide +kernel
theorem dX12_isOfPrefix_4 : decode cX12_isOfPrefix 4 = .ok (.ifCond .ne 5, 3) := by decide +kernel
theorem dX12_isOfPrefix_7 : decode cX12_isOfPrefix 7 = .ok (.iconst 0, 1) := by decide +kernel
theorem dX12_isOfPrefix_8 : decode cX12_isOfPrefix 8 = .ok (.ireturn, 1) := by decide +kernel
theorem dX12_isOfPrefix_9 : decode cX12_isOfPrefix 9 = .ok (.aload_n 0, 1) := by decide +kernel
theorem dX12_isOfPrefix_10 : decode cX12_isOfPrefix 10 = .ok (.getfield 64, 3) := by decide +kernel
theorem dX12_isOfPrefix_13 : decode cX12_isOfPrefix 13 = .ok (.bipush 96, 2) := by decide +kernel
theorem dX12_isOfPrefix_15 : decode cX12_isOfPrefix 15 = .ok (.if_icmp .ne 31, 3) := by decide +kernel
theorem dX12_isOfPrefix_18 : decode cX12_isOfPrefix 18 = .ok (.lload_n 1, 1) := by decide +kernel
theorem dX12_isOfPrefix_19 : decode cX12_isOfPrefix 19 = .ok (.aload_n 0, 1) := by decide +kernel
theorem dX12_isOfPrefix_20 : decode cX12_isOfPrefix 20 = .ok (.getfield 71, 3) := by decide +kernel
theorem dX12_isOfPrefix_23 : decode cX12_isOfPrefix 23 = .ok (.lcmp, 1) := by decide +kernel
theorem dX12_isOfPrefix_24 : decode cX12_isOfPrefix 24 = .ok (.ifCond .ne 20, 3) := by decide +kernel
theorem dX12_isOfPrefix_27 : decode cX12_isOfPrefix 27 = .ok (.lload_n 3, 1) := by decide +kernel
theorem dX12_isOfPrefix_28 : decode cX12_isOfPrefix 28 = .ok (.ldc2_w 75, 3) := by decide +kernel
theorem dX12_isOfPrefix_31 : decode cX12_isOfPrefix 31 = .ok (.land, 1) := by decide +kernel
theorem dX12_isOfPrefix_32 : decode cX12_isOfPrefix 32 = .ok (.aload_n 0, 1) := by decide +kernel
theorem dX12_isOfPrefix_33 : decode cX12_isOfPrefix 33 = .ok (.getfield 77, 3) := by decide +kernel
theorem dX12_isOfPrefix_36 : decode cX12_isOfPrefix 36 = .ok (.lcmp, 1) := by decide +kernel
theorem dX12_isOfPrefix_37 : decode cX12_isOfPrefix 37 = .ok (.ifCond .ne 7, 3) := by decide +kernel
theorem dX12_isOfPrefix_40 : decode cX12_isOfPrefix 40 = .ok (.iconst 1, 1) := by decide +kernel
theorem dX12_isOfPrefix_41 : decode cX12_isOfPrefix 41 = .ok (.goto 4, 3) := by decide +kernel
theorem dX12_isOfPrefix_44 : decode cX12_isOfPrefix 44 = .ok (.iconst 0, 1) := by decide +kernel
theorem dX12_isOfPrefix_45 : decode cX12_isOfPrefix 45 = .ok (.ireturn, 1) := by decide +kernel
theorem dX12_isOfPrefix_46 : decode cX12_isOfPrefix 46 = .ok (.aload_n 0, 1) := by decide +kernel
theorem dX12_isOfPrefix_47 : decode cX12_isOfPrefix 47 = .ok (.getfield 64, 3) := by decide +kernel
theorem dX12_isOfPrefix_50 : decode cX12_isOfPrefix 50 = .ok (.bipush 64, 2) := by decide +kernel
theorem dX12_isOfPrefix_52 : decode cX12_isOfPrefix 52 = .ok (.if_icmp .ne 9, 3) := by decide +kernel
theorem dX12_isOfPrefix_55 : decode cX12_isOfPrefix 55 = .ok (.ldc2_w 69, 3) := by decide +kernel
theorem dX12_isOfPrefix_58 : decode cX12_isOfPrefix 58 = .ok (.goto 14, 3) := by decide +kernel
theorem dX12_isOfPrefix_61 : decode cX12_isOfPrefix 61 = .ok (.ldc2_w 69, 3) := by decide +kernel
theorem dX12_isOfPrefix_64 : decode cX12_isOfPrefix 64 = .ok (.bipush 64, 2) := by decide +kernel
theorem dX12_isOfPrefix_66 : decode cX12_isOfPrefix 66 = .ok (.aload_n 0, 1) := by decide +kernel
theorem dX12_isOfPrefix_67 : decode cX12_isOfPrefix 67 = .ok (.getfield 64, 3) := by decide +kernel
theorem dX12_isOfPrefix_70 : decode cX12_isOfPrefix 70 = .ok (.isub, 1) := by decide +kernel
theorem dX12_isOfPrefix_71 : decode cX12_isOfPrefix 71 = .ok (.lshl, 1) := by decide +kernel
theorem dX12_isOfPrefix_72 : decode cX12_isOfPrefix 72 = .ok (.lstore 5, 2) := by decide +kernel
theorem dX12_isOfPrefix_74 : decode cX12_isOfPrefix 74 = .ok (.lload_n 1, 1) := by decide +kernel
theorem dX12_isOfPrefix_75 : decode cX12_isOfPrefix 75 = .ok (.lload 5, 2) := by decide +kernel
theorem dX12_isOfPrefix_77 : decode cX12_isOfPrefix 77 = .ok (.land, 1) := by decide +kernel
theorem dX12_isOfPrefix_78 : decode cX12_isOfPrefix 78 = .ok (.aload_n 0, 1) := by decide +kernel
theorem dX12_isOfPrefix_79 : decode cX12_isOfPrefix 79 = .ok (.getfield 71, 3) := by decide +kernel
theorem dX12_isOfPrefix_82 : decode cX12_isOfPrefix 82 = .ok (.lcmp, 1) := by decide +kernel
theorem dX12_isOfPrefix_83 : decode cX12_isOfPrefix 83 = .ok (.ifCond .ne 16, 3) := by decide +kernel
theorem dX12_isOfPrefix_86 : decode cX12_isOfPrefix 86 = .ok (.lload_n 3, 1) := by decide +kernel
theorem dX12_isOfPrefix_87 : decode cX12_isOfPrefix 87 = .ok (.bipush 56, 2) := by decide +kernel
theorem dX12_isOfPrefix_89 : decode cX12_isOfPrefix 89 = .ok (.lushr, 1) := by decide +kernel
theorem dX12_isOfPrefix_90 : decode cX12_isOfPrefix 90 = .ok (.lconst 0, 1) := by decide +kernel
theorem dX12_isOfPrefix_91 : decode cX12_isOfPrefix 91 = .ok (.lcmp, 1) := by decide +kernel
theorem dX12_isOfPrefix_92 : decode cX12_isOfPrefix 92 = .ok (.ifCond .ne 7, 3) := by decide +kernel
theorem dX12_isOfPrefix_95 : decode cX12_isOfPrefix 95 = .ok (.iconst 1, 1) := by decide +kernel
theorem dX12_isOfPrefix_96 : decode cX12_isOfPrefix 96 = .ok (.goto 4, 3) := by decide +kernel
theorem dX12_isOfPrefix_99 : decode cX12_isOfPrefix 99 = .ok (.iconst 0, 1) := by decide +kernel
theorem dX12_isOfPrefix_100 : decode cX12_isOfPrefix 100 = .ok (.ireturn, 1) := by decide +kernel
theorem yv_X12_isOfPrefix : YV RX12 yX12_isOfPrefix cX12_isOfPrefix 7 (some .boolean) 2 := ⟨kw4_235, kws_21, kw1_10, kw4_236, by decide +kernel⟩
set_option maxHeartbeats 4000000 in
set_option maxRecDepth 100000 in
theorem c_X12_isOfPrefix {l : Launch} {D : va_G} {cy : Nat → ClassId} {ws : va_W} {km mo : Nat} {fs : List Value} (hm0 : ws[km]? = some (mo, .inr (9, fs))) {bits : Nat} {F : Nat} {G : Nat} (hf_bits : fs[6]? = some (.int (nI bits))) (hf_prefixHigh : fs[7]? = some (.long (lN (F)))) (hf_prefixLow : fs[8]? = some (.long (lN (G)))) (hsi : SI bits F G) {hi lo : Nat} (hhi : hi < 2 ^ 64) (hlo : lo < 2 ^ 64) : RO l yX12_isOfPrefix cX12_isOfPrefix 7 (some .boolean) 0 0 [.ref mo, .long (lN (hi)), .long (lN (lo))] D cy ws (.int (bI (tg_of bits F G hi lo))) := by
  refine ROz (by decide) (lv0 := [(0, .ref mo), (1, .long (lN (hi))), (3, .long (lN (lo)))]) rfl (Nat.le_of_ble_eq_true rfl) ?_
  intro p e s m args below meth c ls Q S hP hK hend hl
  have hx := S.1
  have hb := S.2.1
  have hown : s.vm.findClass RX12 = some m.cls := S.2.2.2.1
  have ht : ∀ w ∈ lw_g, w.before args s = true := fun w h => S.2.2.2.2 w (List.mem_cons_of_mem _ h)
  have hbits := hsi.b
  have hF := hsi.F
  have hG := hsi.G
  refine lv_aload_n hx hb dX12_isOfPrefix_0 rfl (lv_at hl 0 rfl) ?_
  refine va_get (ci := 9) (C := RX12) (T := TX12) (N := 28) hx hb ht iFX12 hown hK hP km hm0 rfl 6 (by decide) (ht _ kw4_116) (fun _ h9 => h9) hf_bits dX12_isOfPrefix_1 ?_
  refine nv_if_ne (tgt := 9) hx hb dX12_isOfPrefix_4 (by decide) (by omega) (fun h4 => ?_) (fun h4 => ?_)
  · skip
    refine lv_aload_n hx hb dX12_isOfPrefix_9 rfl (lv_at hl 0 rfl) ?_
    refine va_get (ci := 9) (C := RX12) (T := TX12) (N := 28) hx hb ht iFX12 hown hK hP km hm0 rfl 6 (by decide) (ht _ kw4_116) (fun _ h9 => h9) hf_bits dX12_isOfPrefix_10 ?_
    refine nv_bipush (k := 96) hx hb dX12_isOfPrefix_13 (by decide) ?_
    refine nv_icmp_ne (tgt := 46) hx hb dX12_isOfPrefix_15 (by decide) (by omega) (by omega) (fun h15 => ?_) (fun h15 => ?_)
    · skip
      refine lv_aload_n hx hb dX12_isOfPrefix_46 rfl (lv_at hl 0 rfl) ?_
      refine va_get (ci := 9) (C := RX12) (T := TX12) (N := 28) hx hb ht iFX12 hown hK hP km hm0 rfl 6 (by decide) (ht _ kw4_116) (fun _ h9 => h9) hf_bits dX12_isOfPrefix_47 ?_
      refine nv_bipush (k := 64) hx hb dX12_isOfPrefix_50 (by decide) ?_
      refine nv_icmp_ne (tgt := 61) hx hb dX12_isOfPrefix_52 (by decide) (by omega) (by omega) (fun h52 => ?_) (fun h52 => ?_)
      · skip
        refine lv_ldc2 hx hb hown (ht _ kw4_200) dX12_isOfPrefix_61 ?_
        refine nv_bipush (k := 64) hx hb dX12_isOfPrefix_64 (by decide) ?_
        refine lv_aload_n hx hb dX12_isOfPrefix_66 rfl (lv_at hl 0 rfl) ?_
        refine va_get (ci := 9) (C := RX12) (T := TX12) (N := 28) hx hb ht iFX12 hown hK hP km hm0 rfl 6 (by decide) (ht _ kw4_116) (fun _ h9 => h9) hf_bits dX12_isOfPrefix_67 ?_
        refine nv_isub hx hb (by omega) dX12_isOfPrefix_70 ?_
        refine lv_lshl hx hb dX12_isOfPrefix_71 rfl ?_
        have em : ((-1) <<< ((nI (64 - bits)).toInt64 &&& 63) : Int64) = tg_hm bits := by first | rfl | (rw [h52]; decide)
        rw [em]
        refine lv_lstore (lv' := [(5, .long (tg_hm bits)), (0, .ref mo), (1, .long (lN (hi))), (3, .long (lN (lo)))]) hx hb dX12_isOfPrefix_72 hl (by decide) rfl (fun ls hl => ?_)
        refine lv_lload_n hx hb dX12_isOfPrefix_74 rfl (lv_at hl 2 rfl) ?_
        refine lv_lload hx hb dX12_isOfPrefix_75 (lv_at hl 0 rfl) ?_
        refine lv_land hx hb dX12_isOfPrefix_77 ?_
        refine lv_aload_n hx hb dX12_isOfPrefix_78 rfl (lv_at hl 1 rfl) ?_
        refine va_get (ci := 9) (C := RX12) (T := TX12) (N := 28) hx hb ht iFX12 hown hK hP km hm0 rfl 7 (by decide) (ht _ kw4_117) (fun _ h9 => h9) hf_prefixHigh dX12_isOfPrefix_79 ?_
        refine nv_lcmp_ne (tgt := 99) hx hb dX12_isOfPrefix_82 dX12_isOfPrefix_83 (by decide) (fun h82 => ?_) (fun h82 => ?_)
        · skip
          refine nv_iconst (k := 0) hx hb dX12_isOfPrefix_99 rfl ?_
          exact hend ((bI_f (by first | exact of_a hbits h4 h15 hhi (by first | assumption | (simp only [h52] at *; assumption)) | exact of_b h4 h15 h91))) dX12_isOfPrefix_100
        refine lv_lload_n hx hb dX12_isOfPrefix_86 rfl (lv_at hl 3 rfl) ?_
        refine nv_bipush (k := 56) hx hb dX12_isOfPrefix_87 (by decide) ?_
        refine nv_lushr hx hb (by omega) (by omega) dX12_isOfPrefix_89 ?_
        refine lv_lconst (v := lN 0) hx hb dX12_isOfPrefix_90 (by decide) ?_
        refine nv_lcmp_ne (tgt := 99) hx hb dX12_isOfPrefix_91 dX12_isOfPrefix_92 (by decide) (fun h91 => ?_) (fun h91 => ?_)
        · skip
          refine nv_iconst (k := 0) hx hb dX12_isOfPrefix_99 rfl ?_
          exact hend ((bI_f (by first | exact of_a hbits h4 h15 hhi (by first | assumption | (simp only [h52] at *; assumption)) | exact of_b h4 h15 h91))) dX12_isOfPrefix_100
        refine nv_iconst (k := 1) hx hb dX12_isOfPrefix_95 rfl ?_
        refine lv_goto (tgt := 100) hx hb dX12_isOfPrefix_96 (by decide) ?_
        exact hend ((bI_t (of_y hbits h4 h15 hhi hlo hF (by first | assumption | (rw [h52]; assumption) | (simp only [h52] at *; assumption)) h91))) dX12_isOfPrefix_100
      refine lv_ldc2 hx hb hown (ht _ kw4_200) dX12_isOfPrefix_55 ?_
      refine lv_goto (tgt := 72) hx hb dX12_isOfPrefix_58 (by decide) ?_
      have em : (-1 : Int64) = tg_hm bits := by first | rfl | (rw [h52]; decide)
      rw [em]
      refine lv_lstore (lv' := [(5, .long (tg_hm bits)), (0, .ref mo), (1, .long (lN (hi))), (3, .long (lN (lo)))]) hx hb dX12_isOfPrefix_72 hl (by decide) rfl (fun ls hl => ?_)
      refine lv_lload_n hx hb dX12_isOfPrefix_74 rfl (lv_at hl 2 rfl) ?_
      refine lv_lload hx hb dX12_isOfPrefix_75 (lv_at hl 0 rfl) ?_
      refine lv_land hx hb dX12_isOfPrefix_77 ?_
      refine lv_aload_n hx hb dX12_isOfPrefix_78 rfl (lv_at hl 1 rfl) ?_
      refine va_get (ci := 9) (C := RX12) (T := TX12) (N := 28) hx hb ht iFX12 hown hK hP km hm0 rfl 7 (by decide) (ht _ kw4_117) (fun _ h9 => h9) hf_prefixHigh dX12_isOfPrefix_79 ?_
      refine nv_lcmp_ne (tgt := 99) hx hb dX12_isOfPrefix_82 dX12_isOfPrefix_83 (by decide) (fun h82 => ?_) (fun h82 => ?_)
      · skip
        refine nv_iconst (k := 0) hx hb dX12_isOfPrefix_99 rfl ?_
        exact hend ((bI_f (by first | exact of_a hbits h4 h15 hhi (by first | assumption | (simp only [h52] at *; assumption)) | exact of_b h4 h15 h91))) dX12_isOfPrefix_100
      refine lv_lload_n hx hb dX12_isOfPrefix_86 rfl (lv_at hl 3 rfl) ?_
      refine nv_bipush (k := 56) hx hb dX12_isOfPrefix_87 (by decide) ?_
      refine nv_lushr hx hb (by omega) (by omega) dX12_isOfPrefix_89 ?_
      refine lv_lconst (v := lN 0) hx hb dX12_isOfPrefix_90 (by decide) ?_
      refine nv_lcmp_ne (tgt := 99) hx hb dX12_isOfPrefix_91 dX12_isOfPrefix_92 (by decide) (fun h91 => ?_) (fun h91 => ?_)
      · skip
        refine nv_iconst (k := 0) hx hb dX12_isOfPrefix_99 rfl ?_
        exact hend ((bI_f (by first | exact of_a hbits h4 h15 hhi (by first | assumption | (simp only [h52] at *; assumption)) | exact of_b h4 h15 h91))) dX12_isOfPrefix_100
      refine nv_iconst (k := 1) hx hb dX12_isOfPrefix_95 rfl ?_
      refine lv_goto (tgt := 100) hx hb dX12_isOfPrefix_96 (by decide) ?_
      exact hend ((bI_t (of_y hbits h4 h15 hhi hlo hF (by first | assumption | (rw [h52]; assumption) | (simp only [h52] at *; assumption)) h91))) dX12_isOfPrefix_100
    refine lv_lload_n hx hb dX12_isOfPrefix_18 rfl (lv_at hl 1 rfl) ?_
    refine lv_aload_n hx hb dX12_isOfPrefix_19 rfl (lv_at hl 0 rfl) ?_
    refine va_get (ci := 9) (C := RX12) (T := TX12) (N := 28) hx hb ht iFX12 hown hK hP km hm0 rfl 7 (by decide) (ht _ kw4_117) (fun _ h9 => h9) hf_prefixHigh dX12_isOfPrefix_20 ?_
    refine nv_lcmp_ne (tgt := 44) hx hb dX12_isOfPrefix_23 dX12_isOfPrefix_24 (by decide) (fun h23 => ?_) (fun h23 => ?_)
    · skip
      refine nv_iconst (k := 0) hx hb dX12_isOfPrefix_44 rfl ?_
      exact hend ((bI_f (by first | exact of_96a h15 h23 | exact of_96b h15 hlo h36))) dX12_isOfPrefix_45
    refine lv_lload_n hx hb dX12_isOfPrefix_27 rfl (lv_at hl 2 rfl) ?_
    refine lv_ldc2 hx hb hown (ht _ kw4_201) dX12_isOfPrefix_28 ?_
    refine lv_land hx hb dX12_isOfPrefix_31 ?_
    refine lv_aload_n hx hb dX12_isOfPrefix_32 rfl (lv_at hl 0 rfl) ?_
    refine va_get (ci := 9) (C := RX12) (T := TX12) (N := 28) hx hb ht iFX12 hown hK hP km hm0 rfl 8 (by decide) (ht _ kw4_118) (fun _ h9 => h9) hf_prefixLow dX12_isOfPrefix_33 ?_
    refine nv_lcmp_ne (tgt := 44) hx hb dX12_isOfPrefix_36 dX12_isOfPrefix_37 (by decide) (fun h36 => ?_) (fun h36 => ?_)
    · skip
      refine nv_iconst (k := 0) hx hb dX12_isOfPrefix_44 rfl ?_
      exact hend ((bI_f (by first | exact of_96a h15 h23 | exact of_96b h15 hlo h36))) dX12_isOfPrefix_45
    refine nv_iconst (k := 1) hx hb dX12_isOfPrefix_40 rfl ?_
    refine lv_goto (tgt := 45) hx hb dX12_isOfPrefix_41 (by decide) ?_
    exact hend ((bI_t (of_96 h15 hhi hlo hF hG h23 h36))) dX12_isOfPrefix_45
  refine nv_iconst (k := 0) hx hb dX12_isOfPrefix_7 rfl ?_
  exact hend ((bI_f (by simp [tg_of, h4]))) dX12_isOfPrefix_8
theorem dX12_drawnOf_0 : decode cX12_drawnOf 0 = .ok (.iconst 0, 1) := by decide +kernel
theorem dX12_drawnOf_1 : decode cX12_drawnOf 1 = .ok (.istore 5, 2) := by decide +kernel
theorem dX12_drawnOf_3 : decode cX12_drawnOf 3 = .ok (.iconst 0, 1) := by decide +kernel
theorem dX12_drawnOf_4 : decode cX12_drawnOf 4 = .ok (.istore 6, 2) := by decide +kernel
theorem dX12_drawnOf_6 : decode cX12_drawnOf 6 = .ok (.iload 6, 2) := by decide +kernel
theorem dX12_drawnOf_8 : decode cX12_drawnOf 8 = .ok (.iconst 4, 1) := by decide +kernel
theorem dX12_drawnOf_9 : decode cX12_drawnOf 9 = .ok (.if_icmp .ge 28, 3) := by decide +kernel
theorem dX12_drawnOf_12 : decode cX12_drawnOf 12 = .ok (.iload 5, 2) := by decide +kernel
theorem dX12_drawnOf_14 : decode cX12_drawnOf 14 = .ok (.bipush 8, 2) := by decide +kernel
theorem dX12_drawnOf_16 : decode cX12_drawnOf 16 = .ok (.ishl, 1) := by decide +kernel
theorem dX12_drawnOf_17 : decode cX12_drawnOf 17 = .ok (.lload_n 1, 1) := by decide +kernel
theorem dX12_drawnOf_18 : decode cX12_drawnOf 18 = .ok (.lload_n 3, 1) := by decide +kernel
theorem dX12_drawnOf_19 : decode cX12_drawnOf 19 = .ok (.aload_n 0, 1) := by decide +kernel
theorem dX12_drawnOf_20 : decode cX12_drawnOf 20 = .ok (.iload 6, 2) := by decide +kernel
theorem dX12_drawnOf_22 : decode cX12_drawnOf 22 = .ok (.invokevirtual 97, 3) := by decide +kernel
theorem dX12_drawnOf_25 : decode cX12_drawnOf 25 = .ok (.invokestatic 104, 3) := by decide +kernel
theorem dX12_drawnOf_28 : decode cX12_drawnOf 28 = .ok (.ior, 1) := by decide +kernel
theorem dX12_drawnOf_29 : decode cX12_drawnOf 29 = .ok (.istore 5, 2) := by decide +kernel
theorem dX12_drawnOf_31 : decode cX12_drawnOf 31 = .ok (.iinc 6 1, 3) := by decide +kernel
theorem dX12_drawnOf_34 : decode cX12_drawnOf 34 = .ok (.goto (-28), 3) := by decide +kernel
theorem dX12_drawnOf_37 : decode cX12_drawnOf 37 = .ok (.iload 5, 2) := by decide +kernel
theorem dX12_drawnOf_39 : decode cX12_drawnOf 39 = .ok (.ireturn, 1) := by decide +kernel
theorem yv_X12_drawnOf : YV RX12 yX12_drawnOf cX12_drawnOf 7 (some .int) 2 := ⟨kw4_239, kws_22, kw1_10, kw5_0, by decide +kernel⟩
set_option maxHeartbeats 4000000 in
set_option maxRecDepth 100000 in
theorem c_X12_drawnOf {l : Launch} {D : va_G} {cy : Nat → ClassId} {ws : va_W} {km mo : Nat} {fs : List Value} (hm0 : ws[km]? = some (mo, .inr (9, fs))) {bits : Nat} (hf_bits : fs[6]? = some (.int (nI bits))) (hb7 : bits = 32 ∨ bits = 40 ∨ bits = 48 ∨ bits = 56 ∨ bits = 64 ∨ bits = 96) {hi lo : Nat} (hhi : hi < 2 ^ 64) (hlo : lo < 2 ^ 64) : RO l yX12_drawnOf cX12_drawnOf 7 (some .int) 1 24 [.ref mo, .long (lN (hi)), .long (lN (lo))] D cy ws (.int (nI (tg_dr bits hi lo))) := by
  refine ROi (by decide) (lv0 := [(0, .ref mo), (1, .long (lN (hi))), (3, .long (lN (lo)))]) rfl (Nat.le_of_ble_eq_true rfl) ?_
  intro p e s m args below meth c ls Q S hP hK hend hl
  have hx := S.1
  have hb := S.2.1
  have hown : s.vm.findClass RX12 = some m.cls := S.2.2.2.1
  have ht : ∀ w ∈ lw_g, w.before args s = true := fun w h => S.2.2.2.2 w (List.mem_cons_of_mem _ h)
  refine nv_iconst (k := 0) hx hb dX12_drawnOf_0 rfl ?_
  refine lv_istore (lv' := [(5, .int (nI 0)), (0, .ref mo), (1, .long (lN (hi))), (3, .long (lN (lo)))]) hx hb dX12_drawnOf_1 hl (by decide) rfl (fun ls hl => ?_)
  refine nv_iconst (k := 0) hx hb dX12_drawnOf_3 rfl ?_
  refine lv_istore (lv' := [(6, .int (nI 0)), (5, .int (nI 0)), (0, .ref mo), (1, .long (lN (hi))), (3, .long (lN (lo)))]) hx hb dX12_drawnOf_4 hl (by decide) rfl (fun ls hl => ?_)
  have L6 : ∀ (fu : Nat) (i : Nat) (v : Nat), 4 - i < fu → i ≤ 4 → v = tg_db bits hi lo i → ∀ ls : Array Slot, lv_has ls 7 [(0, .ref mo), (1, .long (lN (hi))), (3, .long (lN (lo))), (5, .int (nI v)), (6, .int (nI i))] → W p l e (rmo 1 24) s m args below meth c s.heap [] 0 0 Q (F0 m 6 ls []) := by
    intro fu
    induction fu with
    | zero => intro i v h9; omega
    | succ fu ih =>
      intro i v hfu hi9 hv ls hl
      refine lv_iload hx hb dX12_drawnOf_6 (lv_at hl 4 rfl) ?_
      refine nv_iconst (k := 4) hx hb dX12_drawnOf_8 rfl ?_
      refine nv_icmp_ge (tgt := 37) hx hb dX12_drawnOf_9 (by decide) (by omega) (by omega) (fun h9 => ?_) (fun h9 => ?_)
      · skip
        refine lv_iload hx hb dX12_drawnOf_37 (lv_at hl 3 rfl) ?_
        exact hend ((congrArg nI (by rw [hv, show i = 4 by omega, tg_db_4 hb7]))) dX12_drawnOf_39
      refine lv_iload hx hb dX12_drawnOf_12 (lv_at hl 3 rfl) ?_
      refine nv_bipush (k := 8) hx hb dX12_drawnOf_14 (by decide) ?_
      refine nv_ishl hx hb (by omega) dX12_drawnOf_16 ?_
      refine lv_lload_n hx hb dX12_drawnOf_17 rfl (lv_at hl 1 rfl) ?_
      refine lv_lload_n hx hb dX12_drawnOf_18 rfl (lv_at hl 2 rfl) ?_
      refine lv_aload_n hx hb dX12_drawnOf_19 rfl (lv_at hl 0 rfl) ?_
      refine lv_iload hx hb dX12_drawnOf_20 (lv_at hl 4 rfl) ?_
      refine ro_V S (c_X12_placeOf hm0 hf_bits (i := i) (by omega) (by omega)) kw4_217 yv_X12_placeOf ⟨Nat.le_of_ble_eq_true rfl, Nat.le_of_ble_eq_true rfl⟩ hK hP (va_recv hK hP (ci := 9) (q0 := km) rfl hm0) rfl hl.1 rfl (Nat.le_of_ble_eq_true rfl) dX12_drawnOf_22 ⟨Nat.zero_le _, Nat.zero_le _⟩ ?_
      have hq22 := tg_pl_lt (i := i) (by omega) hb7
      refine ro_S S (c_X12_byteOf (hi := hi) (lo := lo) (i := tg_pl bits i) (by omega) (by omega) (by omega)) kw5_1 yv_X12_byteOf ⟨Nat.le_of_ble_eq_true rfl, Nat.le_of_ble_eq_true rfl⟩ hK hP rfl hl.1 rfl (Nat.le_of_ble_eq_true rfl) dX12_drawnOf_25 ⟨Nat.zero_le _, Nat.zero_le _⟩ ?_
      have hq25 := tg_by_lt hi lo (tg_pl bits i)
      refine nv_ior 8 hx hb (by omega) dX12_drawnOf_28 ?_
      refine lv_istore (lv' := [(5, .int (nI ((v) * 2 ^ 8 + tg_by hi lo (tg_pl bits i)))), (0, .ref mo), (1, .long (lN (hi))), (3, .long (lN (lo))), (6, .int (nI i))]) hx hb dX12_drawnOf_29 hl (by decide) rfl (fun ls hl => ?_)
      refine lv_iinc (v := (nI (i + 1))) (lv' := [(6, .int (nI (i + 1))), (5, .int (nI ((v) * 2 ^ 8 + tg_by hi lo (tg_pl bits i)))), (0, .ref mo), (1, .long (lN (hi))), (3, .long (lN (lo)))]) hx hb dX12_drawnOf_31 hl (k := 4) rfl (nI_inc _ _) (by decide) rfl (fun ls hl => ?_)
      refine lv_goto (tgt := 6) hx hb dX12_drawnOf_34 (by decide) ?_
      exact ih (i + 1) ((v) * 2 ^ 8 + tg_by hi lo (tg_pl bits i)) (by omega) (by omega) (by rw [hv]; simp only [tg_db]) ls (lv_sub hl [2, 3, 4, 1, 0] rfl)
  exact L6 (5) 0 0 (by omega) (by omega) rfl ls (lv_sub hl [2, 3, 4, 1, 0] rfl)
