theorem dX12_at_0 : decode cX12_at 0 = .ok (.aload_n 0, 1) := by decide +kernel
theorem dX12_at_1 : decode cX12_at 1 = .ok (.iload_n 1, 1) := by decide +kernel
theorem dX12_at_2 : decode cX12_at 2 = .ok (.baload, 1) := by decide +kernel
theorem dX12_at_3 : decode cX12_at 3 = .ok (.sipush 255, 3) := by decide +kernel
theorem dX12_at_6 : decode cX12_at 6 = .ok (.iand, 1) := by decide +kernel
theorem dX12_at_7 : decode cX12_at 7 = .ok (.ireturn, 1) := by decide +kernel
theorem yv_X12_at : YS yX12_at cX12_at 2 (some .int) 2 := ⟨kw5_42, kw1_10, kw5_43, by decide +kernel⟩
set_option maxHeartbeats 4000000 in
set_option maxRecDepth 100000 in
theorem c_X12_at {l : Launch} {D : va_G} {cy : Nat → ClassId} {ws : va_W} {ro n : Nat} {f : Nat → UInt8} (hR : AR cy ws ro f n) {i : Nat} (hi : i < n) : RO l yX12_at cX12_at 2 (some .int) 0 0 [.ref ro, .int (nI i)] D cy ws (.int (nI (tg_rd f n i))) := by
  refine ROi (by decide) (lv0 := [(0, .ref ro), (1, .int (nI i))]) rfl (Nat.le_of_ble_eq_true rfl) ?_
  intro p e s m args below meth c ls Q S hP hK hend hl
  have hx := S.1
  have hb := S.2.1
  have hown : s.vm.findClass RX12 = some m.cls := S.2.2.2.1
  have ht : ∀ w ∈ lw_g, w.before args s = true := fun w h => S.2.2.2.2 w (List.mem_cons_of_mem _ h)
  obtain ⟨kr, N, hr0, hnN, hN⟩ := id hR
  refine lv_aload_n hx hb dX12_at_0 rfl (lv_at hl 0 rfl) ?_
  refine lv_iload_n hx hb dX12_at_1 rfl (lv_at hl 1 rfl) ?_
  refine nv_bald hx hb hK hP kr hr0 (by omega) (by omega) dX12_at_2 ?_
  refine nv_sipush (k := 255) hx hb dX12_at_3 (by decide) ?_
  refine nv_iandb hx hb dX12_at_6 ?_
  have hq6 := UInt8.toNat_lt (f (i))
  exact hend ((congrArg nI (tg_rd_in hi).symm)) dX12_at_7
theorem dX12_two_0 : decode cX12_two 0 = .ok (.aload_n 0, 1) := by decide +kernel
theorem dX12_two_1 : decode cX12_two 1 = .ok (.iload_n 1, 1) := by decide +kernel
theorem dX12_two_2 : decode cX12_two 2 = .ok (.invokestatic 124, 3) := by decide +kernel
theorem dX12_two_5 : decode cX12_two 5 = .ok (.bipush 8, 2) := by decide +kernel
theorem dX12_two_7 : decode cX12_two 7 = .ok (.ishl, 1) := by decide +kernel
theorem dX12_two_8 : decode cX12_two 8 = .ok (.aload_n 0, 1) := by decide +kernel
theorem dX12_two_9 : decode cX12_two 9 = .ok (.iload_n 1, 1) := by decide +kernel
theorem dX12_two_10 : decode cX12_two 10 = .ok (.iconst 1, 1) := by decide +kernel
theorem dX12_two_11 : decode cX12_two 11 = .ok (.iadd, 1) := by decide +kernel
theorem dX12_two_12 : decode cX12_two 12 = .ok (.invokestatic 124, 3) := by decide +kernel
theorem dX12_two_15 : decode cX12_two 15 = .ok (.ior, 1) := by decide +kernel
theorem dX12_two_16 : decode cX12_two 16 = .ok (.ireturn, 1) := by decide +kernel
theorem yv_X12_two : YS yX12_two cX12_two 2 (some .int) 2 := ⟨kw5_45, kw1_10, kw5_46, by decide +kernel⟩
set_option maxHeartbeats 4000000 in
set_option maxRecDepth 100000 in
theorem c_X12_two {l : Launch} {D : va_G} {cy : Nat → ClassId} {ws : va_W} {ro n : Nat} {f : Nat → UInt8} (hR : AR cy ws ro f n) {i : Nat} (hi : i + 1 < n) : RO l yX12_two cX12_two 2 (some .int) 1 21 [.ref ro, .int (nI i)] D cy ws (.int (nI (tg_pr (tg_rd f n) i))) := by
  refine ROi (by decide) (lv0 := [(0, .ref ro), (1, .int (nI i))]) rfl (Nat.le_of_ble_eq_true rfl) ?_
  intro p e s m args below meth c ls Q S hP hK hend hl
  have hx := S.1
  have hb := S.2.1
  have hown : s.vm.findClass RX12 = some m.cls := S.2.2.2.1
  have ht : ∀ w ∈ lw_g, w.before args s = true := fun w h => S.2.2.2.2 w (List.mem_cons_of_mem _ h)
  obtain ⟨kr, N, hr0, hnN, hN⟩ := id hR
  refine lv_aload_n hx hb dX12_two_0 rfl (lv_at hl 0 rfl) ?_
  refine lv_iload_n hx hb dX12_two_1 rfl (lv_at hl 1 rfl) ?_
  refine ro_S S (c_X12_at hR (i := i) (by omega)) kw5_41 yv_X12_at ⟨Nat.le_of_ble_eq_true rfl, Nat.le_of_ble_eq_true rfl⟩ hK hP rfl hl.1 rfl (Nat.le_of_ble_eq_true rfl) dX12_two_2 ⟨Nat.zero_le _, Nat.zero_le _⟩ ?_
  have hq2 := tg_rd_lt f n i
  refine nv_bipush (k := 8) hx hb dX12_two_5 (by decide) ?_
  refine nv_ishl hx hb (by omega) dX12_two_7 ?_
  refine lv_aload_n hx hb dX12_two_8 rfl (lv_at hl 0 rfl) ?_
  refine lv_iload_n hx hb dX12_two_9 rfl (lv_at hl 1 rfl) ?_
  refine nv_iconst (k := 1) hx hb dX12_two_10 rfl ?_
  refine nv_iadd hx hb dX12_two_11 ?_
  refine ro_S S (c_X12_at hR (i := i + 1) (by omega)) kw5_41 yv_X12_at ⟨Nat.le_of_ble_eq_true rfl, Nat.le_of_ble_eq_true rfl⟩ hK hP rfl hl.1 rfl (Nat.le_of_ble_eq_true rfl) dX12_two_12 ⟨Nat.zero_le _, Nat.zero_le _⟩ ?_
  have hq12 := tg_rd_lt f n (i + 1)
  refine nv_ior 8 hx hb (by omega) dX12_two_15 ?_
  exact hend ((congrArg nI (by simp only [tg_pr]))) dX12_two_16
theorem dX12_four_0 : decode cX12_four 0 = .ok (.aload_n 0, 1) := by decide +kernel
theorem dX12_four_1 : decode cX12_four 1 = .ok (.iload_n 1, 1) := by decide +kernel
theorem dX12_four_2 : decode cX12_four 2 = .ok (.invokestatic 128, 3) := by decide +kernel
theorem dX12_four_5 : decode cX12_four 5 = .ok (.bipush 16, 2) := by decide +kernel
theorem dX12_four_7 : decode cX12_four 7 = .ok (.ishl, 1) := by decide +kernel
theorem dX12_four_8 : decode cX12_four 8 = .ok (.aload_n 0, 1) := by decide +kernel
theorem dX12_four_9 : decode cX12_four 9 = .ok (.iload_n 1, 1) := by decide +kernel
theorem dX12_four_10 : decode cX12_four 10 = .ok (.iconst 2, 1) := by decide +kernel
theorem dX12_four_11 : decode cX12_four 11 = .ok (.iadd, 1) := by decide +kernel
theorem dX12_four_12 : decode cX12_four 12 = .ok (.invokestatic 128, 3) := by decide +kernel
theorem dX12_four_15 : decode cX12_four 15 = .ok (.ior, 1) := by decide +kernel
theorem dX12_four_16 : decode cX12_four 16 = .ok (.ireturn, 1) := by decide +kernel
theorem yv_X12_four : YS yX12_four cX12_four 2 (some .int) 2 := ⟨kw5_73, kw1_10, kw5_74, by decide +kernel⟩
set_option maxHeartbeats 4000000 in
set_option maxRecDepth 100000 in
theorem c_X12_four {l : Launch} {D : va_G} {cy : Nat → ClassId} {ws : va_W} {ro n : Nat} {f : Nat → UInt8} (hR : AR cy ws ro f n) {i : Nat} (hi : i + 3 < n) : RO l yX12_four cX12_four 2 (some .int) 2 42 [.ref ro, .int (nI i)] D cy ws (.int (nI (tg_qd (tg_rd f n) i))) := by
  refine ROi (by decide) (lv0 := [(0, .ref ro), (1, .int (nI i))]) rfl (Nat.le_of_ble_eq_true rfl) ?_
  intro p e s m args below meth c ls Q S hP hK hend hl
  have hx := S.1
  have hb := S.2.1
  have hown : s.vm.findClass RX12 = some m.cls := S.2.2.2.1
  have ht : ∀ w ∈ lw_g, w.before args s = true := fun w h => S.2.2.2.2 w (List.mem_cons_of_mem _ h)
  obtain ⟨kr, N, hr0, hnN, hN⟩ := id hR
  refine lv_aload_n hx hb dX12_four_0 rfl (lv_at hl 0 rfl) ?_
  refine lv_iload_n hx hb dX12_four_1 rfl (lv_at hl 1 rfl) ?_
  refine ro_S S (c_X12_two hR (i := i) (by omega)) kw5_44 yv_X12_two ⟨Nat.le_of_ble_eq_true rfl, Nat.le_of_ble_eq_true rfl⟩ hK hP rfl hl.1 rfl (Nat.le_of_ble_eq_true rfl) dX12_four_2 ⟨Nat.zero_le _, Nat.zero_le _⟩ ?_
  have hq2 := tg_pr_lt f n i
  refine nv_bipush (k := 16) hx hb dX12_four_5 (by decide) ?_
  refine nv_ishl hx hb (by omega) dX12_four_7 ?_
  refine lv_aload_n hx hb dX12_four_8 rfl (lv_at hl 0 rfl) ?_
  refine lv_iload_n hx hb dX12_four_9 rfl (lv_at hl 1 rfl) ?_
  refine nv_iconst (k := 2) hx hb dX12_four_10 rfl ?_
  refine nv_iadd hx hb dX12_four_11 ?_
  refine ro_S S (c_X12_two hR (i := i + 2) (by omega)) kw5_44 yv_X12_two ⟨Nat.le_of_ble_eq_true rfl, Nat.le_of_ble_eq_true rfl⟩ hK hP rfl hl.1 rfl (Nat.le_of_ble_eq_true rfl) dX12_four_12 ⟨Nat.zero_le _, Nat.zero_le _⟩ ?_
  have hq12 := tg_pr_lt f n (i + 2)
  refine nv_ior 16 hx hb (by omega) dX12_four_15 ?_
  exact hend ((congrArg nI (by simp only [tg_qd]))) dX12_four_16
theorem dX12_eight_0 : decode cX12_eight 0 = .ok (.aload_n 0, 1) := by decide +kernel
theorem dX12_eight_1 : decode cX12_eight 1 = .ok (.iload_n 1, 1) := by decide +kernel
theorem dX12_eight_2 : decode cX12_eight 2 = .ok (.invokestatic 131, 3) := by decide +kernel
theorem dX12_eight_5 : decode cX12_eight 5 = .ok (.i2l, 1) := by decide +kernel
theorem dX12_eight_6 : decode cX12_eight 6 = .ok (.bipush 32, 2) := by decide +kernel
theorem dX12_eight_8 : decode cX12_eight 8 = .ok (.lshl, 1) := by decide +kernel
theorem dX12_eight_9 : decode cX12_eight 9 = .ok (.aload_n 0, 1) := by decide +kernel
theorem dX12_eight_10 : decode cX12_eight 10 = .ok (.iload_n 1, 1) := by decide +kernel
theorem dX12_eight_11 : decode cX12_eight 11 = .ok (.iconst 4, 1) := by decide +kernel
theorem dX12_eight_12 : decode cX12_eight 12 = .ok (.iadd, 1) := by decide +kernel
theorem dX12_eight_13 : decode cX12_eight 13 = .ok (.invokestatic 131, 3) := by decide +kernel
theorem dX12_eight_16 : decode cX12_eight 16 = .ok (.i2l, 1) := by decide +kernel
theorem dX12_eight_17 : decode cX12_eight 17 = .ok (.ldc2_w 116, 3) := by decide +kernel
theorem dX12_eight_20 : decode cX12_eight 20 = .ok (.land, 1) := by decide +kernel
theorem dX12_eight_21 : decode cX12_eight 21 = .ok (.lor, 1) := by decide +kernel
theorem dX12_eight_22 : decode cX12_eight 22 = .ok (.lreturn, 1) := by decide +kernel
theorem yv_X12_eight : YS yX12_eight cX12_eight 2 (some .long) 2 := ⟨kw5_70, kw1_10, kw5_71, by decide +kernel⟩
set_option maxHeartbeats 4000000 in
set_option maxRecDepth 100000 in
theorem c_X12_eight {l : Launch} {D : va_G} {cy : Nat → ClassId} {ws : va_W} {ro n : Nat} {f : Nat → UInt8} (hR : AR cy ws ro f n) {i : Nat} (hi : i + 7 < n) : RO l yX12_eight cX12_eight 2 (some .long) 3 63 [.ref ro, .int (nI i)] D cy ws (.long (lN (tg_ei (tg_rd f n) i))) := by
  refine ROl (by decide) (lv0 := [(0, .ref ro), (1, .int (nI i))]) rfl (Nat.le_of_ble_eq_true rfl) ?_
  intro p e s m args below meth c ls Q S hP hK hend hl
  have hx := S.1
  have hb := S.2.1
  have hown : s.vm.findClass RX12 = some m.cls := S.2.2.2.1
  have ht : ∀ w ∈ lw_g, w.before args s = true := fun w h => S.2.2.2.2 w (List.mem_cons_of_mem _ h)
  obtain ⟨kr, N, hr0, hnN, hN⟩ := id hR
  refine lv_aload_n hx hb dX12_eight_0 rfl (lv_at hl 0 rfl) ?_
  refine lv_iload_n hx hb dX12_eight_1 rfl (lv_at hl 1 rfl) ?_
  refine ro_S S (c_X12_four hR (i := i) (by omega)) kw5_72 yv_X12_four ⟨Nat.le_of_ble_eq_true rfl, Nat.le_of_ble_eq_true rfl⟩ hK hP rfl hl.1 rfl (Nat.le_of_ble_eq_true rfl) dX12_eight_2 ⟨Nat.zero_le _, Nat.zero_le _⟩ ?_
  have hq2 := tg_qd_lt f n i
  refine lv_i2l hx hb dX12_eight_5 rfl ?_
  refine nv_bipush (k := 32) hx hb dX12_eight_6 (by decide) ?_
  refine nv_wshl hx hb (by omega) dX12_eight_8 ?_
  refine lv_aload_n hx hb dX12_eight_9 rfl (lv_at hl 0 rfl) ?_
  refine lv_iload_n hx hb dX12_eight_10 rfl (lv_at hl 1 rfl) ?_
  refine nv_iconst (k := 4) hx hb dX12_eight_11 rfl ?_
  refine nv_iadd hx hb dX12_eight_12 ?_
  refine ro_S S (c_X12_four hR (i := i + 4) (by omega)) kw5_72 yv_X12_four ⟨Nat.le_of_ble_eq_true rfl, Nat.le_of_ble_eq_true rfl⟩ hK hP rfl hl.1 rfl (Nat.le_of_ble_eq_true rfl) dX12_eight_13 ⟨Nat.zero_le _, Nat.zero_le _⟩ ?_
  have hq13 := tg_qd_lt f n (i + 4)
  refine lv_i2l hx hb dX12_eight_16 rfl ?_
  refine nv_ldc2 (k := 4294967295) hx hb hown (ht _ kw5_4) (by decide) dX12_eight_17 ?_
  refine nv_landw hx hb (by omega) dX12_eight_20 ?_
  refine nv_lor 32 hx hb (by omega) dX12_eight_21 ?_
  exact hend ((congrArg lN (by simp only [tg_ei]))) dX12_eight_22
theorem dX12_words_0 : decode cX12_words 0 = .ok (.lconst 0, 1) := by decide +kernel
theorem dX12_words_1 : decode cX12_words 1 = .ok (.lstore 4, 2) := by decide +kernel
theorem dX12_words_3 : decode cX12_words 3 = .ok (.iload_n 1, 1) := by decide +kernel
theorem dX12_words_4 : decode cX12_words 4 = .ok (.istore 6, 2) := by decide +kernel
theorem dX12_words_6 : decode cX12_words 6 = .ok (.iload 6, 2) := by decide +kernel
theorem dX12_words_8 : decode cX12_words 8 = .ok (.iload_n 2, 1) := by decide +kernel
theorem dX12_words_9 : decode cX12_words 9 = .ok (.if_icmp .ge 48, 3) := by decide +kernel
theorem dX12_words_12 : decode cX12_words 12 = .ok (.iload 6, 2) := by decide +kernel
theorem dX12_words_14 : decode cX12_words 14 = .ok (.iload_n 3, 1) := by decide +kernel
theorem dX12_words_15 : decode cX12_words 15 = .ok (.if_icmp .eq 36, 3) := by decide +kernel
theorem dX12_words_18 : decode cX12_words 18 = .ok (.lload 4, 2) := by decide +kernel
theorem dX12_words_20 : decode cX12_words 20 = .ok (.iload 6, 2) := by decide +kernel
theorem dX12_words_22 : decode cX12_words 22 = .ok (.iconst 1, 1) := by decide +kernel
theorem dX12_words_23 : decode cX12_words 23 = .ok (.iadd, 1) := by decide +kernel
theorem dX12_words_24 : decode cX12_words 24 = .ok (.iload_n 2, 1) := by decide +kernel
theorem dX12_words_25 : decode cX12_words 25 = .ok (.if_icmp .ge 13, 3) := by decide +kernel
theorem dX12_words_28 : decode cX12_words 28 = .ok (.aload_n 0, 1) := by decide +kernel
theorem dX12_words_29 : decode cX12_words 29 = .ok (.iload 6, 2) := by decide +kernel
theorem dX12_words_31 : decode cX12_words 31 = .ok (.invokestatic 128, 3) := by decide +kernel
theorem dX12_words_34 : decode cX12_words 34 = .ok (.i2l, 1) := by decide +kernel
theorem dX12_words_35 : decode cX12_words 35 = .ok (.goto 13, 3) := by decide +kernel
theorem dX12_words_38 : decode cX12_words 38 = .ok (.aload_n 0, 1) := by decide +kernel
theorem dX12_words_39 : decode cX12_words 39 = .ok (.iload 6, 2) := by decide +kernel
theorem dX12_words_41 : decode cX12_words 41 = .ok (.invokestatic 124, 3) := by decide +kernel
theorem dX12_words_44 : decode cX12_words 44 = .ok (.bipush 8, 2) := by decide +kernel
theorem dX12_words_46 : decode cX12_words 46 = .ok (.ishl, 1) := by decide +kernel
theorem dX12_words_47 : decode cX12_words 47 = .ok (.i2l, 1) := by decide +kernel
theorem dX12_words_48 : decode cX12_words 48 = .ok (.ladd, 1) := by decide +kernel
theorem dX12_words_49 : decode cX12_words 49 = .ok (.lstore 4, 2) := by decide +kernel
theorem dX12_words_51 : decode cX12_words 51 = .ok (.iinc 6 2, 3) := by decide +kernel
theorem dX12_words_54 : decode cX12_words 54 = .ok (.goto (-48), 3) := by decide +kernel
theorem dX12_words_57 : decode cX12_words 57 = .ok (.lload 4, 2) := by decide +kernel
theorem dX12_words_59 : decode cX12_words 59 = .ok (.lreturn, 1) := by decide +kernel
theorem yv_X12_words : YS yX12_words cX12_words 7 (some .long) 4 := ⟨kw5_62, kw1_10, kw5_63, by decide +kernel⟩
set_option maxHeartbeats 4000000 in
set_option maxRecDepth 100000 in
theorem c_X12_words {l : Launch} {D : va_G} {cy : Nat → ClassId} {ws : va_W} {ro n : Nat} {f : Nat → UInt8} (hR : AR cy ws ro f n) {a m0 z K : Nat} {sk : Int32} (hsk : ∀ j, j < m0 → (nI (a + 2 * j) = sk ↔ a + 2 * j = z)) (hz1 : ∀ j, j < m0 → a + 2 * j ≠ z + 1) (hz2 : ∀ j, j < m0 → a + 2 * j + 1 ≠ z) (hz : a + 2 * m0 ≤ n) (hK0 : K = 2 * m0) : RO l yX12_words cX12_words 7 (some .long) 2 42 [.ref ro, .int (nI a), .int (nI (a + 2 * m0)), .int sk] D cy ws (.long (lN (tg_ws (tg_rd f n) a z K))) := by
  refine ROl (by decide) (lv0 := [(0, .ref ro), (1, .int (nI a)), (2, .int (nI (a + 2 * m0))), (3, .int sk)]) rfl (Nat.le_of_ble_eq_true rfl) ?_
  intro p e s m args below meth c ls Q S hP hK hend hl
  have hx := S.1
  have hb := S.2.1
  have hown : s.vm.findClass RX12 = some m.cls := S.2.2.2.1
  have ht : ∀ w ∈ lw_g, w.before args s = true := fun w h => S.2.2.2.2 w (List.mem_cons_of_mem _ h)
  obtain ⟨kr, N, hr0, hnN, hN⟩ := id hR
  refine lv_lconst (v := lN 0) hx hb dX12_words_0 (by decide) ?_
  refine lv_lstore (lv' := [(4, .long (lN (0))), (0, .ref ro), (1, .int (nI a)), (2, .int (nI (a + 2 * m0))), (3, .int sk)]) hx hb dX12_words_1 hl (by decide) rfl (fun ls hl => ?_)
  refine lv_iload_n hx hb dX12_words_3 rfl (lv_at hl 2 rfl) ?_
  refine lv_istore (lv' := [(6, .int (nI a)), (4, .long (lN (0))), (0, .ref ro), (1, .int (nI a)), (2, .int (nI (a + 2 * m0))), (3, .int sk)]) hx hb dX12_words_4 hl (by decide) rfl (fun ls hl => ?_)
  have L6 : ∀ (fu : Nat) (j : Nat) (i : Nat) (t : Nat), m0 - j < fu → i = a + 2 * j → j ≤ m0 → t = tg_ws (tg_rd f n) a z (2 * j) → ∀ ls : Array Slot, lv_has ls 7 [(0, .ref ro), (1, .int (nI a)), (2, .int (nI (a + 2 * m0))), (3, .int sk), (4, .long (lN (t))), (6, .int (nI i))] → W p l e (rmo 2 42) s m args below meth c s.heap [] 0 0 Q (F0 m 6 ls []) := by
    intro fu
    induction fu with
    | zero => intro j i t h9; omega
    | succ fu ih =>
      intro j i t hfu hi hj hw ls hl
      have hwl := tg_ws_le f n a z (2 * j)
      refine lv_iload hx hb dX12_words_6 (lv_at hl 5 rfl) ?_
      refine lv_iload_n hx hb dX12_words_8 rfl (lv_at hl 2 rfl) ?_
      refine nv_icmp_ge (tgt := 57) hx hb dX12_words_9 (by decide) (by omega) (by omega) (fun h9 => ?_) (fun h9 => ?_)
      · skip
        refine lv_lload hx hb dX12_words_57 (lv_at hl 4 rfl) ?_
        exact hend ((congrArg lN (by rw [hw, hK0, show j = m0 by omega]))) dX12_words_59
      refine lv_iload hx hb dX12_words_12 (lv_at hl 5 rfl) ?_
      refine lv_iload_n hx hb dX12_words_14 rfl (lv_at hl 3 rfl) ?_
      refine lv_icmp_eq (tgt := 51) hx hb dX12_words_15 (by decide) (fun h15 => ?_) (fun h15 => ?_)
      · skip
        refine lv_iinc (v := (nI (i + 2))) (lv' := [(6, .int (nI (i + 2))), (0, .ref ro), (1, .int (nI a)), (2, .int (nI (a + 2 * m0))), (3, .int sk), (4, .long (lN (t)))]) hx hb dX12_words_51 hl (k := 5) rfl (nI_inc _ _) (by decide) rfl (fun ls hl => ?_)
        refine lv_goto (tgt := 6) hx hb dX12_words_54 (by decide) ?_
        exact ih (j + 1) (i + 2) (t) (by omega) (by omega) (by omega) (by first | (exfalso; omega) | (rw [tg_ws_2 (hz1 j (by omega)) (hz2 j (by omega)), ← hw, if_pos ((hsk j (by omega)).mp (by rw [← hi]; exact h15))] <;> rfl) | (rw [tg_ws_2 (hz1 j (by omega)) (hz2 j (by omega)), ← hw, if_neg (fun q => h15 (by rw [hi]; exact (hsk j (by omega)).mpr q)), ← hi])) ls (lv_sub hl [1, 2, 3, 4, 5, 0] rfl)
      refine lv_lload hx hb dX12_words_18 (lv_at hl 4 rfl) ?_
      refine lv_iload hx hb dX12_words_20 (lv_at hl 5 rfl) ?_
      refine nv_iconst (k := 1) hx hb dX12_words_22 rfl ?_
      refine nv_iadd hx hb dX12_words_23 ?_
      refine lv_iload_n hx hb dX12_words_24 rfl (lv_at hl 2 rfl) ?_
      refine nv_icmp_ge (tgt := 38) hx hb dX12_words_25 (by decide) (by omega) (by omega) (fun h25 => ?_) (fun h25 => ?_)
      · skip
        refine lv_aload_n hx hb dX12_words_38 rfl (lv_at hl 0 rfl) ?_
        refine lv_iload hx hb dX12_words_39 (lv_at hl 5 rfl) ?_
        refine ro_S S (c_X12_at hR (i := i) (by omega)) kw5_41 yv_X12_at ⟨Nat.le_of_ble_eq_true rfl, Nat.le_of_ble_eq_true rfl⟩ hK hP rfl hl.1 rfl (Nat.le_of_ble_eq_true rfl) dX12_words_41 ⟨Nat.zero_le _, Nat.zero_le _⟩ ?_
        have hq41 := tg_rd_lt f n i
        refine nv_bipush (k := 8) hx hb dX12_words_44 (by decide) ?_
        refine nv_ishl hx hb (by omega) dX12_words_46 ?_
        refine nv_i2l hx hb (by omega) dX12_words_47 ?_
        refine nv_ladd hx hb dX12_words_48 ?_
        refine lv_lstore (lv' := [(4, .long (lN (t + ((tg_rd f n i) * 2 ^ 8)))), (0, .ref ro), (1, .int (nI a)), (2, .int (nI (a + 2 * m0))), (3, .int sk), (6, .int (nI i))]) hx hb dX12_words_49 hl (by decide) rfl (fun ls hl => ?_)
        refine lv_iinc (v := (nI (i + 2))) (lv' := [(6, .int (nI (i + 2))), (4, .long (lN (t + ((tg_rd f n i) * 2 ^ 8)))), (0, .ref ro), (1, .int (nI a)), (2, .int (nI (a + 2 * m0))), (3, .int sk)]) hx hb dX12_words_51 hl (k := 5) rfl (nI_inc _ _) (by decide) rfl (fun ls hl => ?_)
        refine lv_goto (tgt := 6) hx hb dX12_words_54 (by decide) ?_
        exact ih (j + 1) (i + 2) (t + ((tg_rd f n i) * 2 ^ 8)) (by omega) (by omega) (by omega) (by first | (exfalso; omega) | (rw [tg_ws_2 (hz1 j (by omega)) (hz2 j (by omega)), ← hw, if_pos ((hsk j (by omega)).mp (by rw [← hi]; exact h15))] <;> rfl) | (rw [tg_ws_2 (hz1 j (by omega)) (hz2 j (by omega)), ← hw, if_neg (fun q => h15 (by rw [hi]; exact (hsk j (by omega)).mpr q)), ← hi])) ls (lv_sub hl [2, 3, 4, 5, 1, 0] rfl)
      refine lv_aload_n hx hb dX12_words_28 rfl (lv_at hl 0 rfl) ?_
      refine lv_iload hx hb dX12_words_29 (lv_at hl 5 rfl) ?_
      refine ro_S S (c_X12_two hR (i := i) (by omega)) kw5_44 yv_X12_two ⟨Nat.le_of_ble_eq_true rfl, Nat.le_of_ble_eq_true rfl⟩ hK hP rfl hl.1 rfl (Nat.le_of_ble_eq_true rfl) dX12_words_31 ⟨Nat.zero_le _, Nat.zero_le _⟩ ?_
      have hq31 := tg_pr_lt f n i
      refine nv_i2l hx hb (by omega) dX12_words_34 ?_
      refine lv_goto (tgt := 48) hx hb dX12_words_35 (by decide) ?_
      refine nv_ladd hx hb dX12_words_48 ?_
      refine lv_lstore (lv' := [(4, .long (lN (t + (tg_pr (tg_rd f n) i)))), (0, .ref ro), (1, .int (nI a)), (2, .int (nI (a + 2 * m0))), (3, .int sk), (6, .int (nI i))]) hx hb dX12_words_49 hl (by decide) rfl (fun ls hl => ?_)
      refine lv_iinc (v := (nI (i + 2))) (lv' := [(6, .int (nI (i + 2))), (4, .long (lN (t + (tg_pr (tg_rd f n) i)))), (0, .ref ro), (1, .int (nI a)), (2, .int (nI (a + 2 * m0))), (3, .int sk)]) hx hb dX12_words_51 hl (k := 5) rfl (nI_inc _ _) (by decide) rfl (fun ls hl => ?_)
      refine lv_goto (tgt := 6) hx hb dX12_words_54 (by decide) ?_
      exact ih (j + 1) (i + 2) (t + (tg_pr (tg_rd f n) i)) (by omega) (by omega) (by omega) (by first | (exfalso; omega) | (rw [tg_ws_2 (hz1 j (by omega)) (hz2 j (by omega)), ← hw, if_pos ((hsk j (by omega)).mp (by rw [← hi]; exact h15))] <;> rfl) | (rw [tg_ws_2 (hz1 j (by omega)) (hz2 j (by omega)), ← hw, if_neg (fun q => h15 (by rw [hi]; exact (hsk j (by omega)).mpr q)), ← hi])) ls (lv_sub hl [2, 3, 4, 5, 1, 0] rfl)
  exact L6 (m0 + 1) 0 a 0 (by omega) (by omega) (by omega) rfl ls (lv_sub hl [2, 3, 4, 5, 1, 0] rfl)
theorem dX12_folded_0 : decode cX12_folded 0 = .ok (.lload_n 0, 1) := by decide +kernel
theorem dX12_folded_1 : decode cX12_folded 1 = .ok (.lstore_n 2, 1) := by decide +kernel
theorem dX12_folded_2 : decode cX12_folded 2 = .ok (.lload_n 2, 1) := by decide +kernel
theorem dX12_folded_3 : decode cX12_folded 3 = .ok (.ldc2_w 134, 3) := by decide +kernel
theorem dX12_folded_6 : decode cX12_folded 6 = .ok (.lcmp, 1) := by decide +kernel
theorem dX12_folded_7 : decode cX12_folded 7 = .ok (.ifCond .le 17, 3) := by decide +kernel
theorem dX12_folded_10 : decode cX12_folded 10 = .ok (.lload_n 2, 1) := by decide +kernel
theorem dX12_folded_11 : decode cX12_folded 11 = .ok (.ldc2_w 134, 3) := by decide +kernel
theorem dX12_folded_14 : decode cX12_folded 14 = .ok (.land, 1) := by decide +kernel
theorem dX12_folded_15 : decode cX12_folded 15 = .ok (.lload_n 2, 1) := by decide +kernel
theorem dX12_folded_16 : decode cX12_folded 16 = .ok (.bipush 16, 2) := by decide +kernel
theorem dX12_folded_18 : decode cX12_folded 18 = .ok (.lshr, 1) := by decide +kernel
theorem dX12_folded_19 : decode cX12_folded 19 = .ok (.ladd, 1) := by decide +kernel
theorem dX12_folded_20 : decode cX12_folded 20 = .ok (.lstore_n 2, 1) := by decide +kernel
theorem dX12_folded_21 : decode cX12_folded 21 = .ok (.goto (-19), 3) := by decide +kernel
theorem dX12_folded_24 : decode cX12_folded 24 = .ok (.ldc2_w 134, 3) := by decide +kernel
theorem dX12_folded_27 : decode cX12_folded 27 = .ok (.lload_n 2, 1) := by decide +kernel
theorem dX12_folded_28 : decode cX12_folded 28 = .ok (.lsub, 1) := by decide +kernel
theorem dX12_folded_29 : decode cX12_folded 29 = .ok (.l2i, 1) := by decide +kernel
theorem dX12_folded_30 : decode cX12_folded 30 = .ok (.ireturn, 1) := by decide +kernel
theorem yv_X12_folded : YS yX12_folded cX12_folded 4 (some .int) 1 := ⟨kw5_65, kw1_10, kw5_66, by decide +kernel⟩
set_option maxHeartbeats 4000000 in
set_option maxRecDepth 100000 in
theorem c_X12_folded {l : Launch} {D : va_G} {cy : Nat → ClassId} {ws : va_W} {t : Nat} (ht0 : t < 2 ^ 31) : RO l yX12_folded cX12_folded 4 (some .int) 0 0 [.long (lN (t))] D cy ws (.int (nI (tg_cl t))) := by
  refine ROi (by decide) (lv0 := [(0, .long (lN (t)))]) rfl (Nat.le_of_ble_eq_true rfl) ?_
  intro p e s m args below meth c ls Q S hP hK hend hl
  have hx := S.1
  have hb := S.2.1
  have hown : s.vm.findClass RX12 = some m.cls := S.2.2.2.1
  have ht : ∀ w ∈ lw_g, w.before args s = true := fun w h => S.2.2.2.2 w (List.mem_cons_of_mem _ h)
  refine lv_lload_n hx hb dX12_folded_0 rfl (lv_at hl 0 rfl) ?_
  refine lv_lstore_n (lv' := [(2, .long (lN (t))), (0, .long (lN (t)))]) hx hb dX12_folded_1 rfl hl (by decide) rfl (fun ls hl => ?_)
  have L2 : ∀ (fu : Nat) (v : Nat), v < fu → v ≤ t → (v % 65536 + v / 65536) % 65536 + (v % 65536 + v / 65536) / 65536 = (t % 65536 + t / 65536) % 65536 + (t % 65536 + t / 65536) / 65536 → ∀ ls : Array Slot, lv_has ls 4 [(0, .long (lN (t))), (2, .long (lN (v)))] → W p l e (rmo 0 0) s m args below meth c s.heap [] 0 0 Q (F0 m 2 ls []) := by
    intro fu
    induction fu with
    | zero => intro v h9; omega
    | succ fu ih =>
      intro v hfu hv he ls hl
      refine lv_lload_n hx hb dX12_folded_2 rfl (lv_at hl 1 rfl) ?_
      refine nv_ldc2 (k := 65535) hx hb hown (ht _ kw5_67) (by decide) dX12_folded_3 ?_
      refine nv_Lcmp_le (tgt := 24) hx hb dX12_folded_6 dX12_folded_7 (by decide) (by omega) (by omega) (fun h6 => ?_) (fun h6 => ?_)
      · skip
        refine nv_ldc2 (k := 65535) hx hb hown (ht _ kw5_67) (by decide) dX12_folded_24 ?_
        refine lv_lload_n hx hb dX12_folded_27 rfl (lv_at hl 1 rfl) ?_
        refine nv_lsub hx hb (by omega) dX12_folded_28 ?_
        refine nv_l2i hx hb dX12_folded_29 ?_
        exact hend ((congrArg nI (by simp only [tg_cl]; omega))) dX12_folded_30
      refine lv_lload_n hx hb dX12_folded_10 rfl (lv_at hl 1 rfl) ?_
      refine nv_ldc2 (k := 65535) hx hb hown (ht _ kw5_67) (by decide) dX12_folded_11 ?_
      refine nv_landm 16 hx hb (by decide) dX12_folded_14 ?_
      refine lv_lload_n hx hb dX12_folded_15 rfl (lv_at hl 1 rfl) ?_
      refine nv_bipush (k := 16) hx hb dX12_folded_16 (by decide) ?_
      refine nv_lshr hx hb (by omega) (by omega) dX12_folded_18 ?_
      refine nv_ladd hx hb dX12_folded_19 ?_
      refine lv_lstore_n (lv' := [(2, .long (lN ((v) % 2 ^ 16 + ((v) / 2 ^ 16)))), (0, .long (lN (t)))]) hx hb dX12_folded_20 rfl hl (by decide) rfl (fun ls hl => ?_)
      refine lv_goto (tgt := 2) hx hb dX12_folded_21 (by decide) ?_
      exact ih ((v) % 2 ^ 16 + ((v) / 2 ^ 16)) (by omega) (by omega) (by omega) ls (lv_sub hl [1, 0] rfl)
  exact L2 (t + 1) t (by omega) (by omega) rfl ls (lv_sub hl [1, 0] rfl)
theorem dX12_placeOfSum_0 : decode cX12_placeOfSum 0 = .ok (.iload_n 0, 1) := by decide +kernel
theorem dX12_placeOfSum_1 : decode cX12_placeOfSum 1 = .ok (.bipush 6, 2) := by decide +kernel
theorem dX12_placeOfSum_3 : decode cX12_placeOfSum 3 = .ok (.if_icmp .ne 8, 3) := by decide +kernel
theorem dX12_placeOfSum_6 : decode cX12_placeOfSum 6 = .ok (.bipush 16, 2) := by decide +kernel
theorem dX12_placeOfSum_8 : decode cX12_placeOfSum 8 = .ok (.goto 15, 3) := by decide +kernel
theorem dX12_placeOfSum_11 : decode cX12_placeOfSum 11 = .ok (.iload_n 0, 1) := by decide +kernel
theorem dX12_placeOfSum_12 : decode cX12_placeOfSum 12 = .ok (.bipush 17, 2) := by decide +kernel
theorem dX12_placeOfSum_14 : decode cX12_placeOfSum 14 = .ok (.if_icmp .ne 8, 3) := by decide +kernel
theorem dX12_placeOfSum_17 : decode cX12_placeOfSum 17 = .ok (.bipush 6, 2) := by decide +kernel
theorem dX12_placeOfSum_19 : decode cX12_placeOfSum 19 = .ok (.goto 4, 3) := by decide +kernel
theorem dX12_placeOfSum_22 : decode cX12_placeOfSum 22 = .ok (.iconst 2, 1) := by decide +kernel
theorem dX12_placeOfSum_23 : decode cX12_placeOfSum 23 = .ok (.ireturn, 1) := by decide +kernel
theorem yv_X12_placeOfSum : YS yX12_placeOfSum cX12_placeOfSum 1 (some .int) 1 := ⟨kw5_56, kw1_10, kw5_57, by decide +kernel⟩
set_option maxHeartbeats 4000000 in
set_option maxRecDepth 100000 in
theorem c_X12_placeOfSum {l : Launch} {D : va_G} {cy : Nat → ClassId} {ws : va_W} {q : Nat} (hq : q < 2 ^ 31) : RO l yX12_placeOfSum cX12_placeOfSum 1 (some .int) 0 0 [.int (nI q)] D cy ws (.int (nI (tg_sumAt q))) := by
  refine ROi (by decide) (lv0 := [(0, .int (nI q))]) rfl (Nat.le_of_ble_eq_true rfl) ?_
  intro p e s m args below meth c ls Q S hP hK hend hl
  have hx := S.1
  have hb := S.2.1
  have hown : s.vm.findClass RX12 = some m.cls := S.2.2.2.1
  have ht : ∀ w ∈ lw_g, w.before args s = true := fun w h => S.2.2.2.2 w (List.mem_cons_of_mem _ h)
  refine lv_iload_n hx hb dX12_placeOfSum_0 rfl (lv_at hl 0 rfl) ?_
  refine nv_bipush (k := 6) hx hb dX12_placeOfSum_1 (by decide) ?_
  refine nv_icmp_ne (tgt := 11) hx hb dX12_placeOfSum_3 (by decide) (by omega) (by omega) (fun h3 => ?_) (fun h3 => ?_)
  · skip
    refine lv_iload_n hx hb dX12_placeOfSum_11 rfl (lv_at hl 0 rfl) ?_
    refine nv_bipush (k := 17) hx hb dX12_placeOfSum_12 (by decide) ?_
    refine nv_icmp_ne (tgt := 22) hx hb dX12_placeOfSum_14 (by decide) (by omega) (by omega) (fun h14 => ?_) (fun h14 => ?_)
    · skip
      refine nv_iconst (k := 2) hx hb dX12_placeOfSum_22 rfl ?_
      exact hend ((congrArg nI (by simp only [tg_sumAt]; (repeat' split) <;> omega))) dX12_placeOfSum_23
    refine nv_bipush (k := 6) hx hb dX12_placeOfSum_17 (by decide) ?_
    refine lv_goto (tgt := 23) hx hb dX12_placeOfSum_19 (by decide) ?_
    exact hend ((congrArg nI (by simp only [tg_sumAt]; (repeat' split) <;> omega))) dX12_placeOfSum_23
  refine nv_bipush (k := 16) hx hb dX12_placeOfSum_6 (by decide) ?_
  refine lv_goto (tgt := 23) hx hb dX12_placeOfSum_8 (by decide) ?_
  exact hend ((congrArg nI (by simp only [tg_sumAt]; (repeat' split) <;> omega))) dX12_placeOfSum_23
theorem dX12_headSum_0 : decode cX12_headSum 0 = .ok (.aload_n 0, 1) := by decide +kernel
theorem dX12_headSum_1 : decode cX12_headSum 1 = .ok (.iconst 0, 1) := by decide +kernel
theorem dX12_headSum_2 : decode cX12_headSum 2 = .ok (.bipush 20, 2) := by decide +kernel
theorem dX12_headSum_4 : decode cX12_headSum 4 = .ok (.bipush 10, 2) := by decide +kernel
theorem dX12_headSum_6 : decode cX12_headSum 6 = .ok (.invokestatic 136, 3) := by decide +kernel
theorem dX12_headSum_9 : decode cX12_headSum 9 = .ok (.invokestatic 140, 3) := by decide +kernel
theorem dX12_headSum_12 : decode cX12_headSum 12 = .ok (.ireturn, 1) := by decide +kernel
theorem yv_X12_headSum : YS yX12_headSum cX12_headSum 1 (some .int) 1 := ⟨kw5_128, kw1_10, kw5_129, by decide +kernel⟩
set_option maxHeartbeats 4000000 in
set_option maxRecDepth 100000 in
theorem c_X12_headSum {l : Launch} {D : va_G} {cy : Nat → ClassId} {ws : va_W} {ro n : Nat} {f : Nat → UInt8} (hR : AR cy ws ro f n) (hn : 20 ≤ n) : RO l yX12_headSum cX12_headSum 1 (some .int) 3 68 [.ref ro] D cy ws (.int (nI (tg_cl (tg_ws (tg_rd f n) 0 10 20)))) := by
  refine ROi (by decide) (lv0 := [(0, .ref ro)]) rfl (Nat.le_of_ble_eq_true rfl) ?_
  intro p e s m args below meth c ls Q S hP hK hend hl
  have hx := S.1
  have hb := S.2.1
  have hown : s.vm.findClass RX12 = some m.cls := S.2.2.2.1
  have ht : ∀ w ∈ lw_g, w.before args s = true := fun w h => S.2.2.2.2 w (List.mem_cons_of_mem _ h)
  obtain ⟨kr, N, hr0, hnN, hN⟩ := id hR
  refine lv_aload_n hx hb dX12_headSum_0 rfl (lv_at hl 0 rfl) ?_
  refine nv_iconst (k := 0) hx hb dX12_headSum_1 rfl ?_
  refine nv_bipush (k := 20) hx hb dX12_headSum_2 (by decide) ?_
  refine nv_bipush (k := 10) hx hb dX12_headSum_4 (by decide) ?_
  refine ro_S S (c_X12_words hR (a := 0) (m0 := 10) (z := 10) (K := 20) (sk := nI (10)) (sk_n (by omega) (by omega)) (fun j hj => by omega) (fun j hj => by omega) (by omega) rfl) kw5_61 yv_X12_words ⟨Nat.le_of_ble_eq_true rfl, Nat.le_of_ble_eq_true rfl⟩ hK hP rfl hl.1 rfl (Nat.le_of_ble_eq_true rfl) dX12_headSum_6 ⟨Nat.zero_le _, Nat.zero_le _⟩ ?_
  have hq6 := tg_ws_le f n 0 10 20
  refine ro_S S (c_X12_folded (t := tg_ws (tg_rd f n) 0 10 20) (by omega)) kw5_64 yv_X12_folded ⟨Nat.le_of_ble_eq_true rfl, Nat.le_of_ble_eq_true rfl⟩ hK hP rfl hl.1 rfl (Nat.le_of_ble_eq_true rfl) dX12_headSum_9 ⟨Nat.zero_le _, Nat.zero_le _⟩ ?_
  have hq9 := tg_cl_le (tg_ws (tg_rd f n) 0 10 20)
  exact hend (rfl) dX12_headSum_12
theorem dX12_sumOf_0 : decode cX12_sumOf 0 = .ok (.lconst 0, 1) := by decide +kernel
theorem dX12_sumOf_1 : decode cX12_sumOf 1 = .ok (.lstore 5, 2) := by decide +kernel
theorem dX12_sumOf_3 : decode cX12_sumOf 3 = .ok (.iload_n 1, 1) := by decide +kernel
theorem dX12_sumOf_4 : decode cX12_sumOf 4 = .ok (.bipush 40, 2) := by decide +kernel
theorem dX12_sumOf_6 : decode cX12_sumOf 6 = .ok (.if_icmp .ne 27, 3) := by decide +kernel
theorem dX12_sumOf_9 : decode cX12_sumOf 9 = .ok (.aload_n 0, 1) := by decide +kernel
theorem dX12_sumOf_10 : decode cX12_sumOf 10 = .ok (.bipush 8, 2) := by decide +kernel
theorem dX12_sumOf_12 : decode cX12_sumOf 12 = .ok (.bipush 40, 2) := by decide +kernel
theorem dX12_sumOf_14 : decode cX12_sumOf 14 = .ok (.iconst (-1), 1) := by decide +kernel
theorem dX12_sumOf_15 : decode cX12_sumOf 15 = .ok (.invokestatic 136, 3) := by decide +kernel
theorem dX12_sumOf_18 : decode cX12_sumOf 18 = .ok (.iload_n 2, 1) := by decide +kernel
theorem dX12_sumOf_19 : decode cX12_sumOf 19 = .ok (.i2l, 1) := by decide +kernel
theorem dX12_sumOf_20 : decode cX12_sumOf 20 = .ok (.ladd, 1) := by decide +kernel
theorem dX12_sumOf_21 : decode cX12_sumOf 21 = .ok (.iload_n 1, 1) := by decide +kernel
theorem dX12_sumOf_22 : decode cX12_sumOf 22 = .ok (.i2l, 1) := by decide +kernel
theorem dX12_sumOf_23 : decode cX12_sumOf 23 = .ok (.lsub, 1) := by decide +kernel
theorem dX12_sumOf_24 : decode cX12_sumOf 24 = .ok (.iload 4, 2) := by decide +kernel
theorem dX12_sumOf_26 : decode cX12_sumOf 26 = .ok (.i2l, 1) := by decide +kernel
theorem dX12_sumOf_27 : decode cX12_sumOf 27 = .ok (.ladd, 1) := by decide +kernel
theorem dX12_sumOf_28 : decode cX12_sumOf 28 = .ok (.lstore 5, 2) := by decide +kernel
theorem dX12_sumOf_30 : decode cX12_sumOf 30 = .ok (.goto 30, 3) := by decide +kernel
theorem dX12_sumOf_33 : decode cX12_sumOf 33 = .ok (.iload 4, 2) := by decide +kernel
theorem dX12_sumOf_35 : decode cX12_sumOf 35 = .ok (.iconst 1, 1) := by decide +kernel
theorem dX12_sumOf_36 : decode cX12_sumOf 36 = .ok (.if_icmp .eq 24, 3) := by decide +kernel
theorem dX12_sumOf_39 : decode cX12_sumOf 39 = .ok (.aload_n 0, 1) := by decide +kernel
theorem dX12_sumOf_40 : decode cX12_sumOf 40 = .ok (.bipush 12, 2) := by decide +kernel
theorem dX12_sumOf_42 : decode cX12_sumOf 42 = .ok (.bipush 20, 2) := by decide +kernel
theorem dX12_sumOf_44 : decode cX12_sumOf 44 = .ok (.iconst (-1), 1) := by decide +kernel
theorem dX12_sumOf_45 : decode cX12_sumOf 45 = .ok (.invokestatic 136, 3) := by decide +kernel
theorem dX12_sumOf_48 : decode cX12_sumOf 48 = .ok (.iload_n 2, 1) := by decide +kernel
theorem dX12_sumOf_49 : decode cX12_sumOf 49 = .ok (.i2l, 1) := by decide +kernel
theorem dX12_sumOf_50 : decode cX12_sumOf 50 = .ok (.ladd, 1) := by decide +kernel
theorem dX12_sumOf_51 : decode cX12_sumOf 51 = .ok (.iload_n 1, 1) := by decide +kernel
theorem dX12_sumOf_52 : decode cX12_sumOf 52 = .ok (.i2l, 1) := by decide +kernel
theorem dX12_sumOf_53 : decode cX12_sumOf 53 = .ok (.lsub, 1) := by decide +kernel
theorem dX12_sumOf_54 : decode cX12_sumOf 54 = .ok (.iload 4, 2) := by decide +kernel
theorem dX12_sumOf_56 : decode cX12_sumOf 56 = .ok (.i2l, 1) := by decide +kernel
theorem dX12_sumOf_57 : decode cX12_sumOf 57 = .ok (.ladd, 1) := by decide +kernel
theorem dX12_sumOf_58 : decode cX12_sumOf 58 = .ok (.lstore 5, 2) := by decide +kernel
theorem dX12_sumOf_60 : decode cX12_sumOf 60 = .ok (.iload_n 1, 1) := by decide +kernel
theorem dX12_sumOf_61 : decode cX12_sumOf 61 = .ok (.istore 7, 2) := by decide +kernel
theorem dX12_sumOf_63 : decode cX12_sumOf 63 = .ok (.iload 7, 2) := by decide +kernel
theorem dX12_sumOf_65 : decode cX12_sumOf 65 = .ok (.iload_n 2, 1) := by decide +kernel
theorem dX12_sumOf_66 : decode cX12_sumOf 66 = .ok (.if_icmp .ge 61, 3) := by decide +kernel
theorem dX12_sumOf_69 : decode cX12_sumOf 69 = .ok (.iload 7, 2) := by decide +kernel
theorem dX12_sumOf_71 : decode cX12_sumOf 71 = .ok (.iload_n 3, 1) := by decide +kernel
theorem dX12_sumOf_72 : decode cX12_sumOf 72 = .ok (.if_icmp .eq 11, 3) := by decide +kernel
theorem dX12_sumOf_75 : decode cX12_sumOf 75 = .ok (.iload 7, 2) := by decide +kernel
theorem dX12_sumOf_77 : decode cX12_sumOf 77 = .ok (.iload_n 3, 1) := by decide +kernel
theorem dX12_sumOf_78 : decode cX12_sumOf 78 = .ok (.iconst 1, 1) := by decide +kernel
theorem dX12_sumOf_79 : decode cX12_sumOf 79 = .ok (.iadd, 1) := by decide +kernel
theorem dX12_sumOf_80 : decode cX12_sumOf 80 = .ok (.if_icmp .ne 7, 3) := by decide +kernel
theorem dX12_sumOf_83 : decode cX12_sumOf 83 = .ok (.iconst 0, 1) := by decide +kernel
theorem dX12_sumOf_84 : decode cX12_sumOf 84 = .ok (.goto 9, 3) := by decide +kernel
theorem dX12_sumOf_87 : decode cX12_sumOf 87 = .ok (.aload_n 0, 1) := by decide +kernel
theorem dX12_sumOf_88 : decode cX12_sumOf 88 = .ok (.iload 7, 2) := by decide +kernel
theorem dX12_sumOf_90 : decode cX12_sumOf 90 = .ok (.invokestatic 124, 3) := by decide +kernel
theorem dX12_sumOf_93 : decode cX12_sumOf 93 = .ok (.istore 8, 2) := by decide +kernel
theorem dX12_sumOf_95 : decode cX12_sumOf 95 = .ok (.lload 5, 2) := by decide +kernel
theorem dX12_sumOf_97 : decode cX12_sumOf 97 = .ok (.iload 7, 2) := by decide +kernel
theorem dX12_sumOf_99 : decode cX12_sumOf 99 = .ok (.iload_n 1, 1) := by decide +kernel
theorem dX12_sumOf_100 : decode cX12_sumOf 100 = .ok (.isub, 1) := by decide +kernel
theorem dX12_sumOf_101 : decode cX12_sumOf 101 = .ok (.iconst 2, 1) := by decide +kernel
theorem dX12_sumOf_102 : decode cX12_sumOf 102 = .ok (.irem, 1) := by decide +kernel
theorem dX12_sumOf_103 : decode cX12_sumOf 103 = .ok (.ifCond .ne 12, 3) := by decide +kernel
theorem dX12_sumOf_106 : decode cX12_sumOf 106 = .ok (.iload 8, 2) := by decide +kernel
theorem dX12_sumOf_108 : decode cX12_sumOf 108 = .ok (.bipush 8, 2) := by decide +kernel
theorem dX12_sumOf_110 : decode cX12_sumOf 110 = .ok (.ishl, 1) := by decide +kernel
theorem dX12_sumOf_111 : decode cX12_sumOf 111 = .ok (.i2l, 1) := by decide +kernel
theorem dX12_sumOf_112 : decode cX12_sumOf 112 = .ok (.goto 6, 3) := by decide +kernel
theorem dX12_sumOf_115 : decode cX12_sumOf 115 = .ok (.iload 8, 2) := by decide +kernel
theorem dX12_sumOf_117 : decode cX12_sumOf 117 = .ok (.i2l, 1) := by decide +kernel
theorem dX12_sumOf_118 : decode cX12_sumOf 118 = .ok (.ladd, 1) := by decide +kernel
theorem dX12_sumOf_119 : decode cX12_sumOf 119 = .ok (.lstore 5, 2) := by decide +kernel
theorem dX12_sumOf_121 : decode cX12_sumOf 121 = .ok (.iinc 7 1, 3) := by decide +kernel
theorem dX12_sumOf_124 : decode cX12_sumOf 124 = .ok (.goto (-61), 3) := by decide +kernel
theorem dX12_sumOf_127 : decode cX12_sumOf 127 = .ok (.lload 5, 2) := by decide +kernel
theorem dX12_sumOf_129 : decode cX12_sumOf 129 = .ok (.invokestatic 140, 3) := by decide +kernel
theorem dX12_sumOf_132 : decode cX12_sumOf 132 = .ok (.istore 7, 2) := by decide +kernel
theorem dX12_sumOf_134 : decode cX12_sumOf 134 = .ok (.iload 4, 2) := by decide +kernel
theorem dX12_sumOf_136 : decode cX12_sumOf 136 = .ok (.bipush 17, 2) := by decide +kernel
theorem dX12_sumOf_138 : decode cX12_sumOf 138 = .ok (.if_icmp .ne 13, 3) := by decide +kernel
theorem dX12_sumOf_141 : decode cX12_sumOf 141 = .ok (.iload 7, 2) := by decide +kernel
theorem dX12_sumOf_143 : decode cX12_sumOf 143 = .ok (.ifCond .ne 8, 3) := by decide +kernel
theorem dX12_sumOf_146 : decode cX12_sumOf 146 = .ok (.ldc 144, 2) := by decide +kernel
theorem dX12_sumOf_148 : decode cX12_sumOf 148 = .ok (.goto 5, 3) := by decide +kernel
theorem dX12_sumOf_151 : decode cX12_sumOf 151 = .ok (.iload 7, 2) := by decide +kernel
theorem dX12_sumOf_153 : decode cX12_sumOf 153 = .ok (.ireturn, 1) := by decide +kernel
theorem yv_X12_sumOf : YS yX12_sumOf cX12_sumOf 9 (some .int) 5 := ⟨kw5_59, kw1_10, kw5_60, by decide +kernel⟩
set_option maxHeartbeats 4000000 in
set_option maxRecDepth 100000 in
theorem c_X12_sumOf {l : Launch} {D : va_G} {cy : Nat → ClassId} {ws : va_W} {ro n : Nat} {f : Nat → UInt8} (hR : AR cy ws ro f n) {hd z w q : Nat} (hh : hd = 20 ∨ hd = 40) (hz1 : hd ≤ z) (hz : z ≤ n) (hw : w < 2 ^ 30) (hq : q < 256) : RO l yX12_sumOf cX12_sumOf 9 (some .int) 3 68 [.ref ro, .int (nI hd), .int (nI z), .int (nI w), .int (nI q)] D cy ws (.int (nI (tg_sum (tg_rd f n) hd z w q))) := by
  refine ROi (by decide) (lv0 := [(0, .ref ro), (1, .int (nI hd)), (2, .int (nI z)), (3, .int (nI w)), (4, .int (nI q))]) rfl (Nat.le_of_ble_eq_true rfl) ?_
  intro p e s m args below meth c ls Q S hP hK hend hl
  have hx := S.1
  have hb := S.2.1
  have hown : s.vm.findClass RX12 = some m.cls := S.2.2.2.1
  have ht : ∀ w ∈ lw_g, w.before args s = true := fun w h => S.2.2.2.2 w (List.mem_cons_of_mem _ h)
  obtain ⟨kr, N, hr0, hnN, hN⟩ := id hR
  have hpre : tg_pre (tg_rd f n) hd z q ≤ 2 ^ 24 := by
    have a1 := tg_ws_le f n 8 40 32
    have a2 := tg_ws_le f n 12 20 8
    unfold tg_pre
    (repeat' split) <;> omega
  refine lv_lconst (v := lN 0) hx hb dX12_sumOf_0 (by decide) ?_
  refine lv_lstore (lv' := [(5, .long (lN (0))), (0, .ref ro), (1, .int (nI hd)), (2, .int (nI z)), (3, .int (nI w)), (4, .int (nI q))]) hx hb dX12_sumOf_1 hl (by decide) rfl (fun ls hl => ?_)
  have L63 : ∀ (fu : Nat) (k : Nat) (t : Nat), z - k < fu → hd ≤ k ∧ k ≤ z → t = tg_ws (tg_rd f n) hd w (k - hd) + tg_pre (tg_rd f n) hd z q → ∀ ls : Array Slot, lv_has ls 9 [(0, .ref ro), (1, .int (nI hd)), (2, .int (nI z)), (3, .int (nI w)), (4, .int (nI q)), (5, .long (lN (t))), (7, .int (nI k))] → W p l e (rmo 3 68) s m args below meth c s.heap [] 0 0 Q (F0 m 63 ls []) := by
    intro fu
    induction fu with
    | zero => intro k t h9; omega
    | succ fu ih =>
      intro k t hfu hk hw0 ls hl
      have hwl := tg_ws_le f n hd w (k - hd)
      have hpl := hpre
      refine lv_iload hx hb dX12_sumOf_63 (lv_at hl 6 rfl) ?_
      refine lv_iload_n hx hb dX12_sumOf_65 rfl (lv_at hl 2 rfl) ?_
      refine nv_icmp_ge (tgt := 127) hx hb dX12_sumOf_66 (by decide) (by omega) (by omega) (fun h66 => ?_) (fun h66 => ?_)
      · skip
        refine lv_lload hx hb dX12_sumOf_127 (lv_at hl 5 rfl) ?_
        refine ro_S S (c_X12_folded (t := t) (by omega)) kw5_64 yv_X12_folded ⟨Nat.le_of_ble_eq_true rfl, Nat.le_of_ble_eq_true rfl⟩ hK hP rfl hl.1 rfl (Nat.le_of_ble_eq_true rfl) dX12_sumOf_129 ⟨Nat.zero_le _, Nat.zero_le _⟩ ?_
        have hq129 := tg_cl_le (t)
        refine lv_istore (lv' := [(7, .int (nI (tg_cl (t)))), (0, .ref ro), (1, .int (nI hd)), (2, .int (nI z)), (3, .int (nI w)), (4, .int (nI q)), (5, .long (lN (t)))]) hx hb dX12_sumOf_132 hl (by decide) rfl (fun ls hl => ?_)
        refine lv_iload hx hb dX12_sumOf_134 (lv_at hl 5 rfl) ?_
        refine nv_bipush (k := 17) hx hb dX12_sumOf_136 (by decide) ?_
        refine nv_icmp_ne (tgt := 151) hx hb dX12_sumOf_138 (by decide) (by omega) (by omega) (fun h138 => ?_) (fun h138 => ?_)
        · skip
          refine lv_iload hx hb dX12_sumOf_151 (lv_at hl 0 rfl) ?_
          exact hend ((congrArg nI (by subst_vars; simp only [tg_sum]; rw [show z - hd = k - hd by omega] at *; (repeat' split) <;> first | omega | simp_all))) dX12_sumOf_153
        refine lv_iload hx hb dX12_sumOf_141 (lv_at hl 0 rfl) ?_
        refine nv_if_ne (tgt := 151) hx hb dX12_sumOf_143 (by decide) (by omega) (fun h143 => ?_) (fun h143 => ?_)
        · skip
          refine lv_iload hx hb dX12_sumOf_151 (lv_at hl 0 rfl) ?_
          exact hend ((congrArg nI (by subst_vars; simp only [tg_sum]; rw [show z - hd = k - hd by omega] at *; (repeat' split) <;> first | omega | simp_all))) dX12_sumOf_153
        refine nv_ldc (k := 65535) hx hb hown (ht _ kw5_68) (by decide) dX12_sumOf_146 ?_
        refine lv_goto (tgt := 153) hx hb dX12_sumOf_148 (by decide) ?_
        exact hend ((congrArg nI (by subst_vars; simp only [tg_sum]; rw [show z - hd = k - hd by omega] at *; (repeat' split) <;> first | omega | simp_all))) dX12_sumOf_153
      refine lv_iload hx hb dX12_sumOf_69 (lv_at hl 6 rfl) ?_
      refine lv_iload_n hx hb dX12_sumOf_71 rfl (lv_at hl 3 rfl) ?_
      refine nv_icmp_eq (tgt := 83) hx hb dX12_sumOf_72 (by decide) (by omega) (by omega) (fun h72 => ?_) (fun h72 => ?_)
      · skip
        refine nv_iconst (k := 0) hx hb dX12_sumOf_83 rfl ?_
        refine lv_goto (tgt := 93) hx hb dX12_sumOf_84 (by decide) ?_
        refine lv_istore (lv' := [(8, .int (nI 0)), (0, .ref ro), (1, .int (nI hd)), (2, .int (nI z)), (3, .int (nI w)), (4, .int (nI q)), (5, .long (lN (t))), (7, .int (nI k))]) hx hb dX12_sumOf_93 hl (by decide) rfl (fun ls hl => ?_)
        refine lv_lload hx hb dX12_sumOf_95 (lv_at hl 6 rfl) ?_
        refine lv_iload hx hb dX12_sumOf_97 (lv_at hl 7 rfl) ?_
        refine lv_iload_n hx hb dX12_sumOf_99 rfl (lv_at hl 2 rfl) ?_
        refine nv_isub hx hb (by omega) dX12_sumOf_100 ?_
        refine nv_iconst (k := 2) hx hb dX12_sumOf_101 rfl ?_
        refine nv_irem hx hb (by omega) (by omega) (by omega) dX12_sumOf_102 ?_
        refine nv_if_ne (tgt := 115) hx hb dX12_sumOf_103 (by decide) (by omega) (fun h103 => ?_) (fun h103 => ?_)
        · skip
          refine lv_iload hx hb dX12_sumOf_115 (lv_at hl 0 rfl) ?_
          refine nv_i2l hx hb (by omega) dX12_sumOf_117 ?_
          refine nv_ladd hx hb dX12_sumOf_118 ?_
          refine lv_lstore (lv' := [(5, .long (lN (t + (0)))), (8, .int (nI 0)), (0, .ref ro), (1, .int (nI hd)), (2, .int (nI z)), (3, .int (nI w)), (4, .int (nI q)), (7, .int (nI k))]) hx hb dX12_sumOf_119 hl (by decide) rfl (fun ls hl => ?_)
          refine lv_iinc (v := (nI (k + 1))) (lv' := [(7, .int (nI (k + 1))), (5, .long (lN (t + (0)))), (8, .int (nI 0)), (0, .ref ro), (1, .int (nI hd)), (2, .int (nI z)), (3, .int (nI w)), (4, .int (nI q))]) hx hb dX12_sumOf_121 hl (k := 7) rfl (nI_inc _ _) (by decide) rfl (fun ls hl => ?_)
          refine lv_goto (tgt := 63) hx hb dX12_sumOf_124 (by decide) ?_
          exact ih (k + 1) (t + (0)) (by omega) (by omega) (by rw [hw0, show k + 1 - hd = (k - hd) + 1 by omega]; simp only [tg_ws]; rw [show hd + (k - hd) = k by omega]; (repeat' split) <;> omega) ls (lv_sub hl [3, 4, 5, 6, 7, 1, 0] rfl)
        refine lv_iload hx hb dX12_sumOf_106 (lv_at hl 0 rfl) ?_
        refine nv_bipush (k := 8) hx hb dX12_sumOf_108 (by decide) ?_
        refine nv_ishl hx hb (by omega) dX12_sumOf_110 ?_
        refine nv_i2l hx hb (by omega) dX12_sumOf_111 ?_
        refine lv_goto (tgt := 118) hx hb dX12_sumOf_112 (by decide) ?_
        refine nv_ladd hx hb dX12_sumOf_118 ?_
        refine lv_lstore (lv' := [(5, .long (lN (t + ((0) * 2 ^ 8)))), (8, .int (nI 0)), (0, .ref ro), (1, .int (nI hd)), (2, .int (nI z)), (3, .int (nI w)), (4, .int (nI q)), (7, .int (nI k))]) hx hb dX12_sumOf_119 hl (by decide) rfl (fun ls hl => ?_)
        refine lv_iinc (v := (nI (k + 1))) (lv' := [(7, .int (nI (k + 1))), (5, .long (lN (t + ((0) * 2 ^ 8)))), (8, .int (nI 0)), (0, .ref ro), (1, .int (nI hd)), (2, .int (nI z)), (3, .int (nI w)), (4, .int (nI q))]) hx hb dX12_sumOf_121 hl (k := 7) rfl (nI_inc _ _) (by decide) rfl (fun ls hl => ?_)
        refine lv_goto (tgt := 63) hx hb dX12_sumOf_124 (by decide) ?_
        exact ih (k + 1) (t + ((0) * 2 ^ 8)) (by omega) (by omega) (by rw [hw0, show k + 1 - hd = (k - hd) + 1 by omega]; simp only [tg_ws]; rw [show hd + (k - hd) = k by omega]; (repeat' split) <;> omega) ls (lv_sub hl [3, 4, 5, 6, 7, 1, 0] rfl)
      refine lv_iload hx hb dX12_sumOf_75 (lv_at hl 6 rfl) ?_
      refine lv_iload_n hx hb dX12_sumOf_77 rfl (lv_at hl 3 rfl) ?_
      refine nv_iconst (k := 1) hx hb dX12_sumOf_78 rfl ?_
      refine nv_iadd hx hb dX12_sumOf_79 ?_
      refine nv_icmp_ne (tgt := 87) hx hb dX12_sumOf_80 (by decide) (by omega) (by omega) (fun h80 => ?_) (fun h80 => ?_)
      · skip
        refine lv_aload_n hx hb dX12_sumOf_87 rfl (lv_at hl 0 rfl) ?_
        refine lv_iload hx hb dX12_sumOf_88 (lv_at hl 6 rfl) ?_
        refine ro_S S (c_X12_at hR (i := k) (by omega)) kw5_41 yv_X12_at ⟨Nat.le_of_ble_eq_true rfl, Nat.le_of_ble_eq_true rfl⟩ hK hP rfl hl.1 rfl (Nat.le_of_ble_eq_true rfl) dX12_sumOf_90 ⟨Nat.zero_le _, Nat.zero_le _⟩ ?_
        have hq90 := tg_rd_lt f n k
        refine lv_istore (lv' := [(8, .int (nI (tg_rd f n k))), (0, .ref ro), (1, .int (nI hd)), (2, .int (nI z)), (3, .int (nI w)), (4, .int (nI q)), (5, .long (lN (t))), (7, .int (nI k))]) hx hb dX12_sumOf_93 hl (by decide) rfl (fun ls hl => ?_)
        refine lv_lload hx hb dX12_sumOf_95 (lv_at hl 6 rfl) ?_
        refine lv_iload hx hb dX12_sumOf_97 (lv_at hl 7 rfl) ?_
        refine lv_iload_n hx hb dX12_sumOf_99 rfl (lv_at hl 2 rfl) ?_
        refine nv_isub hx hb (by omega) dX12_sumOf_100 ?_
        refine nv_iconst (k := 2) hx hb dX12_sumOf_101 rfl ?_
        refine nv_irem hx hb (by omega) (by omega) (by omega) dX12_sumOf_102 ?_
        refine nv_if_ne (tgt := 115) hx hb dX12_sumOf_103 (by decide) (by omega) (fun h103 => ?_) (fun h103 => ?_)
        · skip
          refine lv_iload hx hb dX12_sumOf_115 (lv_at hl 0 rfl) ?_
          refine nv_i2l hx hb (by omega) dX12_sumOf_117 ?_
          refine nv_ladd hx hb dX12_sumOf_118 ?_
          refine lv_lstore (lv' := [(5, .long (lN (t + (tg_rd f n k)))), (8, .int (nI (tg_rd f n k))), (0, .ref ro), (1, .int (nI hd)), (2, .int (nI z)), (3, .int (nI w)), (4, .int (nI q)), (7, .int (nI k))]) hx hb dX12_sumOf_119 hl (by decide) rfl (fun ls hl => ?_)
          refine lv_iinc (v := (nI (k + 1))) (lv' := [(7, .int (nI (k + 1))), (5, .long (lN (t + (tg_rd f n k)))), (8, .int (nI (tg_rd f n k))), (0, .ref ro), (1, .int (nI hd)), (2, .int (nI z)), (3, .int (nI w)), (4, .int (nI q))]) hx hb dX12_sumOf_121 hl (k := 7) rfl (nI_inc _ _) (by decide) rfl (fun ls hl => ?_)
          refine lv_goto (tgt := 63) hx hb dX12_sumOf_124 (by decide) ?_
          exact ih (k + 1) (t + (tg_rd f n k)) (by omega) (by omega) (by rw [hw0, show k + 1 - hd = (k - hd) + 1 by omega]; simp only [tg_ws]; rw [show hd + (k - hd) = k by omega]; (repeat' split) <;> omega) ls (lv_sub hl [3, 4, 5, 6, 7, 1, 0] rfl)
        refine lv_iload hx hb dX12_sumOf_106 (lv_at hl 0 rfl) ?_
        refine nv_bipush (k := 8) hx hb dX12_sumOf_108 (by decide) ?_
        refine nv_ishl hx hb (by omega) dX12_sumOf_110 ?_
        refine nv_i2l hx hb (by omega) dX12_sumOf_111 ?_
        refine lv_goto (tgt := 118) hx hb dX12_sumOf_112 (by decide) ?_
        refine nv_ladd hx hb dX12_sumOf_118 ?_
        refine lv_lstore (lv' := [(5, .long (lN (t + ((tg_rd f n k) * 2 ^ 8)))), (8, .int (nI (tg_rd f n k))), (0, .ref ro), (1, .int (nI hd)), (2, .int (nI z)), (3, .int (nI w)), (4, .int (nI q)), (7, .int (nI k))]) hx hb dX12_sumOf_119 hl (by decide) rfl (fun ls hl => ?_)
        refine lv_iinc (v := (nI (k + 1))) (lv' := [(7, .int (nI (k + 1))), (5, .long (lN (t + ((tg_rd f n k) * 2 ^ 8)))), (8, .int (nI (tg_rd f n k))), (0, .ref ro), (1, .int (nI hd)), (2, .int (nI z)), (3, .int (nI w)), (4, .int (nI q))]) hx hb dX12_sumOf_121 hl (k := 7) rfl (nI_inc _ _) (by decide) rfl (fun ls hl => ?_)
        refine lv_goto (tgt := 63) hx hb dX12_sumOf_124 (by decide) ?_
        exact ih (k + 1) (t + ((tg_rd f n k) * 2 ^ 8)) (by omega) (by omega) (by rw [hw0, show k + 1 - hd = (k - hd) + 1 by omega]; simp only [tg_ws]; rw [show hd + (k - hd) = k by omega]; (repeat' split) <;> omega) ls (lv_sub hl [3, 4, 5, 6, 7, 1, 0] rfl)
      refine nv_iconst (k := 0) hx hb dX12_sumOf_83 rfl ?_
      refine lv_goto (tgt := 93) hx hb dX12_sumOf_84 (by decide) ?_
      refine lv_istore (lv' := [(8, .int (nI 0)), (0, .ref ro), (1, .int (nI hd)), (2, .int (nI z)), (3, .int (nI w)), (4, .int (nI q)), (5, .long (lN (t))), (7, .int (nI k))]) hx hb dX12_sumOf_93 hl (by decide) rfl (fun ls hl => ?_)
      refine lv_lload hx hb dX12_sumOf_95 (lv_at hl 6 rfl) ?_
      refine lv_iload hx hb dX12_sumOf_97 (lv_at hl 7 rfl) ?_
      refine lv_iload_n hx hb dX12_sumOf_99 rfl (lv_at hl 2 rfl) ?_
      refine nv_isub hx hb (by omega) dX12_sumOf_100 ?_
      refine nv_iconst (k := 2) hx hb dX12_sumOf_101 rfl ?_
      refine nv_irem hx hb (by omega) (by omega) (by omega) dX12_sumOf_102 ?_
      refine nv_if_ne (tgt := 115) hx hb dX12_sumOf_103 (by decide) (by omega) (fun h103 => ?_) (fun h103 => ?_)
      · skip
        refine lv_iload hx hb dX12_sumOf_115 (lv_at hl 0 rfl) ?_
        refine nv_i2l hx hb (by omega) dX12_sumOf_117 ?_
        refine nv_ladd hx hb dX12_sumOf_118 ?_
        refine lv_lstore (lv' := [(5, .long (lN (t + (0)))), (8, .int (nI 0)), (0, .ref ro), (1, .int (nI hd)), (2, .int (nI z)), (3, .int (nI w)), (4, .int (nI q)), (7, .int (nI k))]) hx hb dX12_sumOf_119 hl (by decide) rfl (fun ls hl => ?_)
        refine lv_iinc (v := (nI (k + 1))) (lv' := [(7, .int (nI (k + 1))), (5, .long (lN (t + (0)))), (8, .int (nI 0)), (0, .ref ro), (1, .int (nI hd)), (2, .int (nI z)), (3, .int (nI w)), (4, .int (nI q))]) hx hb dX12_sumOf_121 hl (k := 7) rfl (nI_inc _ _) (by decide) rfl (fun ls hl => ?_)
        refine lv_goto (tgt := 63) hx hb dX12_sumOf_124 (by decide) ?_
        exact ih (k + 1) (t + (0)) (by omega) (by omega) (by rw [hw0, show k + 1 - hd = (k - hd) + 1 by omega]; simp only [tg_ws]; rw [show hd + (k - hd) = k by omega]; (repeat' split) <;> omega) ls (lv_sub hl [3, 4, 5, 6, 7, 1, 0] rfl)
      refine lv_iload hx hb dX12_sumOf_106 (lv_at hl 0 rfl) ?_
      refine nv_bipush (k := 8) hx hb dX12_sumOf_108 (by decide) ?_
      refine nv_ishl hx hb (by omega) dX12_sumOf_110 ?_
      refine nv_i2l hx hb (by omega) dX12_sumOf_111 ?_
      refine lv_goto (tgt := 118) hx hb dX12_sumOf_112 (by decide) ?_
      refine nv_ladd hx hb dX12_sumOf_118 ?_
      refine lv_lstore (lv' := [(5, .long (lN (t + ((0) * 2 ^ 8)))), (8, .int (nI 0)), (0, .ref ro), (1, .int (nI hd)), (2, .int (nI z)), (3, .int (nI w)), (4, .int (nI q)), (7, .int (nI k))]) hx hb dX12_sumOf_119 hl (by decide) rfl (fun ls hl => ?_)
      refine lv_iinc (v := (nI (k + 1))) (lv' := [(7, .int (nI (k + 1))), (5, .long (lN (t + ((0) * 2 ^ 8)))), (8, .int (nI 0)), (0, .ref ro), (1, .int (nI hd)), (2, .int (nI z)), (3, .int (nI w)), (4, .int (nI q))]) hx hb dX12_sumOf_121 hl (k := 7) rfl (nI_inc _ _) (by decide) rfl (fun ls hl => ?_)
      refine lv_goto (tgt := 63) hx hb dX12_sumOf_124 (by decide) ?_
      exact ih (k + 1) (t + ((0) * 2 ^ 8)) (by omega) (by omega) (by rw [hw0, show k + 1 - hd = (k - hd) + 1 by omega]; simp only [tg_ws]; rw [show hd + (k - hd) = k by omega]; (repeat' split) <;> omega) ls (lv_sub hl [3, 4, 5, 6, 7, 1, 0] rfl)
  refine lv_iload_n hx hb dX12_sumOf_3 rfl (lv_at hl 2 rfl) ?_
  refine nv_bipush (k := 40) hx hb dX12_sumOf_4 (by decide) ?_
  refine nv_icmp_ne (tgt := 33) hx hb dX12_sumOf_6 (by decide) (by omega) (by omega) (fun h6 => ?_) (fun h6 => ?_)
  · skip
    refine lv_iload hx hb dX12_sumOf_33 (lv_at hl 5 rfl) ?_
    refine nv_iconst (k := 1) hx hb dX12_sumOf_35 rfl ?_
    refine nv_icmp_eq (tgt := 60) hx hb dX12_sumOf_36 (by decide) (by omega) (by omega) (fun h36 => ?_) (fun h36 => ?_)
    · skip
      refine lv_iload_n hx hb dX12_sumOf_60 rfl (lv_at hl 2 rfl) ?_
      refine lv_istore (lv' := [(7, .int (nI hd)), (5, .long (lN (0))), (0, .ref ro), (1, .int (nI hd)), (2, .int (nI z)), (3, .int (nI w)), (4, .int (nI q))]) hx hb dX12_sumOf_61 hl (by decide) rfl (fun ls hl => ?_)
      exact L63 (z + 1) hd (0) (by omega) (by omega) (by rw [Nat.sub_self, show tg_ws (tg_rd f n) hd w 0 = 0 from rfl]; simp only [tg_pre]; first | (rw [if_pos (by assumption)]; omega) | (rw [if_neg (by assumption), if_pos (by assumption)]; done) | (rw [if_neg (by assumption), if_neg (by assumption)]; omega)) ls (lv_sub hl [2, 3, 4, 5, 6, 1, 0] rfl)
    refine lv_aload_n hx hb dX12_sumOf_39 rfl (lv_at hl 1 rfl) ?_
    refine nv_bipush (k := 12) hx hb dX12_sumOf_40 (by decide) ?_
    refine nv_bipush (k := 20) hx hb dX12_sumOf_42 (by decide) ?_
    refine lv_iconst (v := -1) hx hb dX12_sumOf_44 (by decide) ?_
    refine ro_S S (c_X12_words hR (a := 12) (m0 := 4) (z := 20) (K := 8) (sk := -1) (sk_m1 (by omega) (by omega)) (fun j hj => by omega) (fun j hj => by omega) (by omega) rfl) kw5_61 yv_X12_words ⟨Nat.le_of_ble_eq_true rfl, Nat.le_of_ble_eq_true rfl⟩ hK hP rfl hl.1 rfl (Nat.le_of_ble_eq_true rfl) dX12_sumOf_45 ⟨Nat.zero_le _, Nat.zero_le _⟩ ?_
    have hq45 := tg_ws_le f n 12 20 8
    refine lv_iload_n hx hb dX12_sumOf_48 rfl (lv_at hl 3 rfl) ?_
    refine nv_i2l hx hb (by omega) dX12_sumOf_49 ?_
    refine nv_ladd hx hb dX12_sumOf_50 ?_
    refine lv_iload_n hx hb dX12_sumOf_51 rfl (lv_at hl 2 rfl) ?_
    refine nv_i2l hx hb (by omega) dX12_sumOf_52 ?_
    refine nv_lsub hx hb (by omega) dX12_sumOf_53 ?_
    refine lv_iload hx hb dX12_sumOf_54 (lv_at hl 5 rfl) ?_
    refine nv_i2l hx hb (by omega) dX12_sumOf_56 ?_
    refine nv_ladd hx hb dX12_sumOf_57 ?_
    refine lv_lstore (lv' := [(5, .long (lN ((tg_ws (tg_rd f n) 12 20 8 + (z)) - hd + (q)))), (0, .ref ro), (1, .int (nI hd)), (2, .int (nI z)), (3, .int (nI w)), (4, .int (nI q))]) hx hb dX12_sumOf_58 hl (by decide) rfl (fun ls hl => ?_)
    refine lv_iload_n hx hb dX12_sumOf_60 rfl (lv_at hl 2 rfl) ?_
    refine lv_istore (lv' := [(7, .int (nI hd)), (5, .long (lN ((tg_ws (tg_rd f n) 12 20 8 + (z)) - hd + (q)))), (0, .ref ro), (1, .int (nI hd)), (2, .int (nI z)), (3, .int (nI w)), (4, .int (nI q))]) hx hb dX12_sumOf_61 hl (by decide) rfl (fun ls hl => ?_)
    exact L63 (z + 1) hd ((tg_ws (tg_rd f n) 12 20 8 + (z)) - hd + (q)) (by omega) (by omega) (by rw [Nat.sub_self, show tg_ws (tg_rd f n) hd w 0 = 0 from rfl]; simp only [tg_pre]; first | (rw [if_pos (by assumption)]; omega) | (rw [if_neg (by assumption), if_pos (by assumption)]; done) | (rw [if_neg (by assumption), if_neg (by assumption)]; omega)) ls (lv_sub hl [2, 3, 4, 5, 6, 1, 0] rfl)
  refine lv_aload_n hx hb dX12_sumOf_9 rfl (lv_at hl 1 rfl) ?_
  refine nv_bipush (k := 8) hx hb dX12_sumOf_10 (by decide) ?_
  refine nv_bipush (k := 40) hx hb dX12_sumOf_12 (by decide) ?_
  refine lv_iconst (v := -1) hx hb dX12_sumOf_14 (by decide) ?_
  refine ro_S S (c_X12_words hR (a := 8) (m0 := 16) (z := 40) (K := 32) (sk := -1) (sk_m1 (by omega) (by omega)) (fun j hj => by omega) (fun j hj => by omega) (by omega) rfl) kw5_61 yv_X12_words ⟨Nat.le_of_ble_eq_true rfl, Nat.le_of_ble_eq_true rfl⟩ hK hP rfl hl.1 rfl (Nat.le_of_ble_eq_true rfl) dX12_sumOf_15 ⟨Nat.zero_le _, Nat.zero_le _⟩ ?_
  have hq15 := tg_ws_le f n 8 40 32
  refine lv_iload_n hx hb dX12_sumOf_18 rfl (lv_at hl 3 rfl) ?_
  refine nv_i2l hx hb (by omega) dX12_sumOf_19 ?_
  refine nv_ladd hx hb dX12_sumOf_20 ?_
  refine lv_iload_n hx hb dX12_sumOf_21 rfl (lv_at hl 2 rfl) ?_
  refine nv_i2l hx hb (by omega) dX12_sumOf_22 ?_
  refine nv_lsub hx hb (by omega) dX12_sumOf_23 ?_
  refine lv_iload hx hb dX12_sumOf_24 (lv_at hl 5 rfl) ?_
  refine nv_i2l hx hb (by omega) dX12_sumOf_26 ?_
  refine nv_ladd hx hb dX12_sumOf_27 ?_
  refine lv_lstore (lv' := [(5, .long (lN ((tg_ws (tg_rd f n) 8 40 32 + (z)) - hd + (q)))), (0, .ref ro), (1, .int (nI hd)), (2, .int (nI z)), (3, .int (nI w)), (4, .int (nI q))]) hx hb dX12_sumOf_28 hl (by decide) rfl (fun ls hl => ?_)
  refine lv_goto (tgt := 60) hx hb dX12_sumOf_30 (by decide) ?_
  refine lv_iload_n hx hb dX12_sumOf_60 rfl (lv_at hl 2 rfl) ?_
  refine lv_istore (lv' := [(7, .int (nI hd)), (5, .long (lN ((tg_ws (tg_rd f n) 8 40 32 + (z)) - hd + (q)))), (0, .ref ro), (1, .int (nI hd)), (2, .int (nI z)), (3, .int (nI w)), (4, .int (nI q))]) hx hb dX12_sumOf_61 hl (by decide) rfl (fun ls hl => ?_)
  exact L63 (z + 1) hd ((tg_ws (tg_rd f n) 8 40 32 + (z)) - hd + (q)) (by omega) (by omega) (by rw [Nat.sub_self, show tg_ws (tg_rd f n) hd w 0 = 0 from rfl]; simp only [tg_pre]; first | (rw [if_pos (by assumption)]; omega) | (rw [if_neg (by assumption), if_pos (by assumption)]; done) | (rw [if_neg (by assumption), if_neg (by assumption)]; omega)) ls (lv_sub hl [2, 3, 4, 5, 6, 1, 0] rfl)
