theorem dJx4a65c_size_8abf5_0 : decode cJx4a65c_size_8abf5 0 = .ok (.aload_n 0, 1) := by decide +kernel
theorem dJx4a65c_size_8abf5_1 : decode cJx4a65c_size_8abf5 1 = .ok (.getfield 48, 3) := by decide +kernel
theorem dJx4a65c_size_8abf5_4 : decode cJx4a65c_size_8abf5 4 = .ok (.ireturn, 1) := by decide +kernel
theorem yv_Jx4a65c_size_8abf5 : YV RJx4a65c yJx4a65c_size_8abf5 cJx4a65c_size_8abf5 1 (some .int) 0 := ⟨kw2_158, kw2_159, kw1_9, kw2_160, by decide +kernel⟩
set_option maxHeartbeats 4000000 in
set_option maxRecDepth 100000 in
theorem c_Jx4a65c_size_8abf5 {l : Launch} {D : va_G} {cy : Nat → ClassId} {ws : va_W} {kl q ea n : Nat} {mo : Int32} (hL : ws[kl]? = some (aL q mo ea n)) : RO l yJx4a65c_size_8abf5 cJx4a65c_size_8abf5 1 (some .int) 0 0 [.ref q] D cy ws (.int (nI n)) := by
  refine ROi (by decide) (lv0 := [(0, .ref q)]) rfl (Nat.le_of_ble_eq_true rfl) ?_
  intro p e s m args below meth c ls Q S hP hK hend hl
  have hx := S.1
  have hb := S.2.1
  have hown : s.vm.findClass RJx4a65c = some m.cls := S.2.2.2.1
  have ht : ∀ w ∈ lw_g, w.before args s = true := fun w h => S.2.2.2.2 w (List.mem_cons_of_mem _ h)
  refine lv_aload_n hx hb dJx4a65c_size_8abf5_0 rfl (lv_at hl 0 rfl) ?_
  refine va_get (ci := 0) (C := RJx4a65c) (T := TJx4a65c) (N := 3) hx hb ht iFJx4a65c hown hK hP kl hL rfl 2 (by decide) (ht _ kw1_102) (fun _ h9 => h9) rfl dJx4a65c_size_8abf5_1 ?_
  exact hend (rfl) dJx4a65c_size_8abf5_4
theorem dJ3_checkIndex_8e157_0 : decode cJ3_checkIndex_8e157 0 = .ok (.iload_n 0, 1) := by decide +kernel
theorem dJ3_checkIndex_8e157_1 : decode cJ3_checkIndex_8e157 1 = .ok (.ifCond .lt 8, 3) := by decide +kernel
theorem dJ3_checkIndex_8e157_4 : decode cJ3_checkIndex_8e157 4 = .ok (.iload_n 0, 1) := by decide +kernel
theorem dJ3_checkIndex_8e157_5 : decode cJ3_checkIndex_8e157 5 = .ok (.iload_n 1, 1) := by decide +kernel
theorem dJ3_checkIndex_8e157_6 : decode cJ3_checkIndex_8e157 6 = .ok (.if_icmp .lt 10, 3) := by decide +kernel
theorem dJ3_checkIndex_8e157_9 : decode cJ3_checkIndex_8e157 9 = .ok (.aload_n 2, 1) := by decide +kernel
theorem dJ3_checkIndex_8e157_10 : decode cJ3_checkIndex_8e157 10 = .ok (.iload_n 0, 1) := by decide +kernel
theorem dJ3_checkIndex_8e157_11 : decode cJ3_checkIndex_8e157 11 = .ok (.iload_n 1, 1) := by decide +kernel
theorem dJ3_checkIndex_8e157_12 : decode cJ3_checkIndex_8e157 12 = .ok (.invokestatic 95, 3) := by decide +kernel
theorem dJ3_checkIndex_8e157_15 : decode cJ3_checkIndex_8e157 15 = .ok (.athrow, 1) := by decide +kernel
theorem dJ3_checkIndex_8e157_16 : decode cJ3_checkIndex_8e157 16 = .ok (.iload_n 0, 1) := by decide +kernel
theorem dJ3_checkIndex_8e157_17 : decode cJ3_checkIndex_8e157 17 = .ok (.ireturn, 1) := by decide +kernel
theorem yv_J3_checkIndex_8e157 : YS yJ3_checkIndex_8e157 cJ3_checkIndex_8e157 3 (some .int) 3 := ⟨kw2_169, kw1_16, kw2_170, by decide +kernel⟩
set_option maxHeartbeats 4000000 in
set_option maxRecDepth 100000 in
theorem c_J3_checkIndex_8e157 {l : Launch} {D : va_G} {cy : Nat → ClassId} {ws : va_W} {i n : Nat} (hi : i < n) (hn : n < 2 ^ 31) : RO l yJ3_checkIndex_8e157 cJ3_checkIndex_8e157 3 (some .int) 0 0 [.int (nI i), .int (nI n), .null] D cy ws (.int (nI i)) := by
  refine ROi (by decide) (lv0 := [(0, .int (nI i)), (1, .int (nI n)), (2, .null)]) rfl (Nat.le_of_ble_eq_true rfl) ?_
  intro p e s m args below meth c ls Q S hP hK hend hl
  have hx := S.1
  have hb := S.2.1
  have hown : s.vm.findClass RJ3 = some m.cls := S.2.2.2.1
  have ht : ∀ w ∈ lw_g, w.before args s = true := fun w h => S.2.2.2.2 w (List.mem_cons_of_mem _ h)
  refine lv_iload_n hx hb dJ3_checkIndex_8e157_0 rfl (lv_at hl 0 rfl) ?_
  refine nv_if_lt (tgt := 9) hx hb dJ3_checkIndex_8e157_1 (by decide) (by omega) ?_
  refine lv_iload_n hx hb dJ3_checkIndex_8e157_4 rfl (lv_at hl 0 rfl) ?_
  refine lv_iload_n hx hb dJ3_checkIndex_8e157_5 rfl (lv_at hl 1 rfl) ?_
  refine nv_icmp_lt (tgt := 16) hx hb dJ3_checkIndex_8e157_6 (by decide) (by omega) (by omega) (fun h6 => ?_) (fun h6 => ?_)
  · skip
    refine lv_iload_n hx hb dJ3_checkIndex_8e157_16 rfl (lv_at hl 0 rfl) ?_
    exact hend (rfl) dJ3_checkIndex_8e157_17
  exact absurd h6 (by omega)
theorem dJ15_checkIndex_7cf53_0 : decode cJ15_checkIndex_7cf53 0 = .ok (.iload_n 0, 1) := by decide +kernel
theorem dJ15_checkIndex_7cf53_1 : decode cJ15_checkIndex_7cf53 1 = .ok (.iload_n 1, 1) := by decide +kernel
theorem dJ15_checkIndex_7cf53_2 : decode cJ15_checkIndex_7cf53 2 = .ok (.aconst_null, 1) := by decide +kernel
theorem dJ15_checkIndex_7cf53_3 : decode cJ15_checkIndex_7cf53 3 = .ok (.invokestatic 105, 3) := by decide +kernel
theorem dJ15_checkIndex_7cf53_6 : decode cJ15_checkIndex_7cf53 6 = .ok (.ireturn, 1) := by decide +kernel
theorem yv_J15_checkIndex_7cf53 : YS yJ15_checkIndex_7cf53 cJ15_checkIndex_7cf53 2 (some .int) 2 := ⟨kw2_166, kw1_15, kw2_167, by decide +kernel⟩
set_option maxHeartbeats 4000000 in
set_option maxRecDepth 100000 in
theorem c_J15_checkIndex_7cf53 {l : Launch} {D : va_G} {cy : Nat → ClassId} {ws : va_W} {i n : Nat} (hi : i < n) (hn : n < 2 ^ 31) : RO l yJ15_checkIndex_7cf53 cJ15_checkIndex_7cf53 2 (some .int) 1 22 [.int (nI i), .int (nI n)] D cy ws (.int (nI i)) := by
  refine ROi (by decide) (lv0 := [(0, .int (nI i)), (1, .int (nI n))]) rfl (Nat.le_of_ble_eq_true rfl) ?_
  intro p e s m args below meth c ls Q S hP hK hend hl
  have hx := S.1
  have hb := S.2.1
  have hown : s.vm.findClass RJ15 = some m.cls := S.2.2.2.1
  have ht : ∀ w ∈ lw_g, w.before args s = true := fun w h => S.2.2.2.2 w (List.mem_cons_of_mem _ h)
  refine lv_iload_n hx hb dJ15_checkIndex_7cf53_0 rfl (lv_at hl 0 rfl) ?_
  refine lv_iload_n hx hb dJ15_checkIndex_7cf53_1 rfl (lv_at hl 1 rfl) ?_
  refine lv_null hx hb dJ15_checkIndex_7cf53_2 ?_
  refine ro_S S (c_J3_checkIndex_8e157 (i := i) (n := n) (by omega) (by omega)) kw2_168 yv_J3_checkIndex_8e157 ⟨Nat.le_of_ble_eq_true rfl, Nat.le_of_ble_eq_true rfl⟩ hK hP rfl hl.1 rfl (Nat.le_of_ble_eq_true rfl) dJ15_checkIndex_7cf53_3 ⟨Nat.zero_le _, Nat.zero_le _⟩ ?_
  exact hend (rfl) dJ15_checkIndex_7cf53_6
theorem dJx4a65c_elementData_915e3_0 : decode cJx4a65c_elementData_915e3 0 = .ok (.aload_n 0, 1) := by decide +kernel
theorem dJx4a65c_elementData_915e3_1 : decode cJx4a65c_elementData_915e3 1 = .ok (.getfield 9, 3) := by decide +kernel
theorem dJx4a65c_elementData_915e3_4 : decode cJx4a65c_elementData_915e3 4 = .ok (.iload_n 1, 1) := by decide +kernel
theorem dJx4a65c_elementData_915e3_5 : decode cJx4a65c_elementData_915e3 5 = .ok (.aaload, 1) := by decide +kernel
theorem dJx4a65c_elementData_915e3_6 : decode cJx4a65c_elementData_915e3 6 = .ok (.areturn, 1) := by decide +kernel
theorem yv_Jx4a65c_elementData_915e3 : YV RJx4a65c yJx4a65c_elementData_915e3 cJx4a65c_elementData_915e3 2 (some (.object "java/lang/Object")) 1 := ⟨kw2_172, kw2_173, kw1_9, kw2_174, by decide +kernel⟩
set_option maxHeartbeats 4000000 in
set_option maxRecDepth 100000 in
theorem c_Jx4a65c_elementData_915e3 {l : Launch} {D : va_G} {cy : Nat → ClassId} {ws : va_W} {kl q ea n : Nat} {mo : Int32} (hL : ws[kl]? = some (aL q mo ea n)) {ka N : Nat} {f : Nat → Option Nat} (hAr : ws[ka]? = some (aQ cy ea N f)) (hnN : n ≤ N) (hN : N ≤ 300) {i : Nat} (hi : i < N) : RO l yJx4a65c_elementData_915e3 cJx4a65c_elementData_915e3 2 (some (.object "java/lang/Object")) 0 0 [.ref q, .int (nI i)] D cy ws (va_rf (f i)) := by
  refine ROr (by first | exact Or.inl ⟨_, rfl⟩ | exact Or.inr ⟨_, rfl⟩) (by decide) (lv0 := [(0, .ref q), (1, .int (nI i))]) rfl (Nat.le_of_ble_eq_true rfl) ?_
  intro p e s m args below meth c ls Q S hP hK hend hl
  have hx := S.1
  have hb := S.2.1
  have hown : s.vm.findClass RJx4a65c = some m.cls := S.2.2.2.1
  have ht : ∀ w ∈ lw_g, w.before args s = true := fun w h => S.2.2.2.2 w (List.mem_cons_of_mem _ h)
  refine lv_aload_n hx hb dJx4a65c_elementData_915e3_0 rfl (lv_at hl 0 rfl) ?_
  refine va_get (ci := 0) (C := RJx4a65c) (T := TJx4a65c) (N := 3) hx hb ht iFJx4a65c hown hK hP kl hL rfl 1 (by decide) (ht _ kw1_101) (fun _ h9 => h9) rfl dJx4a65c_elementData_915e3_1 ?_
  refine lv_iload_n hx hb dJx4a65c_elementData_915e3_4 rfl (lv_at hl 1 rfl) ?_
  refine nv_qald hx hb hK hP ka hAr (by omega) (by omega) dJx4a65c_elementData_915e3_5 ?_
  exact hend (rfl) dJx4a65c_elementData_915e3_6
theorem dJx4a65c_get_915e3_0 : decode cJx4a65c_get_915e3 0 = .ok (.iload_n 1, 1) := by decide +kernel
theorem dJx4a65c_get_915e3_1 : decode cJx4a65c_get_915e3 1 = .ok (.aload_n 0, 1) := by decide +kernel
theorem dJx4a65c_get_915e3_2 : decode cJx4a65c_get_915e3 2 = .ok (.getfield 48, 3) := by decide +kernel
theorem dJx4a65c_get_915e3_5 : decode cJx4a65c_get_915e3 5 = .ok (.invokestatic 118, 3) := by decide +kernel
theorem dJx4a65c_get_915e3_8 : decode cJx4a65c_get_915e3 8 = .ok (.pop, 1) := by decide +kernel
theorem dJx4a65c_get_915e3_9 : decode cJx4a65c_get_915e3 9 = .ok (.aload_n 0, 1) := by decide +kernel
theorem dJx4a65c_get_915e3_10 : decode cJx4a65c_get_915e3 10 = .ok (.iload_n 1, 1) := by decide +kernel
theorem dJx4a65c_get_915e3_11 : decode cJx4a65c_get_915e3 11 = .ok (.invokevirtual 123, 3) := by decide +kernel
theorem dJx4a65c_get_915e3_14 : decode cJx4a65c_get_915e3 14 = .ok (.areturn, 1) := by decide +kernel
theorem yv_Jx4a65c_get_915e3 : YV RJx4a65c yJx4a65c_get_915e3 cJx4a65c_get_915e3 2 (some (.object "java/lang/Object")) 1 := ⟨kw2_162, kw2_163, kw1_9, kw2_164, by decide +kernel⟩
set_option maxHeartbeats 4000000 in
set_option maxRecDepth 100000 in
theorem c_Jx4a65c_get_915e3 {l : Launch} {D : va_G} {cy : Nat → ClassId} {ws : va_W} {kl q ea n : Nat} {mo : Int32} (hL : ws[kl]? = some (aL q mo ea n)) {ka N : Nat} {f : Nat → Option Nat} (hAr : ws[ka]? = some (aQ cy ea N f)) (hnN : n ≤ N) (hN : N ≤ 300) {i : Nat} (hi : i < n) : RO l yJx4a65c_get_915e3 cJx4a65c_get_915e3 2 (some (.object "java/lang/Object")) 2 43 [.ref q, .int (nI i)] D cy ws (va_rf (f i)) := by
  refine ROr (by first | exact Or.inl ⟨_, rfl⟩ | exact Or.inr ⟨_, rfl⟩) (by decide) (lv0 := [(0, .ref q), (1, .int (nI i))]) rfl (Nat.le_of_ble_eq_true rfl) ?_
  intro p e s m args below meth c ls Q S hP hK hend hl
  have hx := S.1
  have hb := S.2.1
  have hown : s.vm.findClass RJx4a65c = some m.cls := S.2.2.2.1
  have ht : ∀ w ∈ lw_g, w.before args s = true := fun w h => S.2.2.2.2 w (List.mem_cons_of_mem _ h)
  refine lv_iload_n hx hb dJx4a65c_get_915e3_0 rfl (lv_at hl 1 rfl) ?_
  refine lv_aload_n hx hb dJx4a65c_get_915e3_1 rfl (lv_at hl 0 rfl) ?_
  refine va_get (ci := 0) (C := RJx4a65c) (T := TJx4a65c) (N := 3) hx hb ht iFJx4a65c hown hK hP kl hL rfl 2 (by decide) (ht _ kw1_102) (fun _ h9 => h9) rfl dJx4a65c_get_915e3_2 ?_
  refine ro_S S (c_J15_checkIndex_7cf53 (i := i) (n := n) (by omega) (by omega)) kw2_165 yv_J15_checkIndex_7cf53 ⟨Nat.le_of_ble_eq_true rfl, Nat.le_of_ble_eq_true rfl⟩ hK hP rfl hl.1 rfl (Nat.le_of_ble_eq_true rfl) dJx4a65c_get_915e3_5 ⟨Nat.zero_le _, Nat.zero_le _⟩ ?_
  refine lv_pop hx hb dJx4a65c_get_915e3_8 rfl ?_
  refine lv_aload_n hx hb dJx4a65c_get_915e3_9 rfl (lv_at hl 0 rfl) ?_
  refine lv_iload_n hx hb dJx4a65c_get_915e3_10 rfl (lv_at hl 1 rfl) ?_
  refine ro_V S (c_Jx4a65c_elementData_915e3 hL hAr (by omega) (by omega) (i := i) (by omega)) kw2_171 yv_Jx4a65c_elementData_915e3 ⟨Nat.le_of_ble_eq_true rfl, Nat.le_of_ble_eq_true rfl⟩ hK hP (va_recv hK hP (ci := 0) (q0 := kl) rfl hL) rfl hl.1 rfl (Nat.le_of_ble_eq_true rfl) dJx4a65c_get_915e3_11 ⟨Nat.zero_le _, Nat.zero_le _⟩ ?_
  exact hend (rfl) dJx4a65c_get_915e3_14
theorem dJx4a65c_clear_da8c8_0 : decode cJx4a65c_clear_da8c8 0 = .ok (.aload_n 0, 1) := by decide +kernel
theorem dJx4a65c_clear_da8c8_1 : decode cJx4a65c_clear_da8c8 1 = .ok (.dup, 1) := by decide +kernel
theorem dJx4a65c_clear_da8c8_2 : decode cJx4a65c_clear_da8c8 2 = .ok (.getfield 63, 3) := by decide +kernel
theorem dJx4a65c_clear_da8c8_5 : decode cJx4a65c_clear_da8c8 5 = .ok (.iconst 1, 1) := by decide +kernel
theorem dJx4a65c_clear_da8c8_6 : decode cJx4a65c_clear_da8c8 6 = .ok (.iadd, 1) := by decide +kernel
theorem dJx4a65c_clear_da8c8_7 : decode cJx4a65c_clear_da8c8 7 = .ok (.putfield 63, 3) := by decide +kernel
theorem dJx4a65c_clear_da8c8_10 : decode cJx4a65c_clear_da8c8 10 = .ok (.aload_n 0, 1) := by decide +kernel
theorem dJx4a65c_clear_da8c8_11 : decode cJx4a65c_clear_da8c8 11 = .ok (.getfield 9, 3) := by decide +kernel
theorem dJx4a65c_clear_da8c8_14 : decode cJx4a65c_clear_da8c8 14 = .ok (.astore_n 1, 1) := by decide +kernel
theorem dJx4a65c_clear_da8c8_15 : decode cJx4a65c_clear_da8c8 15 = .ok (.aload_n 0, 1) := by decide +kernel
theorem dJx4a65c_clear_da8c8_16 : decode cJx4a65c_clear_da8c8 16 = .ok (.getfield 48, 3) := by decide +kernel
theorem dJx4a65c_clear_da8c8_19 : decode cJx4a65c_clear_da8c8 19 = .ok (.istore_n 2, 1) := by decide +kernel
theorem dJx4a65c_clear_da8c8_20 : decode cJx4a65c_clear_da8c8 20 = .ok (.aload_n 0, 1) := by decide +kernel
theorem dJx4a65c_clear_da8c8_21 : decode cJx4a65c_clear_da8c8 21 = .ok (.iconst 0, 1) := by decide +kernel
theorem dJx4a65c_clear_da8c8_22 : decode cJx4a65c_clear_da8c8 22 = .ok (.dup_x1, 1) := by decide +kernel
theorem dJx4a65c_clear_da8c8_23 : decode cJx4a65c_clear_da8c8 23 = .ok (.putfield 48, 3) := by decide +kernel
theorem dJx4a65c_clear_da8c8_26 : decode cJx4a65c_clear_da8c8 26 = .ok (.istore_n 3, 1) := by decide +kernel
theorem dJx4a65c_clear_da8c8_27 : decode cJx4a65c_clear_da8c8 27 = .ok (.iload_n 3, 1) := by decide +kernel
theorem dJx4a65c_clear_da8c8_28 : decode cJx4a65c_clear_da8c8 28 = .ok (.iload_n 2, 1) := by decide +kernel
theorem dJx4a65c_clear_da8c8_29 : decode cJx4a65c_clear_da8c8 29 = .ok (.if_icmp .ge 13, 3) := by decide +kernel
theorem dJx4a65c_clear_da8c8_32 : decode cJx4a65c_clear_da8c8 32 = .ok (.aload_n 1, 1) := by decide +kernel
theorem dJx4a65c_clear_da8c8_33 : decode cJx4a65c_clear_da8c8 33 = .ok (.iload_n 3, 1) := by decide +kernel
theorem dJx4a65c_clear_da8c8_34 : decode cJx4a65c_clear_da8c8 34 = .ok (.aconst_null, 1) := by decide +kernel
theorem dJx4a65c_clear_da8c8_35 : decode cJx4a65c_clear_da8c8 35 = .ok (.aastore, 1) := by decide +kernel
theorem dJx4a65c_clear_da8c8_36 : decode cJx4a65c_clear_da8c8 36 = .ok (.iinc 3 1, 3) := by decide +kernel
theorem dJx4a65c_clear_da8c8_39 : decode cJx4a65c_clear_da8c8 39 = .ok (.goto (-12), 3) := by decide +kernel
theorem dJx4a65c_clear_da8c8_42 : decode cJx4a65c_clear_da8c8 42 = .ok (.return_, 1) := by decide +kernel
theorem yv_Jx4a65c_clear_da8c8 : YV RJx4a65c yJx4a65c_clear_da8c8 cJx4a65c_clear_da8c8 4 none 0 := ⟨kw1_166, kw1_167, kw1_9, kw1_168, by decide +kernel⟩
set_option maxHeartbeats 4000000 in
set_option maxRecDepth 100000 in
theorem c_Jx4a65c_clear_da8c8 {l : Launch} {D : va_G} {cy : Nat → ClassId} {ws : va_W} {kl q ea n : Nat} {mo : Int32} (hL : ws[kl]? = some (aL q mo ea n)) {ka N : Nat} {f : Nat → Option Nat} (hAr : ws[ka]? = some (aQ cy ea N f)) (hnN : n ≤ N) (hN : N ≤ 300) : WR (S := Unit) l yJx4a65c_clear_da8c8 cJx4a65c_clear_da8c8 4 none 0 0 0 0 [.ref q] D cy ws (fun _ => none) (fun _ => True) (fun _ => wL ws kl ka (aL q (mo + nI 1) ea 0) (aQ cy ea N (fun j => if j < n then none else f j))) := by
  refine WRv (by decide) (lv0 := [(0, .ref q)]) rfl (Nat.le_of_ble_eq_true rfl) ?_
  intro p e s m args below meth c ls A Q S hnm hP hK hD hS hA hend hl
  have hx := S.1
  have hb := S.2.1
  have hown : s.vm.findClass RJx4a65c = some m.cls := S.2.2.2.1
  have ht : ∀ w ∈ lw_g, w.before args s = true := fun w h => S.2.2.2.2 w (List.mem_cons_of_mem _ h)
  have hne : kl ≠ ka := lst_ne hL hAr (by intro h9; cases h9)
  have hP : va_P D vwCl (wL ws kl ka (aL q mo ea n) (aQ cy ea N f)) s.heap := by rw [wL_self hL hAr]; exact hP
  have hD : va_D A (wL ws kl ka (aL q mo ea n) (aQ cy ea N f)) := by rw [wL_self hL hAr]; exact hD
  refine lv_aload_n hx hb dJx4a65c_clear_da8c8_0 rfl (lv_at hl 0 rfl) ?_
  refine lv_dup hx hb dJx4a65c_clear_da8c8_1 rfl ?_
  refine va_get (ci := 0) (C := RJx4a65c) (T := TJx4a65c) (N := 3) hx hb ht iFJx4a65c hown hK hP kl (wL_l hne hL) rfl 0 (by decide) (ht _ kw1_104) (u_same (ht _ kw_sf)) rfl dJx4a65c_clear_da8c8_2 ?_
  refine nv_iconst (k := 1) hx hb dJx4a65c_clear_da8c8_5 rfl ?_
  refine lv_iadd hx hb dJx4a65c_clear_da8c8_6 ?_
  refine va_put (ci := 0) (C := RJx4a65c) (T := TJx4a65c) (N := 3) (ty := tyJx4a65c 0) hx hb ht iFJx4a65c tyJx4a65c tyJx4a65c_ok nmJx4a65c hown hK hP hD hS kl (wL_l hne hL) rfl 0 (by decide) (ht _ kw1_104) (u_same (ht _ kw_sf)) rfl (by decide +kernel) (by first | rfl | decide) (by first | rfl | decide) (Nat.le_of_ble_eq_true rfl) dJx4a65c_clear_da8c8_7 (fun H locs hP hD hS => ?_)
  rw [wL_setL hne] at hP hD
  have hP : va_P D vwCl (wL ws kl ka (aL q ((mo) + nI (1)) ea n) (aQ cy ea N f)) H := hP
  have hD : va_D A (wL ws kl ka (aL q ((mo) + nI (1)) ea n) (aQ cy ea N f)) := hD
  refine lv_aload_n hx hb dJx4a65c_clear_da8c8_10 rfl (lv_at hl 0 rfl) ?_
  refine va_get (ci := 0) (C := RJx4a65c) (T := TJx4a65c) (N := 3) hx hb ht iFJx4a65c hown hK hP kl (wL_l hne hL) rfl 1 (by decide) (ht _ kw1_101) (fun _ h9 => h9) rfl dJx4a65c_clear_da8c8_11 ?_
  refine lv_astore_n (lv' := [(1, .ref ea), (0, .ref q)]) hx hb dJx4a65c_clear_da8c8_14 rfl hl (by decide) rfl (fun ls hl => ?_)
  refine lv_aload_n hx hb dJx4a65c_clear_da8c8_15 rfl (lv_at hl 1 rfl) ?_
  refine va_get (ci := 0) (C := RJx4a65c) (T := TJx4a65c) (N := 3) hx hb ht iFJx4a65c hown hK hP kl (wL_l hne hL) rfl 2 (by decide) (ht _ kw1_102) (fun _ h9 => h9) rfl dJx4a65c_clear_da8c8_16 ?_
  refine lv_istore_n (lv' := [(2, .int (nI n)), (1, .ref ea), (0, .ref q)]) hx hb dJx4a65c_clear_da8c8_19 rfl hl (by decide) rfl (fun ls hl => ?_)
  refine lv_aload_n hx hb dJx4a65c_clear_da8c8_20 rfl (lv_at hl 2 rfl) ?_
  refine nv_iconst (k := 0) hx hb dJx4a65c_clear_da8c8_21 rfl ?_
  refine lv_dup_x1 hx hb dJx4a65c_clear_da8c8_22 rfl rfl ?_
  refine va_put (ci := 0) (C := RJx4a65c) (T := TJx4a65c) (N := 3) (ty := tyJx4a65c 2) hx hb ht iFJx4a65c tyJx4a65c tyJx4a65c_ok nmJx4a65c hown hK hP hD hS kl (wL_l hne hL) rfl 2 (by decide) (ht _ kw1_102) (fun _ h9 => h9) rfl (by decide +kernel) (by first | rfl | decide) (by first | rfl | decide) (Nat.le_of_ble_eq_true rfl) dJx4a65c_clear_da8c8_23 (fun H locs hP hD hS => ?_)
  rw [wL_setL hne] at hP hD
  have hP : va_P D vwCl (wL ws kl ka (aL q ((mo) + nI (1)) ea 0) (aQ cy ea N f)) H := hP
  have hD : va_D A (wL ws kl ka (aL q ((mo) + nI (1)) ea 0) (aQ cy ea N f)) := hD
  refine lv_istore_n (lv' := [(3, .int (nI 0)), (2, .int (nI n)), (1, .ref ea), (0, .ref q)]) hx hb dJx4a65c_clear_da8c8_26 rfl hl (by decide) rfl (fun ls hl => ?_)
  have L27 : ∀ (fu i : Nat) (H : Heap) (locs : List Loc), n - i < fu → i ≤ n → va_P D vwCl (wL ws kl ka (aL q ((mo) + nI (1)) ea 0) (aQ cy ea N ((fun j => if j < i then none else f j)))) H → va_D A (wL ws kl ka (aL q ((mo) + nI (1)) ea 0) (aQ cy ea N ((fun j => if j < i then none else f j)))) → va_S A s.heap H locs → ∀ ls : Array Slot, lv_has ls 4 [(0, .ref q), (1, .ref ea), (2, .int (nI n)), (3, .int (nI i))] → W p l e (rmw 0 0 0 0) s m args below meth c H locs 0 0 Q (F0 m 27 ls []) := by
    intro fu
    induction fu with
    | zero => intro i H locs h9; omega
    | succ fu ih =>
      intro i H locs hfu hi hP hD hS ls hl
      refine lv_iload_n hx hb dJx4a65c_clear_da8c8_27 rfl (lv_at hl 3 rfl) ?_
      refine lv_iload_n hx hb dJx4a65c_clear_da8c8_28 rfl (lv_at hl 2 rfl) ?_
      refine nv_icmp_ge (tgt := 42) hx hb dJx4a65c_clear_da8c8_29 (by decide) (by omega) (by omega) (fun h29 => ?_) (fun h29 => ?_)
      · skip
        have ei : i = n := by omega
        rw [ei] at hP hD
        exact hend () trivial hP hD hS dJx4a65c_clear_da8c8_42
      refine lv_aload_n hx hb dJx4a65c_clear_da8c8_32 rfl (lv_at hl 1 rfl) ?_
      refine lv_iload_n hx hb dJx4a65c_clear_da8c8_33 rfl (lv_at hl 3 rfl) ?_
      refine lv_null hx hb dJx4a65c_clear_da8c8_34 ?_
      refine nv_qastN hx hb hK hP hD hS ka (wL_a hAr) (by omega) (by omega) dJx4a65c_clear_da8c8_35 (fun H locs hP hD hS => ?_)
      rw [wL_setA] at hP hD
      have hP : va_P D vwCl (wL ws kl ka (aL q ((mo) + nI (1)) ea 0) (aQ cy ea N (va_up ((fun j => if j < i then none else f j)) i none))) H := hP
      have hD : va_D A (wL ws kl ka (aL q ((mo) + nI (1)) ea 0) (aQ cy ea N (va_up ((fun j => if j < i then none else f j)) i none))) := hD
      refine lv_iinc (v := (nI (i + 1))) (lv' := [(3, .int (nI (i + 1))), (0, .ref q), (1, .ref ea), (2, .int (nI n))]) hx hb dJx4a65c_clear_da8c8_36 hl (k := 3) rfl (nI_inc _ _) (by decide) rfl (fun ls hl => ?_)
      refine lv_goto (tgt := 27) hx hb dJx4a65c_clear_da8c8_39 (by decide) ?_
      have e1 : va_up (fun j => if j < i then none else f j) i none = (fun j => if j < i + 1 then none else f j) := by
        funext j
        unfold va_up
        by_cases h : j = i
        · simp [h]
        · by_cases h2 : j < i
          · simp [h, h2, show j < i + 1 by omega]
          · simp [h, h2, show ¬ j < i + 1 by omega]
      rw [e1] at hP hD
      exact ih (i + 1) H locs (by omega) (by omega) hP hD hS ls (lv_sub hl [1, 2, 3, 0] rfl)
  have e0 : f = (fun j => if j < 0 then none else f j) := by funext j; rw [if_neg (by omega)]
  exact L27 (n + 1) 0 H locs (by omega) (by omega) (by rw [← e0]; exact hP) (by rw [← e0]; exact hD) hS ls (lv_sub hl [3, 2, 1, 0] rfl)
set_option maxHeartbeats 4000000 in
set_option maxRecDepth 100000 in
theorem c_Jx4a65c_clear_da8c80 {l : Launch} {D : va_G} {cy : Nat → ClassId} {ws : va_W} {kl q ea n : Nat} {mo : Int32} (hL : ws[kl]? = some (aL q mo ea n)) (hn0 : n = 0) : WR (S := Unit) l yJx4a65c_clear_da8c8 cJx4a65c_clear_da8c8 4 none 0 0 0 0 [.ref q] D cy ws (fun _ => none) (fun _ => True) (fun _ => ws.set kl (aL q (mo + nI 1) ea 0)) := by
  refine WRv (by decide) (lv0 := [(0, .ref q)]) rfl (Nat.le_of_ble_eq_true rfl) ?_
  intro p e s m args below meth c ls A Q S hnm hP hK hD hS hA hend hl
  have hx := S.1
  have hb := S.2.1
  have hown : s.vm.findClass RJx4a65c = some m.cls := S.2.2.2.1
  have ht : ∀ w ∈ lw_g, w.before args s = true := fun w h => S.2.2.2.2 w (List.mem_cons_of_mem _ h)
  have hP : va_P D vwCl (ws.set kl (aL q mo ea n)) s.heap := by rw [lst_same hL]; exact hP
  have hD : va_D A (ws.set kl (aL q mo ea n)) := by rw [lst_same hL]; exact hD
  refine lv_aload_n hx hb dJx4a65c_clear_da8c8_0 rfl (lv_at hl 0 rfl) ?_
  refine lv_dup hx hb dJx4a65c_clear_da8c8_1 rfl ?_
  refine va_get (ci := 0) (C := RJx4a65c) (T := TJx4a65c) (N := 3) hx hb ht iFJx4a65c hown hK hP kl (List.getElem?_set_self (lst_lt hL)) rfl 0 (by decide) (ht _ kw1_104) (u_same (ht _ kw_sf)) rfl dJx4a65c_clear_da8c8_2 ?_
  refine nv_iconst (k := 1) hx hb dJx4a65c_clear_da8c8_5 rfl ?_
  refine lv_iadd hx hb dJx4a65c_clear_da8c8_6 ?_
  refine va_put (ci := 0) (C := RJx4a65c) (T := TJx4a65c) (N := 3) (ty := tyJx4a65c 0) hx hb ht iFJx4a65c tyJx4a65c tyJx4a65c_ok nmJx4a65c hown hK hP hD hS kl (List.getElem?_set_self (lst_lt hL)) rfl 0 (by decide) (ht _ kw1_104) (u_same (ht _ kw_sf)) rfl (by decide +kernel) (by first | rfl | decide) (by first | rfl | decide) (Nat.le_of_ble_eq_true rfl) dJx4a65c_clear_da8c8_7 (fun H locs hP hD hS => ?_)
  rw [List.set_set] at hP hD
  have hP : va_P D vwCl (ws.set kl (aL q ((mo) + nI (1)) ea n)) H := hP
  have hD : va_D A (ws.set kl (aL q ((mo) + nI (1)) ea n)) := hD
  refine lv_aload_n hx hb dJx4a65c_clear_da8c8_10 rfl (lv_at hl 0 rfl) ?_
  refine va_get (ci := 0) (C := RJx4a65c) (T := TJx4a65c) (N := 3) hx hb ht iFJx4a65c hown hK hP kl (List.getElem?_set_self (lst_lt hL)) rfl 1 (by decide) (ht _ kw1_101) (fun _ h9 => h9) rfl dJx4a65c_clear_da8c8_11 ?_
  refine lv_astore_n (lv' := [(1, .ref ea), (0, .ref q)]) hx hb dJx4a65c_clear_da8c8_14 rfl hl (by decide) rfl (fun ls hl => ?_)
  refine lv_aload_n hx hb dJx4a65c_clear_da8c8_15 rfl (lv_at hl 1 rfl) ?_
  refine va_get (ci := 0) (C := RJx4a65c) (T := TJx4a65c) (N := 3) hx hb ht iFJx4a65c hown hK hP kl (List.getElem?_set_self (lst_lt hL)) rfl 2 (by decide) (ht _ kw1_102) (fun _ h9 => h9) rfl dJx4a65c_clear_da8c8_16 ?_
  refine lv_istore_n (lv' := [(2, .int (nI n)), (1, .ref ea), (0, .ref q)]) hx hb dJx4a65c_clear_da8c8_19 rfl hl (by decide) rfl (fun ls hl => ?_)
  refine lv_aload_n hx hb dJx4a65c_clear_da8c8_20 rfl (lv_at hl 2 rfl) ?_
  refine nv_iconst (k := 0) hx hb dJx4a65c_clear_da8c8_21 rfl ?_
  refine lv_dup_x1 hx hb dJx4a65c_clear_da8c8_22 rfl rfl ?_
  refine va_put (ci := 0) (C := RJx4a65c) (T := TJx4a65c) (N := 3) (ty := tyJx4a65c 2) hx hb ht iFJx4a65c tyJx4a65c tyJx4a65c_ok nmJx4a65c hown hK hP hD hS kl (List.getElem?_set_self (lst_lt hL)) rfl 2 (by decide) (ht _ kw1_102) (fun _ h9 => h9) rfl (by decide +kernel) (by first | rfl | decide) (by first | rfl | decide) (Nat.le_of_ble_eq_true rfl) dJx4a65c_clear_da8c8_23 (fun H locs hP hD hS => ?_)
  rw [List.set_set] at hP hD
  have hP : va_P D vwCl (ws.set kl (aL q ((mo) + nI (1)) ea 0)) H := hP
  have hD : va_D A (ws.set kl (aL q ((mo) + nI (1)) ea 0)) := hD
  refine lv_istore_n (lv' := [(3, .int (nI 0)), (2, .int (nI n)), (1, .ref ea), (0, .ref q)]) hx hb dJx4a65c_clear_da8c8_26 rfl hl (by decide) rfl (fun ls hl => ?_)
  refine lv_iload_n hx hb dJx4a65c_clear_da8c8_27 rfl (lv_at hl 0 rfl) ?_
  refine lv_iload_n hx hb dJx4a65c_clear_da8c8_28 rfl (lv_at hl 1 rfl) ?_
  refine nv_icmp_ge (tgt := 42) hx hb dJx4a65c_clear_da8c8_29 (by decide) (by omega) (by omega) (fun h29 => ?_) (fun h29 => ?_)
  · skip
    exact hend () trivial hP hD hS dJx4a65c_clear_da8c8_42
  exact absurd h29 (by omega)
theorem dJx4a65c_fastRemove_b59b0_0 : decode cJx4a65c_fastRemove_b59b0 0 = .ok (.aload_n 0, 1) := by decide +kernel
theorem dJx4a65c_fastRemove_b59b0_1 : decode cJx4a65c_fastRemove_b59b0 1 = .ok (.dup, 1) := by decide +kernel
theorem dJx4a65c_fastRemove_b59b0_2 : decode cJx4a65c_fastRemove_b59b0 2 = .ok (.getfield 63, 3) := by decide +kernel
theorem dJx4a65c_fastRemove_b59b0_5 : decode cJx4a65c_fastRemove_b59b0 5 = .ok (.iconst 1, 1) := by decide +kernel
theorem dJx4a65c_fastRemove_b59b0_6 : decode cJx4a65c_fastRemove_b59b0 6 = .ok (.iadd, 1) := by decide +kernel
theorem dJx4a65c_fastRemove_b59b0_7 : decode cJx4a65c_fastRemove_b59b0 7 = .ok (.putfield 63, 3) := by decide +kernel
theorem dJx4a65c_fastRemove_b59b0_10 : decode cJx4a65c_fastRemove_b59b0 10 = .ok (.aload_n 0, 1) := by decide +kernel
theorem dJx4a65c_fastRemove_b59b0_11 : decode cJx4a65c_fastRemove_b59b0 11 = .ok (.getfield 48, 3) := by decide +kernel
theorem dJx4a65c_fastRemove_b59b0_14 : decode cJx4a65c_fastRemove_b59b0 14 = .ok (.iconst 1, 1) := by decide +kernel
theorem dJx4a65c_fastRemove_b59b0_15 : decode cJx4a65c_fastRemove_b59b0 15 = .ok (.isub, 1) := by decide +kernel
theorem dJx4a65c_fastRemove_b59b0_16 : decode cJx4a65c_fastRemove_b59b0 16 = .ok (.dup, 1) := by decide +kernel
theorem dJx4a65c_fastRemove_b59b0_17 : decode cJx4a65c_fastRemove_b59b0 17 = .ok (.istore_n 3, 1) := by decide +kernel
theorem dJx4a65c_fastRemove_b59b0_18 : decode cJx4a65c_fastRemove_b59b0 18 = .ok (.iload_n 2, 1) := by decide +kernel
theorem dJx4a65c_fastRemove_b59b0_19 : decode cJx4a65c_fastRemove_b59b0 19 = .ok (.if_icmp .le 15, 3) := by decide +kernel
theorem dJx4a65c_fastRemove_b59b0_22 : decode cJx4a65c_fastRemove_b59b0 22 = .ok (.aload_n 1, 1) := by decide +kernel
theorem dJx4a65c_fastRemove_b59b0_23 : decode cJx4a65c_fastRemove_b59b0 23 = .ok (.iload_n 2, 1) := by decide +kernel
theorem dJx4a65c_fastRemove_b59b0_24 : decode cJx4a65c_fastRemove_b59b0 24 = .ok (.iconst 1, 1) := by decide +kernel
theorem dJx4a65c_fastRemove_b59b0_25 : decode cJx4a65c_fastRemove_b59b0 25 = .ok (.iadd, 1) := by decide +kernel
theorem dJx4a65c_fastRemove_b59b0_26 : decode cJx4a65c_fastRemove_b59b0 26 = .ok (.aload_n 1, 1) := by decide +kernel
theorem dJx4a65c_fastRemove_b59b0_27 : decode cJx4a65c_fastRemove_b59b0 27 = .ok (.iload_n 2, 1) := by decide +kernel
theorem dJx4a65c_fastRemove_b59b0_28 : decode cJx4a65c_fastRemove_b59b0 28 = .ok (.iload_n 3, 1) := by decide +kernel
theorem dJx4a65c_fastRemove_b59b0_29 : decode cJx4a65c_fastRemove_b59b0 29 = .ok (.iload_n 2, 1) := by decide +kernel
theorem dJx4a65c_fastRemove_b59b0_30 : decode cJx4a65c_fastRemove_b59b0 30 = .ok (.isub, 1) := by decide +kernel
theorem dJx4a65c_fastRemove_b59b0_31 : decode cJx4a65c_fastRemove_b59b0 31 = .ok (.invokestatic 112, 3) := by decide +kernel
theorem dJx4a65c_fastRemove_b59b0_34 : decode cJx4a65c_fastRemove_b59b0 34 = .ok (.aload_n 1, 1) := by decide +kernel
theorem dJx4a65c_fastRemove_b59b0_35 : decode cJx4a65c_fastRemove_b59b0 35 = .ok (.aload_n 0, 1) := by decide +kernel
theorem dJx4a65c_fastRemove_b59b0_36 : decode cJx4a65c_fastRemove_b59b0 36 = .ok (.iload_n 3, 1) := by decide +kernel
theorem dJx4a65c_fastRemove_b59b0_37 : decode cJx4a65c_fastRemove_b59b0 37 = .ok (.dup_x1, 1) := by decide +kernel
theorem dJx4a65c_fastRemove_b59b0_38 : decode cJx4a65c_fastRemove_b59b0 38 = .ok (.putfield 48, 3) := by decide +kernel
theorem dJx4a65c_fastRemove_b59b0_41 : decode cJx4a65c_fastRemove_b59b0 41 = .ok (.aconst_null, 1) := by decide +kernel
theorem dJx4a65c_fastRemove_b59b0_42 : decode cJx4a65c_fastRemove_b59b0 42 = .ok (.aastore, 1) := by decide +kernel
theorem dJx4a65c_fastRemove_b59b0_43 : decode cJx4a65c_fastRemove_b59b0 43 = .ok (.return_, 1) := by decide +kernel
theorem yv_Jx4a65c_fastRemove_b59b0 : YV RJx4a65c yJx4a65c_fastRemove_b59b0 cJx4a65c_fastRemove_b59b0 4 none 2 := ⟨kw4_44, kws_17, kw1_9, kw4_45, by decide +kernel⟩
set_option maxHeartbeats 4000000 in
set_option maxRecDepth 100000 in
theorem c_Jx4a65c_fastRemove_b59b0 {l : Launch} {D : va_G} {cy : Nat → ClassId} {e0 : Nat × Nat} {ws : va_W} {kl q ea n : Nat} {mo : Int32} (hL : ws[kl]? = some (aL q mo ea n)) {ka N : Nat} {f : Nat → Option Nat} (hAr : ws[ka]? = some (aQ cy ea N f)) (hnN : n ≤ N) (hN : N ≤ 300) {i : Nat} (hi : i < n) {ci : Nat} {r9 : vw_C} (hel : ∀ j, j < n → ∃ (y k : Nat) (vs : List Value), f j = some y ∧ ws[k]? = some (y, .inr (ci, vs))) (hci : vwCl[ci]? = some r9) (hca : r9.1 = "TransitGate$Binding" ∨ r9.1 = "TransitGate$Session") (hc0 : ci ≠ 0) : WRX (S := Unit) l yJx4a65c_fastRemove_b59b0 cJx4a65c_fastRemove_b59b0 4 none 1 0 0 30 [.ref q, .ref ea, .int (nI i)] D cy e0 ws (fun _ => none) (fun _ => True) (fun _ => wL ws kl ka (aL q (mo + nI 1) ea (n - 1)) (aQ cy ea N (rmv f i n))) := by
  refine WRXv (by decide) (lv0 := [(0, .ref q), (1, .ref ea), (2, .int (nI i))]) rfl (Nat.le_of_ble_eq_true rfl) ?_
  intro p e s m args below meth c ls A Q S hnm hP hK hD hS hA hE hend hl
  have hx := S.1
  have hb := S.2.1
  have hown : s.vm.findClass RJx4a65c = some m.cls := S.2.2.2.1
  have ht : ∀ w ∈ lw_g, w.before args s = true := fun w h => S.2.2.2.2 w (List.mem_cons_of_mem _ h)
  have hne : kl ≠ ka := lst_ne hL hAr (by intro h9; cases h9)
  have hP : va_P D vwCl (wL ws kl ka (aL q mo ea n) (aQ cy ea N f)) s.heap := by rw [wL_self hL hAr]; exact hP
  have hD : va_D A (wL ws kl ka (aL q mo ea n) (aQ cy ea N f)) := by rw [wL_self hL hAr]; exact hD
  refine lv_aload_n hx hb dJx4a65c_fastRemove_b59b0_0 rfl (lv_at hl 0 rfl) ?_
  refine lv_dup hx hb dJx4a65c_fastRemove_b59b0_1 rfl ?_
  refine va_get (ci := 0) (C := RJx4a65c) (T := TJx4a65c) (N := 3) hx hb ht iFJx4a65c hown hK hP kl (wL_l hne hL) rfl 0 (by decide) (ht _ kw1_104) (u_same (ht _ kw_sf)) rfl dJx4a65c_fastRemove_b59b0_2 ?_
  refine nv_iconst (k := 1) hx hb dJx4a65c_fastRemove_b59b0_5 rfl ?_
  refine lv_iadd hx hb dJx4a65c_fastRemove_b59b0_6 ?_
  refine va_put (ci := 0) (C := RJx4a65c) (T := TJx4a65c) (N := 3) (ty := tyJx4a65c 0) hx hb ht iFJx4a65c tyJx4a65c tyJx4a65c_ok nmJx4a65c hown hK hP hD hS kl (wL_l hne hL) rfl 0 (by decide) (ht _ kw1_104) (u_same (ht _ kw_sf)) rfl (by decide +kernel) (by first | rfl | decide) (by first | rfl | decide) (Nat.le_of_ble_eq_true rfl) dJx4a65c_fastRemove_b59b0_7 (fun H locs hP hD hS => ?_)
  rw [wL_setL hne] at hP hD
  have hP : va_P D vwCl (wL ws kl ka (aL q ((mo) + nI (1)) ea n) (aQ cy ea N f)) H := hP
  have hD : va_D A (wL ws kl ka (aL q ((mo) + nI (1)) ea n) (aQ cy ea N f)) := hD
  refine lv_aload_n hx hb dJx4a65c_fastRemove_b59b0_10 rfl (lv_at hl 0 rfl) ?_
  refine va_get (ci := 0) (C := RJx4a65c) (T := TJx4a65c) (N := 3) hx hb ht iFJx4a65c hown hK hP kl (wL_l hne hL) rfl 2 (by decide) (ht _ kw1_102) (fun _ h9 => h9) rfl dJx4a65c_fastRemove_b59b0_11 ?_
  refine nv_iconst (k := 1) hx hb dJx4a65c_fastRemove_b59b0_14 rfl ?_
  refine nv_isub hx hb (by omega) dJx4a65c_fastRemove_b59b0_15 ?_
  refine lv_dup hx hb dJx4a65c_fastRemove_b59b0_16 rfl ?_
  refine lv_istore_n (lv' := [(3, .int (nI (n - 1))), (0, .ref q), (1, .ref ea), (2, .int (nI i))]) hx hb dJx4a65c_fastRemove_b59b0_17 rfl hl (by decide) rfl (fun ls hl => ?_)
  refine lv_iload_n hx hb dJx4a65c_fastRemove_b59b0_18 rfl (lv_at hl 3 rfl) ?_
  refine nv_icmp_le (tgt := 34) hx hb dJx4a65c_fastRemove_b59b0_19 (by decide) (by omega) (by omega) (fun h19 => ?_) (fun h19 => ?_)
  · skip
    refine lv_aload_n hx hb dJx4a65c_fastRemove_b59b0_34 rfl (lv_at hl 2 rfl) ?_
    refine lv_aload_n hx hb dJx4a65c_fastRemove_b59b0_35 rfl (lv_at hl 1 rfl) ?_
    refine lv_iload_n hx hb dJx4a65c_fastRemove_b59b0_36 rfl (lv_at hl 0 rfl) ?_
    refine lv_dup_x1 hx hb dJx4a65c_fastRemove_b59b0_37 rfl rfl ?_
    refine va_put (ci := 0) (C := RJx4a65c) (T := TJx4a65c) (N := 3) (ty := tyJx4a65c 2) hx hb ht iFJx4a65c tyJx4a65c tyJx4a65c_ok nmJx4a65c hown hK hP hD hS kl (wL_l hne hL) rfl 2 (by decide) (ht _ kw1_102) (fun _ h9 => h9) rfl (by decide +kernel) (by first | rfl | decide) (by first | rfl | decide) (Nat.le_of_ble_eq_true rfl) dJx4a65c_fastRemove_b59b0_38 (fun H locs hP hD hS => ?_)
    rw [wL_setL hne] at hP hD
    have hP : va_P D vwCl (wL ws kl ka (aL q ((mo) + nI (1)) ea (n - 1)) (aQ cy ea N f)) H := hP
    have hD : va_D A (wL ws kl ka (aL q ((mo) + nI (1)) ea (n - 1)) (aQ cy ea N f)) := hD
    refine lv_null hx hb dJx4a65c_fastRemove_b59b0_41 ?_
    refine nv_qastN hx hb hK hP hD hS ka (wL_a hAr) (by omega) (by omega) dJx4a65c_fastRemove_b59b0_42 (fun H locs hP hD hS => ?_)
    rw [wL_setA] at hP hD
    have hP : va_P D vwCl (wL ws kl ka (aL q ((mo) + nI (1)) ea (n - 1)) (aQ cy ea N (va_up f (n - 1) none))) H := hP
    have hD : va_D A (wL ws kl ka (aL q ((mo) + nI (1)) ea (n - 1)) (aQ cy ea N (va_up f (n - 1) none))) := hD
    rw [rmv_b (i := i) (n := n) (by omega)] at hP hD
    exact hend () trivial hP hD hS dJx4a65c_fastRemove_b59b0_43
  refine lv_aload_n hx hb dJx4a65c_fastRemove_b59b0_22 rfl (lv_at hl 2 rfl) ?_
  refine lv_iload_n hx hb dJx4a65c_fastRemove_b59b0_23 rfl (lv_at hl 3 rfl) ?_
  refine nv_iconst (k := 1) hx hb dJx4a65c_fastRemove_b59b0_24 rfl ?_
  refine nv_iadd hx hb dJx4a65c_fastRemove_b59b0_25 ?_
  refine lv_aload_n hx hb dJx4a65c_fastRemove_b59b0_26 rfl (lv_at hl 2 rfl) ?_
  refine lv_iload_n hx hb dJx4a65c_fastRemove_b59b0_27 rfl (lv_at hl 3 rfl) ?_
  refine lv_iload_n hx hb dJx4a65c_fastRemove_b59b0_28 rfl (lv_at hl 0 rfl) ?_
  refine lv_iload_n hx hb dJx4a65c_fastRemove_b59b0_29 rfl (lv_at hl 3 rfl) ?_
  refine nv_isub hx hb (by omega) dJx4a65c_fastRemove_b59b0_30 ?_
  refine va_copyq hx hb (S.2.2.1.trans hl.1.symm) hown (ht _ kw4_46) (ht _ kw3_77) (ht _ kw3_76) (ht _ kw1_21) hK hP hD hS ka ka 3 3 (wL_a hAr) (wL_a hAr) rfl rfl (nI_pos (by omega)) (nI_pos (by omega)) (nI_pos (by omega)) (by rw [nI_clamp (by omega), nI_clamp (by omega)]; omega) (by rw [nI_clamp (by omega), nI_clamp (by omega)]; omega) (C := r9.1) ?_ (cast_asg (by rcases hca with h9 | h9 <;> rw [h9] <;> first | exact hE.1.1 | exact hE.1.2.1)) (Nat.le_of_ble_eq_true rfl) (Nat.le_of_ble_eq_true rfl) dJx4a65c_fastRemove_b59b0_31 (fun H locs hP hD hS => ?_)
  · intro i9 hi9 y9 hy9
    rw [nI_clamp (by omega)] at hi9 hy9
    obtain ⟨y8, k8, vs, e1, e2⟩ := hel (i + 1 + i9) (by omega)
    rw [e1] at hy9
    cases hy9
    exact va_recv hK hP hci (wL_o (lst_ne hL e2 (by intro h9; injection h9 with _ h8; injection h8 with h7; injection h7 with h6; exact hc0 h6.symm)) (lst_ne hAr e2 (by intro h9; cases h9)) e2)
  rw [wL_setA, nI_clamp (by omega), nI_clamp (by omega), nI_clamp (by omega)] at hP hD
  have hP : va_P D vwCl (wL ws kl ka (aL q ((mo) + nI (1)) ea n) (aQ cy ea N (va_cpy f f (i + 1) i (n - 1 - i)))) H := hP
  have hD : va_D A (wL ws kl ka (aL q ((mo) + nI (1)) ea n) (aQ cy ea N (va_cpy f f (i + 1) i (n - 1 - i)))) := hD
  refine lv_aload_n hx hb dJx4a65c_fastRemove_b59b0_34 rfl (lv_at hl 2 rfl) ?_
  refine lv_aload_n hx hb dJx4a65c_fastRemove_b59b0_35 rfl (lv_at hl 1 rfl) ?_
  refine lv_iload_n hx hb dJx4a65c_fastRemove_b59b0_36 rfl (lv_at hl 0 rfl) ?_
  refine lv_dup_x1 hx hb dJx4a65c_fastRemove_b59b0_37 rfl rfl ?_
  refine va_put (ci := 0) (C := RJx4a65c) (T := TJx4a65c) (N := 3) (ty := tyJx4a65c 2) hx hb ht iFJx4a65c tyJx4a65c tyJx4a65c_ok nmJx4a65c hown hK hP hD hS kl (wL_l hne hL) rfl 2 (by decide) (ht _ kw1_102) (fun _ h9 => h9) rfl (by decide +kernel) (by first | rfl | decide) (by first | rfl | decide) (Nat.le_of_ble_eq_true rfl) dJx4a65c_fastRemove_b59b0_38 (fun H locs hP hD hS => ?_)
  rw [wL_setL hne] at hP hD
  have hP : va_P D vwCl (wL ws kl ka (aL q ((mo) + nI (1)) ea (n - 1)) (aQ cy ea N (va_cpy f f (i + 1) i (n - 1 - i)))) H := hP
  have hD : va_D A (wL ws kl ka (aL q ((mo) + nI (1)) ea (n - 1)) (aQ cy ea N (va_cpy f f (i + 1) i (n - 1 - i)))) := hD
  refine lv_null hx hb dJx4a65c_fastRemove_b59b0_41 ?_
  refine nv_qastN hx hb hK hP hD hS ka (wL_a hAr) (by omega) (by omega) dJx4a65c_fastRemove_b59b0_42 (fun H locs hP hD hS => ?_)
  rw [wL_setA] at hP hD
  have hP : va_P D vwCl (wL ws kl ka (aL q ((mo) + nI (1)) ea (n - 1)) (aQ cy ea N (va_up (va_cpy f f (i + 1) i (n - 1 - i)) (n - 1) none))) H := hP
  have hD : va_D A (wL ws kl ka (aL q ((mo) + nI (1)) ea (n - 1)) (aQ cy ea N (va_up (va_cpy f f (i + 1) i (n - 1 - i)) (n - 1) none))) := hD
  rw [rmv_a (i := i) (n := n) (by omega)] at hP hD
  exact hend () trivial hP hD hS dJx4a65c_fastRemove_b59b0_43
theorem dJx4a65c_remove_915e3_0 : decode cJx4a65c_remove_915e3 0 = .ok (.iload_n 1, 1) := by decide +kernel
theorem dJx4a65c_remove_915e3_1 : decode cJx4a65c_remove_915e3 1 = .ok (.aload_n 0, 1) := by decide +kernel
theorem dJx4a65c_remove_915e3_2 : decode cJx4a65c_remove_915e3 2 = .ok (.getfield 48, 3) := by decide +kernel
theorem dJx4a65c_remove_915e3_5 : decode cJx4a65c_remove_915e3 5 = .ok (.invokestatic 118, 3) := by decide +kernel
theorem dJx4a65c_remove_915e3_8 : decode cJx4a65c_remove_915e3 8 = .ok (.pop, 1) := by decide +kernel
theorem dJx4a65c_remove_915e3_9 : decode cJx4a65c_remove_915e3 9 = .ok (.aload_n 0, 1) := by decide +kernel
theorem dJx4a65c_remove_915e3_10 : decode cJx4a65c_remove_915e3 10 = .ok (.getfield 9, 3) := by decide +kernel
theorem dJx4a65c_remove_915e3_13 : decode cJx4a65c_remove_915e3 13 = .ok (.astore_n 2, 1) := by decide +kernel
theorem dJx4a65c_remove_915e3_14 : decode cJx4a65c_remove_915e3 14 = .ok (.aload_n 2, 1) := by decide +kernel
theorem dJx4a65c_remove_915e3_15 : decode cJx4a65c_remove_915e3 15 = .ok (.iload_n 1, 1) := by decide +kernel
theorem dJx4a65c_remove_915e3_16 : decode cJx4a65c_remove_915e3 16 = .ok (.aaload, 1) := by decide +kernel
theorem dJx4a65c_remove_915e3_17 : decode cJx4a65c_remove_915e3 17 = .ok (.astore_n 3, 1) := by decide +kernel
theorem dJx4a65c_remove_915e3_18 : decode cJx4a65c_remove_915e3 18 = .ok (.aload_n 0, 1) := by decide +kernel
theorem dJx4a65c_remove_915e3_19 : decode cJx4a65c_remove_915e3 19 = .ok (.aload_n 2, 1) := by decide +kernel
theorem dJx4a65c_remove_915e3_20 : decode cJx4a65c_remove_915e3 20 = .ok (.iload_n 1, 1) := by decide +kernel
theorem dJx4a65c_remove_915e3_21 : decode cJx4a65c_remove_915e3 21 = .ok (.invokevirtual 144, 3) := by decide +kernel
theorem dJx4a65c_remove_915e3_24 : decode cJx4a65c_remove_915e3 24 = .ok (.aload_n 3, 1) := by decide +kernel
theorem dJx4a65c_remove_915e3_25 : decode cJx4a65c_remove_915e3 25 = .ok (.areturn, 1) := by decide +kernel
theorem yv_Jx4a65c_remove_915e3 : YV RJx4a65c yJx4a65c_remove_915e3 cJx4a65c_remove_915e3 4 (some (.object "java/lang/Object")) 1 := ⟨kw4_39, kw4_40, kw1_9, kw4_41, by decide +kernel⟩
set_option maxHeartbeats 4000000 in
set_option maxRecDepth 100000 in
theorem c_Jx4a65c_remove_915e3 {l : Launch} {D : va_G} {cy : Nat → ClassId} {e0 : Nat × Nat} {ws : va_W} {kl q ea n : Nat} {mo : Int32} (hL : ws[kl]? = some (aL q mo ea n)) {ka N : Nat} {f : Nat → Option Nat} (hAr : ws[ka]? = some (aQ cy ea N f)) (hnN : n ≤ N) (hN : N ≤ 300) {i : Nat} (hi : i < n) {ci : Nat} {r9 : vw_C} (hel : ∀ j, j < n → ∃ (y k : Nat) (vs : List Value), f j = some y ∧ ws[k]? = some (y, .inr (ci, vs))) (hci : vwCl[ci]? = some r9) (hca : r9.1 = "TransitGate$Binding" ∨ r9.1 = "TransitGate$Session") (hc0 : ci ≠ 0) : WRX (S := Unit) l yJx4a65c_remove_915e3 cJx4a65c_remove_915e3 4 (some (.object "java/lang/Object")) 2 0 0 53 [.ref q, .int (nI i)] D cy e0 ws (fun u_ => some (va_rf (f i))) (fun _ => True) (fun _ => wL ws kl ka (aL q (mo + nI 1) ea (n - 1)) (aQ cy ea N (rmv f i n))) := by
  refine WRXr (by first | exact Or.inl ⟨_, rfl⟩ | exact Or.inr ⟨_, rfl⟩) (by decide) (lv0 := [(0, .ref q), (1, .int (nI i))]) rfl (Nat.le_of_ble_eq_true rfl) ?_
  intro p e s m args below meth c ls A Q S hnm hP hK hD hS hA hE hend hl
  have hx := S.1
  have hb := S.2.1
  have hown : s.vm.findClass RJx4a65c = some m.cls := S.2.2.2.1
  have ht : ∀ w ∈ lw_g, w.before args s = true := fun w h => S.2.2.2.2 w (List.mem_cons_of_mem _ h)
  obtain ⟨y0, k0, vs0, hy0, -⟩ := hel i hi
  refine lv_iload_n hx hb dJx4a65c_remove_915e3_0 rfl (lv_at hl 1 rfl) ?_
  refine lv_aload_n hx hb dJx4a65c_remove_915e3_1 rfl (lv_at hl 0 rfl) ?_
  refine va_get (ci := 0) (C := RJx4a65c) (T := TJx4a65c) (N := 3) hx hb ht iFJx4a65c hown hK hP kl hL rfl 2 (by decide) (ht _ kw1_102) (fun _ h9 => h9) rfl dJx4a65c_remove_915e3_2 ?_
  refine ro_S S (c_J15_checkIndex_7cf53 (i := i) (n := n) (by omega) (by omega)) kw2_165 yv_J15_checkIndex_7cf53 ⟨Nat.le_of_ble_eq_true rfl, Nat.le_of_ble_eq_true rfl⟩ hK hP rfl hl.1 rfl (Nat.le_of_ble_eq_true rfl) dJx4a65c_remove_915e3_5 ⟨Nat.zero_le _, Nat.zero_le _⟩ ?_
  refine lv_pop hx hb dJx4a65c_remove_915e3_8 rfl ?_
  refine lv_aload_n hx hb dJx4a65c_remove_915e3_9 rfl (lv_at hl 0 rfl) ?_
  refine va_get (ci := 0) (C := RJx4a65c) (T := TJx4a65c) (N := 3) hx hb ht iFJx4a65c hown hK hP kl hL rfl 1 (by decide) (ht _ kw1_101) (fun _ h9 => h9) rfl dJx4a65c_remove_915e3_10 ?_
  refine lv_astore_n (lv' := [(2, .ref ea), (0, .ref q), (1, .int (nI i))]) hx hb dJx4a65c_remove_915e3_13 rfl hl (by decide) rfl (fun ls hl => ?_)
  refine lv_aload_n hx hb dJx4a65c_remove_915e3_14 rfl (lv_at hl 0 rfl) ?_
  refine lv_iload_n hx hb dJx4a65c_remove_915e3_15 rfl (lv_at hl 2 rfl) ?_
  refine nv_qald hx hb hK hP ka hAr (by omega) (by omega) dJx4a65c_remove_915e3_16 ?_
  rw [hy0]
  refine W.eq (g2 := F0 m 17 ls [.ref y0]) rfl ?_
  refine lv_astore_n (lv' := [(3, .ref y0), (2, .ref ea), (0, .ref q), (1, .int (nI i))]) hx hb dJx4a65c_remove_915e3_17 rfl hl (by decide) rfl (fun ls hl => ?_)
  refine lv_aload_n hx hb dJx4a65c_remove_915e3_18 rfl (lv_at hl 2 rfl) ?_
  refine lv_aload_n hx hb dJx4a65c_remove_915e3_19 rfl (lv_at hl 1 rfl) ?_
  refine lv_iload_n hx hb dJx4a65c_remove_915e3_20 rfl (lv_at hl 3 rfl) ?_
  refine wx_V S (c_Jx4a65c_fastRemove_b59b0 (kl := kl) (ka := ka) hL hAr hnN hN hi hel hci hca hc0) kw4_42 yv_Jx4a65c_fastRemove_b59b0 ⟨Nat.le_of_ble_eq_true rfl, Nat.le_of_ble_eq_true rfl⟩ hK hP hD hS hA hE (va_recv hK hP (ci := 0) (q0 := kl) rfl hL) rfl hl.1 rfl (Nat.le_of_ble_eq_true rfl) dJx4a65c_remove_915e3_21 ⟨Nat.zero_le _, Nat.zero_le _⟩ (fun z1 H locs hz1 hP hD hS => ?_)
  refine W.eq (g2 := F0 m 24 ls []) rfl ?_
  refine lv_aload_n hx hb dJx4a65c_remove_915e3_24 rfl (lv_at hl 0 rfl) ?_
  exact hend () (by rw [hy0]; rfl) trivial hP hD hS dJx4a65c_remove_915e3_25
