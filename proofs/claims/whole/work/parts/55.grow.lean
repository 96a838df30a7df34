theorem dJ8_newLength_cabcc_0 : decode cJ8_newLength_cabcc 0 = .ok (.iload_n 0, 1) := by decide +kernel
theorem dJ8_newLength_cabcc_1 : decode cJ8_newLength_cabcc 1 = .ok (.iload_n 1, 1) := by decide +kernel
theorem dJ8_newLength_cabcc_2 : decode cJ8_newLength_cabcc 2 = .ok (.iload_n 2, 1) := by decide +kernel
theorem dJ8_newLength_cabcc_3 : decode cJ8_newLength_cabcc 3 = .ok (.invokestatic 194, 3) := by decide +kernel
theorem dJ8_newLength_cabcc_6 : decode cJ8_newLength_cabcc 6 = .ok (.iadd, 1) := by decide +kernel
theorem dJ8_newLength_cabcc_7 : decode cJ8_newLength_cabcc 7 = .ok (.istore_n 3, 1) := by decide +kernel
theorem dJ8_newLength_cabcc_8 : decode cJ8_newLength_cabcc 8 = .ok (.iconst 0, 1) := by decide +kernel
theorem dJ8_newLength_cabcc_9 : decode cJ8_newLength_cabcc 9 = .ok (.iload_n 3, 1) := by decide +kernel
theorem dJ8_newLength_cabcc_10 : decode cJ8_newLength_cabcc 10 = .ok (.if_icmp .ge 11, 3) := by decide +kernel
theorem dJ8_newLength_cabcc_13 : decode cJ8_newLength_cabcc 13 = .ok (.iload_n 3, 1) := by decide +kernel
theorem dJ8_newLength_cabcc_14 : decode cJ8_newLength_cabcc 14 = .ok (.ldc 200, 2) := by decide +kernel
theorem dJ8_newLength_cabcc_16 : decode cJ8_newLength_cabcc 16 = .ok (.if_icmp .gt 5, 3) := by decide +kernel
theorem dJ8_newLength_cabcc_19 : decode cJ8_newLength_cabcc 19 = .ok (.iload_n 3, 1) := by decide +kernel
theorem dJ8_newLength_cabcc_20 : decode cJ8_newLength_cabcc 20 = .ok (.ireturn, 1) := by decide +kernel
theorem dJ8_newLength_cabcc_21 : decode cJ8_newLength_cabcc 21 = .ok (.iload_n 0, 1) := by decide +kernel
theorem dJ8_newLength_cabcc_22 : decode cJ8_newLength_cabcc 22 = .ok (.iload_n 1, 1) := by decide +kernel
theorem dJ8_newLength_cabcc_23 : decode cJ8_newLength_cabcc 23 = .ok (.invokestatic 201, 3) := by decide +kernel
theorem dJ8_newLength_cabcc_26 : decode cJ8_newLength_cabcc 26 = .ok (.ireturn, 1) := by decide +kernel
theorem yv_J8_newLength_cabcc : YS yJ8_newLength_cabcc cJ8_newLength_cabcc 4 (some .int) 3 := ⟨kw3_44, kw1_19, kw3_45, by decide +kernel⟩
set_option maxHeartbeats 4000000 in
set_option maxRecDepth 100000 in
theorem c_J8_newLength_cabcc {l : Launch} {D : va_G} {cy : Nat → ClassId} {ws : va_W} {a b d : Nat} (ha : 1 ≤ a) (ha2 : a ≤ 300) (hb2 : b ≤ 300) (hd : d ≤ 300) : RO l yJ8_newLength_cabcc cJ8_newLength_cabcc 4 (some .int) 1 14 [.int (nI a), .int (nI b), .int (nI d)] D cy ws (.int (nI (a + max b d))) := by
  refine ROi (by decide) (lv0 := [(0, .int (nI a)), (1, .int (nI b)), (2, .int (nI d))]) rfl (Nat.le_of_ble_eq_true rfl) ?_
  intro p e s m args below meth c ls Q S hP hK hend hl
  have hx := S.1
  have hb := S.2.1
  have hown : s.vm.findClass RJ8 = some m.cls := S.2.2.2.1
  have ht : ∀ w ∈ lw_g, w.before args s = true := fun w h => S.2.2.2.2 w (List.mem_cons_of_mem _ h)
  refine lv_iload_n hx hb dJ8_newLength_cabcc_0 rfl (lv_at hl 0 rfl) ?_
  refine lv_iload_n hx hb dJ8_newLength_cabcc_1 rfl (lv_at hl 1 rfl) ?_
  refine lv_iload_n hx hb dJ8_newLength_cabcc_2 rfl (lv_at hl 2 rfl) ?_
  refine nv_max hx hb (S.2.2.1.trans hl.1.symm) hown (ht _ kw3_46) (ht _ kw1_38) (ht _ kw1_3) (ht _ kw1_39) (Nat.le_of_ble_eq_true rfl) (Nat.le_of_ble_eq_true rfl) (Nat.zero_le _) (Nat.zero_le _) (by omega) (by omega) dJ8_newLength_cabcc_3 ?_
  refine nv_iadd hx hb dJ8_newLength_cabcc_6 ?_
  refine lv_istore_n (lv' := [(3, .int (nI (a + (max b d)))), (0, .int (nI a)), (1, .int (nI b)), (2, .int (nI d))]) hx hb dJ8_newLength_cabcc_7 rfl hl (by decide) rfl (fun ls hl => ?_)
  refine nv_iconst (k := 0) hx hb dJ8_newLength_cabcc_8 rfl ?_
  refine lv_iload_n hx hb dJ8_newLength_cabcc_9 rfl (lv_at hl 0 rfl) ?_
  refine nv_icmp_ge (tgt := 21) hx hb dJ8_newLength_cabcc_10 (by decide) (by omega) (by omega) (fun h10 => ?_) (fun h10 => ?_)
  · skip
    exfalso; omega
  refine lv_iload_n hx hb dJ8_newLength_cabcc_13 rfl (lv_at hl 0 rfl) ?_
  refine nv_ldc (k := 2147483639) hx hb hown (ht _ kw3_47) (by decide) dJ8_newLength_cabcc_14 ?_
  refine nv_icmp_gt (tgt := 21) hx hb dJ8_newLength_cabcc_16 (by decide) (by omega) (by omega) (fun h16 => ?_) (fun h16 => ?_)
  · skip
    exfalso; omega
  refine lv_iload_n hx hb dJ8_newLength_cabcc_19 rfl (lv_at hl 0 rfl) ?_
  exact hend ((congrArg nI (by omega))) dJ8_newLength_cabcc_20
theorem dJ7_copyOf_6403c_0 : decode cJ7_copyOf_6403c 0 = .ok (.aload_n 2, 1) := by decide +kernel
theorem dJ7_copyOf_6403c_1 : decode cJ7_copyOf_6403c 1 = .ok (.ldc 110, 2) := by decide +kernel
theorem dJ7_copyOf_6403c_3 : decode cJ7_copyOf_6403c 3 = .ok (.if_acmp .ne 10, 3) := by decide +kernel
theorem dJ7_copyOf_6403c_6 : decode cJ7_copyOf_6403c 6 = .ok (.iload_n 1, 1) := by decide +kernel
theorem dJ7_copyOf_6403c_7 : decode cJ7_copyOf_6403c 7 = .ok (.anewarray 2, 3) := by decide +kernel
theorem dJ7_copyOf_6403c_10 : decode cJ7_copyOf_6403c 10 = .ok (.goto 14, 3) := by decide +kernel
theorem dJ7_copyOf_6403c_13 : decode cJ7_copyOf_6403c 13 = .ok (.aload_n 2, 1) := by decide +kernel
theorem dJ7_copyOf_6403c_14 : decode cJ7_copyOf_6403c 14 = .ok (.invokevirtual 90, 3) := by decide +kernel
theorem dJ7_copyOf_6403c_17 : decode cJ7_copyOf_6403c 17 = .ok (.iload_n 1, 1) := by decide +kernel
theorem dJ7_copyOf_6403c_18 : decode cJ7_copyOf_6403c 18 = .ok (.invokestatic 95, 3) := by decide +kernel
theorem dJ7_copyOf_6403c_21 : decode cJ7_copyOf_6403c 21 = .ok (.checkcast 110, 3) := by decide +kernel
theorem dJ7_copyOf_6403c_24 : decode cJ7_copyOf_6403c 24 = .ok (.astore_n 3, 1) := by decide +kernel
theorem dJ7_copyOf_6403c_25 : decode cJ7_copyOf_6403c 25 = .ok (.aload_n 0, 1) := by decide +kernel
theorem dJ7_copyOf_6403c_26 : decode cJ7_copyOf_6403c 26 = .ok (.iconst 0, 1) := by decide +kernel
theorem dJ7_copyOf_6403c_27 : decode cJ7_copyOf_6403c 27 = .ok (.aload_n 3, 1) := by decide +kernel
theorem dJ7_copyOf_6403c_28 : decode cJ7_copyOf_6403c 28 = .ok (.iconst 0, 1) := by decide +kernel
theorem dJ7_copyOf_6403c_29 : decode cJ7_copyOf_6403c 29 = .ok (.aload_n 0, 1) := by decide +kernel
theorem dJ7_copyOf_6403c_30 : decode cJ7_copyOf_6403c 30 = .ok (.arraylength, 1) := by decide +kernel
theorem dJ7_copyOf_6403c_31 : decode cJ7_copyOf_6403c 31 = .ok (.iload_n 1, 1) := by decide +kernel
theorem dJ7_copyOf_6403c_32 : decode cJ7_copyOf_6403c 32 = .ok (.invokestatic 304, 3) := by decide +kernel
theorem dJ7_copyOf_6403c_35 : decode cJ7_copyOf_6403c 35 = .ok (.invokestatic 150, 3) := by decide +kernel
theorem dJ7_copyOf_6403c_38 : decode cJ7_copyOf_6403c 38 = .ok (.aload_n 3, 1) := by decide +kernel
theorem dJ7_copyOf_6403c_39 : decode cJ7_copyOf_6403c 39 = .ok (.areturn, 1) := by decide +kernel
theorem yv_J7_copyOf_6403c : YS yJ7_copyOf_6403c cJ7_copyOf_6403c 4 (some (.array (.object "java/lang/Object"))) 3 := ⟨kw3_69, kw1_20, kw3_70, by decide +kernel⟩
set_option maxHeartbeats 4000000 in
set_option maxRecDepth 100000 in
theorem c_J7_copyOf_6403c {l : Launch} {D : va_G} {cy : Nat → ClassId} {e0 : Nat × Nat} {ws : va_W} {ka ea N : Nat} {f : Nat → Option Nat} (hAr : ws[ka]? = some (aQ cy ea N f)) {z : Nat} (hNz : N ≤ z) (hz : z ≤ 300) {ci : Nat} {r9 : vw_C} (hel : ∀ j, j < N → ∃ (y k : Nat) (vs : List Value), f j = some y ∧ ws[k]? = some (y, .inr (ci, vs))) (hci : vwCl[ci]? = some r9) (hca : r9.1 = "TransitGate$Binding" ∨ r9.1 = "TransitGate$Session") : WRX (S := Nat) l yJ7_copyOf_6403c cJ7_copyOf_6403c 4 (some (.array (.object "java/lang/Object"))) 1 1 300 30 [.ref ea, .int (nI z), .ref e0.2] D cy e0 ws (fun u_ => some (va_rf (some u_))) (fun u => u ≠ e0.1 ∧ ∀ x ∈ ws, x.1 ≠ u) (fun u => ws ++ [aQ cy u z (va_cpy f (fun _ => none) 0 0 N)]) := by
  refine WRXr (by first | exact Or.inl ⟨_, rfl⟩ | exact Or.inr ⟨_, rfl⟩) (by decide) (lv0 := [(0, .ref ea), (1, .int (nI z)), (2, .ref e0.2)]) rfl (Nat.le_of_ble_eq_true rfl) ?_
  intro p e s m args below meth c ls A Q S hnm hP hK hD hS hA hE hend hl
  have hx := S.1
  have hb := S.2.1
  have hown : s.vm.findClass RJ7 = some m.cls := S.2.2.2.1
  have ht : ∀ w ∈ lw_g, w.before args s = true := fun w h => S.2.2.2.2 w (List.mem_cons_of_mem _ h)
  refine lv_aload_n hx hb dJ7_copyOf_6403c_0 rfl (lv_at hl 2 rfl) ?_
  refine va_ldcM hx hb hown (ht _ kw3_71) hE.1.2.2.2.1 dJ7_copyOf_6403c_1 ?_
  refine lv_acmp_ne (rx := some e0.2) (ry := some e0.2) (tgt := 13) hx hb dJ7_copyOf_6403c_3 (by decide) (fun h3 => ?_) (fun h3 => ?_)
  · skip
    exact absurd rfl h3
  refine lv_iload_n hx hb dJ7_copyOf_6403c_6 rfl (lv_at hl 1 rfl) ?_
  refine va_newq hx hb hown (ht _ kw3_73) hE.1.2.2.1 hK hP hD hS hA (nI_pos (by omega)) (nI_clamp (n := z) (by omega)) (by omega) (by show _ ≤ 1; omega) (by show _ ≤ 300; omega) dJ7_copyOf_6403c_7 (fun z9 cA H hK2 hP hD hS => ?_)
  have ecA := q_cls hK hK2
  subst ecA
  refine lv_goto (tgt := 24) hx hb dJ7_copyOf_6403c_10 (by decide) ?_
  refine lv_astore_n (lv' := [(3, .ref z9), (0, .ref ea), (1, .int (nI z)), (2, .ref e0.2)]) hx hb dJ7_copyOf_6403c_24 rfl hl (by decide) rfl (fun ls hl => ?_)
  refine lv_aload_n hx hb dJ7_copyOf_6403c_25 rfl (lv_at hl 1 rfl) ?_
  refine nv_iconst (k := 0) hx hb dJ7_copyOf_6403c_26 rfl ?_
  refine lv_aload_n hx hb dJ7_copyOf_6403c_27 rfl (lv_at hl 0 rfl) ?_
  refine nv_iconst (k := 0) hx hb dJ7_copyOf_6403c_28 rfl ?_
  refine lv_aload_n hx hb dJ7_copyOf_6403c_29 rfl (lv_at hl 1 rfl) ?_
  refine va_alen (v := nI (N)) hx hb hK hP ka 3 (app_l hAr) rfl rfl dJ7_copyOf_6403c_30 ?_
  refine lv_iload_n hx hb dJ7_copyOf_6403c_31 rfl (lv_at hl 2 rfl) ?_
  refine nv_min hx hb (S.2.2.1.trans hl.1.symm) hown (ht _ kw3_74) (ht _ kw1_229) (ht _ kw1_3) (ht _ kw1_230) (Nat.le_of_ble_eq_true rfl) (Nat.le_of_ble_eq_true rfl) (by show _ ≤ 1; omega) (by show _ ≤ 300; omega) (by omega) (by omega) dJ7_copyOf_6403c_32 ?_
  have emin : min N z = N := Nat.min_eq_left hNz
  rw [emin]
  refine va_copyq hx hb (S.2.2.1.trans hl.1.symm) hown (ht _ kw3_75) (ht _ kw3_77) (ht _ kw3_76) (ht _ kw1_21) hK hP hD hS ka ws.length 3 3 (app_l hAr) app_e rfl rfl (nI_pos (by omega)) (nI_pos (by omega)) (nI_pos (by omega)) (by rw [nI_clamp (by omega), nI_clamp (by omega)]; omega) (by rw [nI_clamp (by omega), nI_clamp (by omega)]; omega) (C := r9.1) ?_ (cast_asg (by rcases hca with h9 | h9 <;> rw [h9] <;> first | exact hE.1.1 | exact hE.1.2.1)) (Nat.le_of_ble_eq_true rfl) (Nat.le_of_ble_eq_true rfl) dJ7_copyOf_6403c_35 (fun H locs hP hD hS => ?_)
  · intro i9 hi9 y9 hy9
    rw [nI_clamp (by omega)] at hi9
    rw [nI_clamp (by omega)] at hy9
    obtain ⟨y8, k8, vs, e1, e2⟩ := hel (0 + i9) (by omega)
    rw [e1] at hy9
    cases hy9
    exact va_recv hK hP hci (app_l e2)
  rw [app_set, nI_clamp (by omega), nI_clamp (by omega)] at hP hD
  refine lv_aload_n hx hb dJ7_copyOf_6403c_38 rfl (lv_at hl 0 rfl) ?_
  refine W.widen (k := 1) (n := 300) (by omega) (by omega) ?_
  exact hend z9 rfl ⟨fun h9 => hE.2.2.out (by rw [← h9]; exact hD.2 ws.length _ app_e), app_new hD⟩ hP hD hS dJ7_copyOf_6403c_39
theorem dJ7_copyOf_1904c_0 : decode cJ7_copyOf_1904c 0 = .ok (.aload_n 0, 1) := by decide +kernel
theorem dJ7_copyOf_1904c_1 : decode cJ7_copyOf_1904c 1 = .ok (.iload_n 1, 1) := by decide +kernel
theorem dJ7_copyOf_1904c_2 : decode cJ7_copyOf_1904c 2 = .ok (.aload_n 0, 1) := by decide +kernel
theorem dJ7_copyOf_1904c_3 : decode cJ7_copyOf_1904c 3 = .ok (.invokevirtual 86, 3) := by decide +kernel
theorem dJ7_copyOf_1904c_6 : decode cJ7_copyOf_1904c 6 = .ok (.invokestatic 300, 3) := by decide +kernel
theorem dJ7_copyOf_1904c_9 : decode cJ7_copyOf_1904c 9 = .ok (.areturn, 1) := by decide +kernel
theorem yv_J7_copyOf_1904c : YS yJ7_copyOf_1904c cJ7_copyOf_1904c 2 (some (.array (.object "java/lang/Object"))) 2 := ⟨kw3_52, kw1_20, kw3_53, by decide +kernel⟩
set_option maxHeartbeats 4000000 in
set_option maxRecDepth 100000 in
theorem c_J7_copyOf_1904c {l : Launch} {D : va_G} {cy : Nat → ClassId} {e0 : Nat × Nat} {ws : va_W} {ka ea N : Nat} {f : Nat → Option Nat} (hAr : ws[ka]? = some (aQ cy ea N f)) {z : Nat} (hNz : N ≤ z) (hz : z ≤ 300) {ci : Nat} {r9 : vw_C} (hel : ∀ j, j < N → ∃ (y k : Nat) (vs : List Value), f j = some y ∧ ws[k]? = some (y, .inr (ci, vs))) (hci : vwCl[ci]? = some r9) (hca : r9.1 = "TransitGate$Binding" ∨ r9.1 = "TransitGate$Session") : WRX (S := Nat) l yJ7_copyOf_1904c cJ7_copyOf_1904c 2 (some (.array (.object "java/lang/Object"))) 2 1 300 53 [.ref ea, .int (nI z)] D cy e0 ws (fun u_ => some (va_rf (some u_))) (fun u => u ≠ e0.1 ∧ ∀ x ∈ ws, x.1 ≠ u) (fun u => ws ++ [aQ cy u z (va_cpy f (fun _ => none) 0 0 N)]) := by
  refine WRXr (by first | exact Or.inl ⟨_, rfl⟩ | exact Or.inr ⟨_, rfl⟩) (by decide) (lv0 := [(0, .ref ea), (1, .int (nI z))]) rfl (Nat.le_of_ble_eq_true rfl) ?_
  intro p e s m args below meth c ls A Q S hnm hP hK hD hS hA hE hend hl
  have hx := S.1
  have hb := S.2.1
  have hown : s.vm.findClass RJ7 = some m.cls := S.2.2.2.1
  have ht : ∀ w ∈ lw_g, w.before args s = true := fun w h => S.2.2.2.2 w (List.mem_cons_of_mem _ h)
  refine lv_aload_n hx hb dJ7_copyOf_1904c_0 rfl (lv_at hl 0 rfl) ?_
  refine lv_iload_n hx hb dJ7_copyOf_1904c_1 rfl (lv_at hl 1 rfl) ?_
  refine lv_aload_n hx hb dJ7_copyOf_1904c_2 rfl (lv_at hl 0 rfl) ?_
  refine va_getC hx hb (S.2.2.1.trans hl.1.symm) hown (ht _ kw3_54) (va_Dc.use hE.1.2.2.2.2.1) (ht _ kw5_219) (ht _ kw3_55) (ht _ kw3_67) hE.1.2.2.2.1 (q_recv hK hP hAr) (Nat.le_of_ble_eq_true rfl) (Nat.le_of_ble_eq_true rfl) dJ7_copyOf_1904c_3 ?_
  refine wx_S S (c_J7_copyOf_6403c hAr hNz hz hel hci hca) kw3_68 yv_J7_copyOf_6403c ⟨Nat.le_of_ble_eq_true rfl, Nat.le_of_ble_eq_true rfl⟩ hK hP hD hS hA hE rfl hl.1 rfl (Nat.le_of_ble_eq_true rfl) dJ7_copyOf_1904c_6 ⟨(by show _ ≤ 1; omega), (by show _ ≤ 300; omega)⟩ (fun u1 H locs hu1 hP hD hS => ?_)
  refine W.eq (g2 := F0 m 9 ls [.ref u1]) rfl ?_
  exact hend u1 rfl hu1 hP hD hS dJ7_copyOf_1904c_9
theorem dJx4a65c_grow_92f84_0 : decode cJx4a65c_grow_92f84 0 = .ok (.aload_n 0, 1) := by decide +kernel
theorem dJx4a65c_grow_92f84_1 : decode cJx4a65c_grow_92f84 1 = .ok (.getfield 9, 3) := by decide +kernel
theorem dJx4a65c_grow_92f84_4 : decode cJx4a65c_grow_92f84 4 = .ok (.arraylength, 1) := by decide +kernel
theorem dJx4a65c_grow_92f84_5 : decode cJx4a65c_grow_92f84 5 = .ok (.istore_n 2, 1) := by decide +kernel
theorem dJx4a65c_grow_92f84_6 : decode cJx4a65c_grow_92f84 6 = .ok (.iload_n 2, 1) := by decide +kernel
theorem dJx4a65c_grow_92f84_7 : decode cJx4a65c_grow_92f84 7 = .ok (.ifCond .gt 13, 3) := by decide +kernel
theorem dJx4a65c_grow_92f84_10 : decode cJx4a65c_grow_92f84 10 = .ok (.aload_n 0, 1) := by decide +kernel
theorem dJx4a65c_grow_92f84_11 : decode cJx4a65c_grow_92f84 11 = .ok (.getfield 9, 3) := by decide +kernel
theorem dJx4a65c_grow_92f84_14 : decode cJx4a65c_grow_92f84 14 = .ok (.getstatic 39, 3) := by decide +kernel
theorem dJx4a65c_grow_92f84_17 : decode cJx4a65c_grow_92f84 17 = .ok (.if_acmp .eq 28, 3) := by decide +kernel
theorem dJx4a65c_grow_92f84_20 : decode cJx4a65c_grow_92f84 20 = .ok (.iload_n 2, 1) := by decide +kernel
theorem dJx4a65c_grow_92f84_21 : decode cJx4a65c_grow_92f84 21 = .ok (.iload_n 1, 1) := by decide +kernel
theorem dJx4a65c_grow_92f84_22 : decode cJx4a65c_grow_92f84 22 = .ok (.iload_n 2, 1) := by decide +kernel
theorem dJx4a65c_grow_92f84_23 : decode cJx4a65c_grow_92f84 23 = .ok (.isub, 1) := by decide +kernel
theorem dJx4a65c_grow_92f84_24 : decode cJx4a65c_grow_92f84 24 = .ok (.iload_n 2, 1) := by decide +kernel
theorem dJx4a65c_grow_92f84_25 : decode cJx4a65c_grow_92f84 25 = .ok (.iconst 1, 1) := by decide +kernel
theorem dJx4a65c_grow_92f84_26 : decode cJx4a65c_grow_92f84 26 = .ok (.ishr, 1) := by decide +kernel
theorem dJx4a65c_grow_92f84_27 : decode cJx4a65c_grow_92f84 27 = .ok (.invokestatic 73, 3) := by decide +kernel
theorem dJx4a65c_grow_92f84_30 : decode cJx4a65c_grow_92f84 30 = .ok (.istore_n 3, 1) := by decide +kernel
theorem dJx4a65c_grow_92f84_31 : decode cJx4a65c_grow_92f84 31 = .ok (.aload_n 0, 1) := by decide +kernel
theorem dJx4a65c_grow_92f84_32 : decode cJx4a65c_grow_92f84 32 = .ok (.aload_n 0, 1) := by decide +kernel
theorem dJx4a65c_grow_92f84_33 : decode cJx4a65c_grow_92f84 33 = .ok (.getfield 9, 3) := by decide +kernel
theorem dJx4a65c_grow_92f84_36 : decode cJx4a65c_grow_92f84 36 = .ok (.iload_n 3, 1) := by decide +kernel
theorem dJx4a65c_grow_92f84_37 : decode cJx4a65c_grow_92f84 37 = .ok (.invokestatic 66, 3) := by decide +kernel
theorem dJx4a65c_grow_92f84_40 : decode cJx4a65c_grow_92f84 40 = .ok (.dup_x1, 1) := by decide +kernel
theorem dJx4a65c_grow_92f84_41 : decode cJx4a65c_grow_92f84 41 = .ok (.putfield 9, 3) := by decide +kernel
theorem dJx4a65c_grow_92f84_44 : decode cJx4a65c_grow_92f84 44 = .ok (.areturn, 1) := by decide +kernel
theorem dJx4a65c_grow_92f84_45 : decode cJx4a65c_grow_92f84 45 = .ok (.aload_n 0, 1) := by decide +kernel
theorem dJx4a65c_grow_92f84_46 : decode cJx4a65c_grow_92f84 46 = .ok (.bipush 10, 2) := by decide +kernel
theorem dJx4a65c_grow_92f84_48 : decode cJx4a65c_grow_92f84 48 = .ok (.iload_n 1, 1) := by decide +kernel
theorem dJx4a65c_grow_92f84_49 : decode cJx4a65c_grow_92f84 49 = .ok (.invokestatic 79, 3) := by decide +kernel
theorem dJx4a65c_grow_92f84_52 : decode cJx4a65c_grow_92f84 52 = .ok (.anewarray 7, 3) := by decide +kernel
theorem dJx4a65c_grow_92f84_55 : decode cJx4a65c_grow_92f84 55 = .ok (.dup_x1, 1) := by decide +kernel
theorem dJx4a65c_grow_92f84_56 : decode cJx4a65c_grow_92f84 56 = .ok (.putfield 9, 3) := by decide +kernel
theorem dJx4a65c_grow_92f84_59 : decode cJx4a65c_grow_92f84 59 = .ok (.areturn, 1) := by decide +kernel
theorem yv_Jx4a65c_grow_92f84 : YV RJx4a65c yJx4a65c_grow_92f84 cJx4a65c_grow_92f84 4 (some (.array (.object "java/lang/Object"))) 1 := ⟨kw3_41, kws_13, kw1_9, kw3_42, by decide +kernel⟩
set_option maxHeartbeats 4000000 in
set_option maxRecDepth 100000 in
theorem c_Jx4a65c_grow_92f84a {l : Launch} {D : va_G} {cy : Nat → ClassId} {e0 : Nat × Nat} {ws : va_W} {kl q ea n : Nat} {mo : Int32} (hL : ws[kl]? = some (aL q mo ea n)) {ka N : Nat} {f : Nat → Option Nat} (hAr : ws[ka]? = some (aQ cy ea N f)) (hnN : n = N) (hN : 10 ≤ N) (hN2 : N < 128) {ci : Nat} {r9 : vw_C} (hel : ∀ j, j < N → ∃ (y k : Nat) (vs : List Value), f j = some y ∧ ws[k]? = some (y, .inr (ci, vs))) (hci : vwCl[ci]? = some r9) (hca : r9.1 = "TransitGate$Binding" ∨ r9.1 = "TransitGate$Session") {x : Nat} (hx0 : x = n + 1) : WRX (S := (Nat × Nat × (Nat → Option Nat))) l yJx4a65c_grow_92f84 cJx4a65c_grow_92f84 4 (some (.array (.object "java/lang/Object"))) 3 1 300 74 [.ref q, .int (nI x)] D cy e0 ws (fun u_ => some (va_rf (some u_.1))) (fun u => n < u.2.1 ∧ 10 ≤ u.2.1 ∧ u.2.1 ≤ 300 ∧ (∀ j, j < n → u.2.2 j = f j) ∧ u.1 ≠ e0.1 ∧ ∀ x ∈ ws, x.1 ≠ u.1) (fun u => ws.set kl (aL q mo u.1 n) ++ [aQ cy u.1 u.2.1 u.2.2]) := by
  refine WRXr (by first | exact Or.inl ⟨_, rfl⟩ | exact Or.inr ⟨_, rfl⟩) (by decide) (lv0 := [(0, .ref q), (1, .int (nI x))]) rfl (Nat.le_of_ble_eq_true rfl) ?_
  intro p e s m args below meth c ls A Q S hnm hP hK hD hS hA hE hend hl
  have hx := S.1
  have hb := S.2.1
  have hown : s.vm.findClass RJx4a65c = some m.cls := S.2.2.2.1
  have ht : ∀ w ∈ lw_g, w.before args s = true := fun w h => S.2.2.2.2 w (List.mem_cons_of_mem _ h)
  refine lv_aload_n hx hb dJx4a65c_grow_92f84_0 rfl (lv_at hl 0 rfl) ?_
  refine va_get (ci := 0) (C := RJx4a65c) (T := TJx4a65c) (N := 3) hx hb ht iFJx4a65c hown hK hP kl hL rfl 1 (by decide) (ht _ kw1_101) (fun _ h9 => h9) rfl dJx4a65c_grow_92f84_1 ?_
  refine va_alen (v := nI (N)) hx hb hK hP ka 3 hAr rfl rfl dJx4a65c_grow_92f84_4 ?_
  refine lv_istore_n (lv' := [(2, .int (nI N)), (0, .ref q), (1, .int (nI x))]) hx hb dJx4a65c_grow_92f84_5 rfl hl (by decide) rfl (fun ls hl => ?_)
  refine lv_iload_n hx hb dJx4a65c_grow_92f84_6 rfl (lv_at hl 0 rfl) ?_
  refine nv_if_gt (tgt := 20) hx hb dJx4a65c_grow_92f84_7 (by decide) (by omega) (fun h7 => ?_) (fun h7 => ?_)
  · skip
    refine lv_iload_n hx hb dJx4a65c_grow_92f84_20 rfl (lv_at hl 0 rfl) ?_
    refine lv_iload_n hx hb dJx4a65c_grow_92f84_21 rfl (lv_at hl 2 rfl) ?_
    refine lv_iload_n hx hb dJx4a65c_grow_92f84_22 rfl (lv_at hl 0 rfl) ?_
    refine nv_isub hx hb (by omega) dJx4a65c_grow_92f84_23 ?_
    refine lv_iload_n hx hb dJx4a65c_grow_92f84_24 rfl (lv_at hl 0 rfl) ?_
    refine nv_iconst (k := 1) hx hb dJx4a65c_grow_92f84_25 rfl ?_
    refine nv_ishr hx hb (by omega) (by omega) dJx4a65c_grow_92f84_26 ?_
    refine ro_S S (c_J8_newLength_cabcc (a := N) (b := x - N) (d := (N) / 2 ^ 1) (by omega) (by omega) (by omega) (by omega)) kw3_43 yv_J8_newLength_cabcc ⟨Nat.le_of_ble_eq_true rfl, Nat.le_of_ble_eq_true rfl⟩ hK hP rfl hl.1 rfl (Nat.le_of_ble_eq_true rfl) dJx4a65c_grow_92f84_27 ⟨(Nat.zero_le _), (Nat.zero_le _)⟩ ?_
    refine lv_istore_n (lv' := [(3, .int (nI (N + max (x - N) ((N) / 2 ^ 1)))), (2, .int (nI N)), (0, .ref q), (1, .int (nI x))]) hx hb dJx4a65c_grow_92f84_30 rfl hl (by decide) rfl (fun ls hl => ?_)
    refine lv_aload_n hx hb dJx4a65c_grow_92f84_31 rfl (lv_at hl 2 rfl) ?_
    refine lv_aload_n hx hb dJx4a65c_grow_92f84_32 rfl (lv_at hl 2 rfl) ?_
    refine va_get (ci := 0) (C := RJx4a65c) (T := TJx4a65c) (N := 3) hx hb ht iFJx4a65c hown hK hP kl hL rfl 1 (by decide) (ht _ kw1_101) (fun _ h9 => h9) rfl dJx4a65c_grow_92f84_33 ?_
    refine lv_iload_n hx hb dJx4a65c_grow_92f84_36 rfl (lv_at hl 0 rfl) ?_
    refine wx_S S (c_J7_copyOf_1904c (ka := ka) (z := N + max (x - N) ((N) / 2 ^ 1)) hAr (by omega) (by omega) hel hci hca) kw3_51 yv_J7_copyOf_1904c ⟨Nat.le_of_ble_eq_true rfl, Nat.le_of_ble_eq_true rfl⟩ hK hP hD hS hA hE rfl hl.1 rfl (Nat.le_of_ble_eq_true rfl) dJx4a65c_grow_92f84_37 ⟨(by show _ ≤ 1; omega), (by show _ ≤ 300; omega)⟩ (fun u1 H locs hu1 hP hD hS => ?_)
    refine W.eq (g2 := F0 m 40 ls [.ref u1, .ref q]) rfl ?_
    refine lv_dup_x1 hx hb dJx4a65c_grow_92f84_40 rfl rfl ?_
    refine va_put (ci := 0) (C := RJx4a65c) (T := TJx4a65c) (N := 3) (ty := tyJx4a65c 1) hx hb ht iFJx4a65c tyJx4a65c tyJx4a65c_ok nmJx4a65c hown hK hP hD hS kl (app_l hL) rfl 1 (by decide) (ht _ kw1_101) (fun _ h9 => h9) rfl (by decide +kernel) (by first | rfl | decide) (by first | rfl | decide) (Nat.le_of_ble_eq_true rfl) dJx4a65c_grow_92f84_41 (fun H locs hP hD hS => ?_)
    rw [app_setl hL] at hP hD
    exact hend (u1, N + max (x - N) ((N) / 2 ^ 1), va_cpy f (fun _ => none) 0 0 N) rfl ⟨by show n < N + max (x - N) ((N) / 2 ^ 1); omega, by show 10 ≤ N + max (x - N) ((N) / 2 ^ 1); omega, by show N + max (x - N) ((N) / 2 ^ 1) ≤ 300; omega, fun j hj => by show va_cpy f (fun _ => none) 0 0 N j = f j; unfold va_cpy; rw [if_pos (by omega)]; congr 1; omega, hu1.1, hu1.2⟩ hP hD hS dJx4a65c_grow_92f84_44
  exact absurd h7 (by omega)
set_option maxHeartbeats 4000000 in
set_option maxRecDepth 100000 in
theorem c_Jx4a65c_grow_92f84b {l : Launch} {D : va_G} {cy : Nat → ClassId} {e0 : Nat × Nat} {ws : va_W} {kl q n : Nat} {mo : Int32} (hL : ws[kl]? = some (aL q mo e0.1 n)) (hn0 : n = 0) {f : Nat → Option Nat} {x : Nat} (hx0 : x = n + 1) : WRX (S := (Nat × Nat × (Nat → Option Nat))) l yJx4a65c_grow_92f84 cJx4a65c_grow_92f84 4 (some (.array (.object "java/lang/Object"))) 3 1 300 74 [.ref q, .int (nI x)] D cy e0 ws (fun u_ => some (va_rf (some u_.1))) (fun u => n < u.2.1 ∧ 10 ≤ u.2.1 ∧ u.2.1 ≤ 300 ∧ (∀ j, j < n → u.2.2 j = f j) ∧ u.1 ≠ e0.1 ∧ ∀ x ∈ ws, x.1 ≠ u.1) (fun u => ws.set kl (aL q mo u.1 n) ++ [aQ cy u.1 u.2.1 u.2.2]) := by
  refine WRXr (by first | exact Or.inl ⟨_, rfl⟩ | exact Or.inr ⟨_, rfl⟩) (by decide) (lv0 := [(0, .ref q), (1, .int (nI x))]) rfl (Nat.le_of_ble_eq_true rfl) ?_
  intro p e s m args below meth c ls A Q S hnm hP hK hD hS hA hE hend hl
  have hx := S.1
  have hb := S.2.1
  have hown : s.vm.findClass RJx4a65c = some m.cls := S.2.2.2.1
  have ht : ∀ w ∈ lw_g, w.before args s = true := fun w h => S.2.2.2.2 w (List.mem_cons_of_mem _ h)
  refine lv_aload_n hx hb dJx4a65c_grow_92f84_0 rfl (lv_at hl 0 rfl) ?_
  refine va_get (ci := 0) (C := RJx4a65c) (T := TJx4a65c) (N := 3) hx hb ht iFJx4a65c hown hK hP kl hL rfl 1 (by decide) (ht _ kw1_101) (fun _ h9 => h9) rfl dJx4a65c_grow_92f84_1 ?_
  refine va_tlen hx hb hE.2.2 hS (v := nI 0) rfl dJx4a65c_grow_92f84_4 ?_
  refine lv_istore_n (lv' := [(2, .int (nI 0)), (0, .ref q), (1, .int (nI x))]) hx hb dJx4a65c_grow_92f84_5 rfl hl (by decide) rfl (fun ls hl => ?_)
  refine lv_iload_n hx hb dJx4a65c_grow_92f84_6 rfl (lv_at hl 0 rfl) ?_
  refine nv_if_gt (tgt := 20) hx hb dJx4a65c_grow_92f84_7 (by decide) (by omega) (fun h => absurd h (by decide)) (fun _ => ?_)
  refine lv_aload_n hx hb dJx4a65c_grow_92f84_10 rfl (lv_at hl 1 rfl) ?_
  refine va_get (ci := 0) (C := RJx4a65c) (T := TJx4a65c) (N := 3) hx hb ht iFJx4a65c hown hK hP kl hL rfl 1 (by decide) (ht _ kw1_101) (fun _ h9 => h9) rfl dJx4a65c_grow_92f84_11 ?_
  refine va_gets hx hb hE.2.1 hS hown (ht _ kw1_99) (fun _ h9 => h9) dJx4a65c_grow_92f84_14 ?_
  refine lv_acmp_eq (rx := some e0.1) (ry := some e0.1) (tgt := 45) hx hb dJx4a65c_grow_92f84_17 (by decide) (fun h17 => ?_) (fun h17 => ?_)
  · skip
    refine lv_aload_n hx hb dJx4a65c_grow_92f84_45 rfl (lv_at hl 1 rfl) ?_
    refine nv_bipush (k := 10) hx hb dJx4a65c_grow_92f84_46 (by decide) ?_
    refine lv_iload_n hx hb dJx4a65c_grow_92f84_48 rfl (lv_at hl 2 rfl) ?_
    refine nv_max hx hb (S.2.2.1.trans hl.1.symm) hown (ht _ kw3_78) (ht _ kw1_38) (ht _ kw1_3) (ht _ kw1_39) (Nat.le_of_ble_eq_true rfl) (Nat.le_of_ble_eq_true rfl) (Nat.zero_le _) (Nat.zero_le _) (by omega) (by omega) dJx4a65c_grow_92f84_49 ?_
    refine va_newq hx hb hown (ht _ kw3_79) hE.1.2.2.1 hK hP hD hS hA (nI_pos (by omega)) (nI_clamp (n := max 10 x) (by omega)) (by omega) (by show _ ≤ 1; omega) (by show _ ≤ 300; omega) dJx4a65c_grow_92f84_52 (fun z9 cA H hK2 hP hD hS => ?_)
    have ecA := q_cls hK hK2
    subst ecA
    have hnew9 := app_new hD
    refine lv_dup_x1 hx hb dJx4a65c_grow_92f84_55 rfl rfl ?_
    refine va_put (ci := 0) (C := RJx4a65c) (T := TJx4a65c) (N := 3) (ty := tyJx4a65c 1) hx hb ht iFJx4a65c tyJx4a65c tyJx4a65c_ok nmJx4a65c hown hK hP hD hS kl (app_l hL) rfl 1 (by decide) (ht _ kw1_101) (fun _ h9 => h9) rfl (by decide +kernel) (by first | rfl | decide) (by first | rfl | decide) (Nat.le_of_ble_eq_true rfl) dJx4a65c_grow_92f84_56 (fun H locs hP hD hS => ?_)
    rw [app_setl hL] at hP hD
    refine W.widen (k := 1) (n := 300) (by omega) (by omega) ?_
    have hD9 : va_D A (ws.set kl (aL q mo z9 n) ++ [aQ cy z9 (max 10 x) (fun _ => none)]) := hD
    exact hend (z9, max 10 x, fun _ => none) rfl ⟨by show n < max 10 x; omega, by show 10 ≤ max 10 x; omega, by show max 10 x ≤ 300; omega, fun j hj => absurd hj (by omega), fun h9 => hE.2.2.out (by rw [← h9]; exact hD9.2 _ _ app_e), hnew9⟩ hP hD hS dJx4a65c_grow_92f84_59
  exact absurd rfl h17
theorem c_Jx4a65c_grow_92f84 {l : Launch} {D : va_G} {cy : Nat → ClassId} {e0 : Nat × Nat} {ws : va_W} {kl q ea n : Nat} {mo : Int32} {f : Nat → Option Nat} {ci : Nat} {r9 : vw_C} (hL : ws[kl]? = some (aL q mo ea n)) (hcase : (ea = e0.1 ∧ n = 0) ∨ ∃ ka N : Nat, ws[ka]? = some (aQ cy ea N f) ∧ n = N ∧ 10 ≤ N ∧ N < 128 ∧ ∀ j, j < N → ∃ (y k : Nat) (vs : List Value), f j = some y ∧ ws[k]? = some (y, .inr (ci, vs))) (hci : vwCl[ci]? = some r9) (hca : r9.1 = "TransitGate$Binding" ∨ r9.1 = "TransitGate$Session") {x : Nat} (hx0 : x = n + 1) : WRX (S := (Nat × Nat × (Nat → Option Nat))) l yJx4a65c_grow_92f84 cJx4a65c_grow_92f84 4 (some (.array (.object "java/lang/Object"))) 3 1 300 74 [.ref q, .int (nI x)] D cy e0 ws (fun u_ => some (va_rf (some u_.1))) (fun u => n < u.2.1 ∧ 10 ≤ u.2.1 ∧ u.2.1 ≤ 300 ∧ (∀ j, j < n → u.2.2 j = f j) ∧ u.1 ≠ e0.1 ∧ ∀ x ∈ ws, x.1 ≠ u.1) (fun u => ws.set kl (aL q mo u.1 n) ++ [aQ cy u.1 u.2.1 u.2.2]) := by
  rcases hcase with ⟨rfl, h2⟩ | ⟨ka, N, h1, h2, h3, h4, h5⟩
  · exact c_Jx4a65c_grow_92f84b hL h2 hx0
  · exact c_Jx4a65c_grow_92f84a hL h1 h2 h3 h4 h5 hci hca hx0
