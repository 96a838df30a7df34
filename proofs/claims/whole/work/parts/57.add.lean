theorem set_addr {ws : va_W} {kl q : Nat} {e1 e2 : va_E} (h : ws[kl]? = some (q, e1)) {u : Nat} (hu : ∀ x ∈ ws.set kl (q, e2), x.1 ≠ u) : ∀ x ∈ ws, x.1 ≠ u := by
  intro x hx
  obtain ⟨k, hk⟩ := List.getElem?_of_mem hx
  by_cases e : kl = k
  · subst e
    rw [h] at hk
    cases hk
    exact hu (q, e2) (List.mem_of_getElem? (List.getElem?_set_self (lst_lt h)))
  · exact hu x (List.mem_of_getElem? ((List.getElem?_set_ne e).trans hk))
theorem dJx4a65c_grow_d5877_0 : decode cJx4a65c_grow_d5877 0 = .ok (.aload_n 0, 1) := by decide +kernel
theorem dJx4a65c_grow_d5877_1 : decode cJx4a65c_grow_d5877 1 = .ok (.aload_n 0, 1) := by decide +kernel
theorem dJx4a65c_grow_d5877_2 : decode cJx4a65c_grow_d5877 2 = .ok (.getfield 48, 3) := by decide +kernel
theorem dJx4a65c_grow_d5877_5 : decode cJx4a65c_grow_d5877 5 = .ok (.iconst 1, 1) := by decide +kernel
theorem dJx4a65c_grow_d5877_6 : decode cJx4a65c_grow_d5877 6 = .ok (.iadd, 1) := by decide +kernel
theorem dJx4a65c_grow_d5877_7 : decode cJx4a65c_grow_d5877 7 = .ok (.invokevirtual 69, 3) := by decide +kernel
theorem dJx4a65c_grow_d5877_10 : decode cJx4a65c_grow_d5877 10 = .ok (.areturn, 1) := by decide +kernel
theorem yv_Jx4a65c_grow_d5877 : YV RJx4a65c yJx4a65c_grow_d5877 cJx4a65c_grow_d5877 1 (some (.array (.object "java/lang/Object"))) 0 := ⟨kw3_37, kws_12, kw1_9, kw3_38, by decide +kernel⟩
set_option maxHeartbeats 4000000 in
set_option maxRecDepth 100000 in
theorem c_Jx4a65c_grow_d5877 {l : Launch} {D : va_G} {cy : Nat → ClassId} {e0 : Nat × Nat} {ws : va_W} {kl q ea n : Nat} {mo : Int32} {f : Nat → Option Nat} {ci : Nat} {r9 : vw_C} (hL : ws[kl]? = some (aL q mo ea n)) (hcase : (ea = e0.1 ∧ n = 0) ∨ ∃ ka N : Nat, ws[ka]? = some (aQ cy ea N f) ∧ n = N ∧ 10 ≤ N ∧ N < 128 ∧ ∀ j, j < N → ∃ (y k : Nat) (vs : List Value), f j = some y ∧ ws[k]? = some (y, .inr (ci, vs))) (hci : vwCl[ci]? = some r9) (hca : r9.1 = "TransitGate$Binding" ∨ r9.1 = "TransitGate$Session") : WRX (S := (Nat × Nat × (Nat → Option Nat))) l yJx4a65c_grow_d5877 cJx4a65c_grow_d5877 1 (some (.array (.object "java/lang/Object"))) 4 1 300 97 [.ref q] D cy e0 ws (fun u_ => some (va_rf (some u_.1))) (fun u => n < u.2.1 ∧ 10 ≤ u.2.1 ∧ u.2.1 ≤ 300 ∧ (∀ j, j < n → u.2.2 j = f j) ∧ u.1 ≠ e0.1 ∧ ∀ x ∈ ws, x.1 ≠ u.1) (fun u => ws.set kl (aL q mo u.1 n) ++ [aQ cy u.1 u.2.1 u.2.2]) := by
  refine WRXr (by first | exact Or.inl ⟨_, rfl⟩ | exact Or.inr ⟨_, rfl⟩) (by decide) (lv0 := [(0, .ref q)]) rfl (Nat.le_of_ble_eq_true rfl) ?_
  intro p e s m args below meth c ls A Q S hnm hP hK hD hS hA hE hend hl
  have hx := S.1
  have hb := S.2.1
  have hown : s.vm.findClass RJx4a65c = some m.cls := S.2.2.2.1
  have ht : ∀ w ∈ lw_g, w.before args s = true := fun w h => S.2.2.2.2 w (List.mem_cons_of_mem _ h)
  refine lv_aload_n hx hb dJx4a65c_grow_d5877_0 rfl (lv_at hl 0 rfl) ?_
  refine lv_aload_n hx hb dJx4a65c_grow_d5877_1 rfl (lv_at hl 0 rfl) ?_
  refine va_get (ci := 0) (C := RJx4a65c) (T := TJx4a65c) (N := 3) hx hb ht iFJx4a65c hown hK hP kl hL rfl 2 (by decide) (ht _ kw1_102) (fun _ h9 => h9) rfl dJx4a65c_grow_d5877_2 ?_
  refine nv_iconst (k := 1) hx hb dJx4a65c_grow_d5877_5 rfl ?_
  refine nv_iadd hx hb dJx4a65c_grow_d5877_6 ?_
  refine wx_V S (c_Jx4a65c_grow_92f84 (f := f) (ci := ci) (r9 := r9) hL hcase hci hca (x := n + 1) rfl) kw3_39 yv_Jx4a65c_grow_92f84 ⟨Nat.le_of_ble_eq_true rfl, Nat.le_of_ble_eq_true rfl⟩ hK hP hD hS hA hE (va_recv hK hP (ci := 0) (q0 := kl) rfl hL) rfl hl.1 rfl (Nat.le_of_ble_eq_true rfl) dJx4a65c_grow_d5877_7 ⟨(by show _ ≤ 1; omega), (by show _ ≤ 300; omega)⟩ (fun u1 H locs hu1 hP hD hS => ?_)
  refine W.eq (g2 := F0 m 10 ls [.ref u1.1]) rfl ?_
  exact hend u1 rfl hu1 hP hD hS dJx4a65c_grow_d5877_10
theorem dJx4a65c_add_72be8_0 : decode cJx4a65c_add_72be8 0 = .ok (.iload_n 3, 1) := by decide +kernel
theorem dJx4a65c_add_72be8_1 : decode cJx4a65c_add_72be8 1 = .ok (.aload_n 2, 1) := by decide +kernel
theorem dJx4a65c_add_72be8_2 : decode cJx4a65c_add_72be8 2 = .ok (.arraylength, 1) := by decide +kernel
theorem dJx4a65c_add_72be8_3 : decode cJx4a65c_add_72be8 3 = .ok (.if_icmp .ne 8, 3) := by decide +kernel
theorem dJx4a65c_add_72be8_6 : decode cJx4a65c_add_72be8 6 = .ok (.aload_n 0, 1) := by decide +kernel
theorem dJx4a65c_add_72be8_7 : decode cJx4a65c_add_72be8 7 = .ok (.invokevirtual 129, 3) := by decide +kernel
theorem dJx4a65c_add_72be8_10 : decode cJx4a65c_add_72be8 10 = .ok (.astore_n 2, 1) := by decide +kernel
theorem dJx4a65c_add_72be8_11 : decode cJx4a65c_add_72be8 11 = .ok (.aload_n 2, 1) := by decide +kernel
theorem dJx4a65c_add_72be8_12 : decode cJx4a65c_add_72be8 12 = .ok (.iload_n 3, 1) := by decide +kernel
theorem dJx4a65c_add_72be8_13 : decode cJx4a65c_add_72be8 13 = .ok (.aload_n 1, 1) := by decide +kernel
theorem dJx4a65c_add_72be8_14 : decode cJx4a65c_add_72be8 14 = .ok (.aastore, 1) := by decide +kernel
theorem dJx4a65c_add_72be8_15 : decode cJx4a65c_add_72be8 15 = .ok (.aload_n 0, 1) := by decide +kernel
theorem dJx4a65c_add_72be8_16 : decode cJx4a65c_add_72be8 16 = .ok (.iload_n 3, 1) := by decide +kernel
theorem dJx4a65c_add_72be8_17 : decode cJx4a65c_add_72be8 17 = .ok (.iconst 1, 1) := by decide +kernel
theorem dJx4a65c_add_72be8_18 : decode cJx4a65c_add_72be8 18 = .ok (.iadd, 1) := by decide +kernel
theorem dJx4a65c_add_72be8_19 : decode cJx4a65c_add_72be8 19 = .ok (.putfield 48, 3) := by decide +kernel
theorem dJx4a65c_add_72be8_22 : decode cJx4a65c_add_72be8 22 = .ok (.return_, 1) := by decide +kernel
theorem yv_Jx4a65c_add_72be8 : YV RJx4a65c yJx4a65c_add_72be8 cJx4a65c_add_72be8 4 none 3 := ⟨kw3_33, kws_11, kw1_9, kw3_34, by decide +kernel⟩
set_option maxHeartbeats 4000000 in
set_option maxRecDepth 100000 in
theorem c_Jx4a65c_add_72be8R {l : Launch} {D : va_G} {cy : Nat → ClassId} {e0 : Nat × Nat} {ws : va_W} {kl q ea n : Nat} {mo : Int32} (hL : ws[kl]? = some (aL q mo ea n)) {ka N : Nat} {f : Nat → Option Nat} (hAr : ws[ka]? = some (aQ cy ea N f)) (hnN : n ≤ N) (hN : N ≤ 300) (hroom : n < N) {ci : Nat} {r9 : vw_C} (hci : vwCl[ci]? = some r9) (hca : r9.1 = "TransitGate$Binding" ∨ r9.1 = "TransitGate$Session") (hc0 : ci ≠ 0) {kx x : Nat} {vx : List Value} (hx0 : ws[kx]? = some (x, .inr (ci, vx))) : WRX (S := Unit) l yJx4a65c_add_72be8 cJx4a65c_add_72be8 4 none 0 0 0 0 [.ref q, .ref x, .ref ea, .int (nI n)] D cy e0 ws (fun _ => none) (fun _ => True) (fun _ => wL ws kl ka (aL q mo ea (n + 1)) (aQ cy ea N (va_up f n (some x)))) := by
  refine WRXv (by decide) (lv0 := [(0, .ref q), (1, .ref x), (2, .ref ea), (3, .int (nI n))]) rfl (Nat.le_of_ble_eq_true rfl) ?_
  intro p e s m args below meth c ls A Q S hnm hP hK hD hS hA hE hend hl
  have hx := S.1
  have hb := S.2.1
  have hown : s.vm.findClass RJx4a65c = some m.cls := S.2.2.2.1
  have ht : ∀ w ∈ lw_g, w.before args s = true := fun w h => S.2.2.2.2 w (List.mem_cons_of_mem _ h)
  have hne : kl ≠ ka := lst_ne hL hAr (by intro h9; cases h9)
  have hP : va_P D vwCl (wL ws kl ka (aL q mo ea n) (aQ cy ea N f)) s.heap := by rw [wL_self hL hAr]; exact hP
  have hD : va_D A (wL ws kl ka (aL q mo ea n) (aQ cy ea N f)) := by rw [wL_self hL hAr]; exact hD
  refine lv_iload_n hx hb dJx4a65c_add_72be8_0 rfl (lv_at hl 3 rfl) ?_
  refine lv_aload_n hx hb dJx4a65c_add_72be8_1 rfl (lv_at hl 2 rfl) ?_
  refine va_alen (v := nI (N)) hx hb hK hP ka 3 (wL_a hAr) rfl rfl dJx4a65c_add_72be8_2 ?_
  refine nv_icmp_ne (tgt := 11) hx hb dJx4a65c_add_72be8_3 (by decide) (by omega) (by omega) (fun h3 => ?_) (fun h3 => ?_)
  · skip
    refine lv_aload_n hx hb dJx4a65c_add_72be8_11 rfl (lv_at hl 2 rfl) ?_
    refine lv_iload_n hx hb dJx4a65c_add_72be8_12 rfl (lv_at hl 3 rfl) ?_
    refine lv_aload_n hx hb dJx4a65c_add_72be8_13 rfl (lv_at hl 1 rfl) ?_
    refine nv_qast hx hb hK hP hD hS ka (wL_a hAr) ⟨kx, ci, r9, vx, wL_o (lst_ne hL hx0 (by intro h9; injection h9 with _ h8; injection h8 with h7; injection h7 with h6; exact hc0 h6.symm)) (lst_ne hAr hx0 (by intro h9; cases h9)) hx0, hci, by rcases hca with h9 | h9 <;> rw [h9] <;> first | exact hE.1.1 | exact hE.1.2.1⟩ (by omega) (by omega) dJx4a65c_add_72be8_14 (fun H locs hP hD hS => ?_)
    rw [wL_setA] at hP hD
    have hP : va_P D vwCl (wL ws kl ka (aL q mo ea n) (aQ cy ea N (va_up f n (some x)))) H := hP
    have hD : va_D A (wL ws kl ka (aL q mo ea n) (aQ cy ea N (va_up f n (some x)))) := hD
    refine lv_aload_n hx hb dJx4a65c_add_72be8_15 rfl (lv_at hl 0 rfl) ?_
    refine lv_iload_n hx hb dJx4a65c_add_72be8_16 rfl (lv_at hl 3 rfl) ?_
    refine nv_iconst (k := 1) hx hb dJx4a65c_add_72be8_17 rfl ?_
    refine nv_iadd hx hb dJx4a65c_add_72be8_18 ?_
    refine va_put (ci := 0) (C := RJx4a65c) (T := TJx4a65c) (N := 3) (ty := tyJx4a65c 2) hx hb ht iFJx4a65c tyJx4a65c tyJx4a65c_ok nmJx4a65c hown hK hP hD hS kl (wL_l hne hL) rfl 2 (by decide) (ht _ kw1_102) (fun _ h9 => h9) rfl (by decide +kernel) (by first | rfl | decide) (by first | rfl | decide) (Nat.le_of_ble_eq_true rfl) dJx4a65c_add_72be8_19 (fun H locs hP hD hS => ?_)
    rw [wL_setL hne] at hP hD
    have hP : va_P D vwCl (wL ws kl ka (aL q mo ea (n + 1)) (aQ cy ea N (va_up f n (some x)))) H := hP
    have hD : va_D A (wL ws kl ka (aL q mo ea (n + 1)) (aQ cy ea N (va_up f n (some x)))) := hD
    exact hend () trivial hP hD hS dJx4a65c_add_72be8_22
  exact absurd h3 (by omega)
set_option maxHeartbeats 4000000 in
set_option maxRecDepth 100000 in
theorem c_Jx4a65c_add_72be8G {l : Launch} {D : va_G} {cy : Nat → ClassId} {e0 : Nat × Nat} {ws : va_W} {kl q ea n : Nat} {mo : Int32} {f : Nat → Option Nat} {ci : Nat} {r9 : vw_C} (hL : ws[kl]? = some (aL q mo ea n)) (hcase : (ea = e0.1 ∧ n = 0) ∨ ∃ ka N : Nat, ws[ka]? = some (aQ cy ea N f) ∧ n = N ∧ 10 ≤ N ∧ N < 128 ∧ ∀ j, j < N → ∃ (y k : Nat) (vs : List Value), f j = some y ∧ ws[k]? = some (y, .inr (ci, vs))) (hci : vwCl[ci]? = some r9) (hca : r9.1 = "TransitGate$Binding" ∨ r9.1 = "TransitGate$Session") (hc0 : ci ≠ 0) (hn9 : n < 128) {kx x : Nat} {vx : List Value} (hx0 : ws[kx]? = some (x, .inr (ci, vx))) : WRX (S := (Nat × Nat × (Nat → Option Nat))) l yJx4a65c_add_72be8 cJx4a65c_add_72be8 4 none 5 1 300 117 [.ref q, .ref x, .ref ea, .int (nI n)] D cy e0 ws (fun _ => none) (fun u => n + 1 ≤ u.2.1 ∧ 10 ≤ u.2.1 ∧ u.2.1 ≤ 300 ∧ (∀ j, j < n → u.2.2 j = f j) ∧ u.2.2 n = some x ∧ u.1 ≠ e0.1 ∧ ∀ x ∈ ws, x.1 ≠ u.1) (fun u => ws.set kl (aL q mo u.1 (n + 1)) ++ [aQ cy u.1 u.2.1 u.2.2]) := by
  refine WRXv (by decide) (lv0 := [(0, .ref q), (1, .ref x), (2, .ref ea), (3, .int (nI n))]) rfl (Nat.le_of_ble_eq_true rfl) ?_
  intro p e s m args below meth c ls A Q S hnm hP hK hD hS hA hE hend hl
  have hx := S.1
  have hb := S.2.1
  have hown : s.vm.findClass RJx4a65c = some m.cls := S.2.2.2.1
  have ht : ∀ w ∈ lw_g, w.before args s = true := fun w h => S.2.2.2.2 w (List.mem_cons_of_mem _ h)
  refine lv_iload_n hx hb dJx4a65c_add_72be8_0 rfl (lv_at hl 3 rfl) ?_
  refine lv_aload_n hx hb dJx4a65c_add_72be8_1 rfl (lv_at hl 2 rfl) ?_
  have hlen : W p l e (rmw 5 1 300 117) s m args below meth c s.heap [] 0 0 Q (F0 m 3 ls [.int (nI n), .int (nI n)]) → W p l e (rmw 5 1 300 117) s m args below meth c s.heap [] 0 0 Q (F0 m 2 ls [.ref ea, .int (nI n)]) := by
    intro hk
    rcases id hcase with ⟨h1, h2⟩ | ⟨ka, N, h1, h2, -⟩
    · rw [h1]
      refine va_tlen hx hb hE.2.2 hS (v := nI n) (by rw [h2]; rfl) dJx4a65c_add_72be8_2 hk
    · refine va_alen (v := nI n) hx hb hK hP ka 3 h1 rfl (by rw [h2]; rfl) dJx4a65c_add_72be8_2 hk
  refine hlen ?_
  refine nv_icmp_ne (tgt := 11) hx hb dJx4a65c_add_72be8_3 (by decide) (by omega) (by omega) (fun h9 => absurd rfl h9) (fun _ => ?_)
  refine lv_aload_n hx hb dJx4a65c_add_72be8_6 rfl (lv_at hl 0 rfl) ?_
  refine wx_V S (c_Jx4a65c_grow_d5877 (f := f) (ci := ci) (r9 := r9) hL hcase hci hca) kw3_35 yv_Jx4a65c_grow_d5877 ⟨Nat.le_of_ble_eq_true rfl, Nat.le_of_ble_eq_true rfl⟩ hK hP hD hS hA hE (va_recv hK hP (ci := 0) (q0 := kl) rfl hL) rfl hl.1 rfl (Nat.le_of_ble_eq_true rfl) dJx4a65c_add_72be8_7 ⟨(by show _ ≤ 1; omega), (by show _ ≤ 300; omega)⟩ (fun u1 H locs hu1 hP hD hS => ?_)
  obtain ⟨e1, N1, f1⟩ := u1
  obtain ⟨b1, b2, b3, b4, b5, b6⟩ := hu1
  dsimp only at b1 b2 b3 b4 b5 b6
  have hP : va_P D vwCl (ws.set kl (aL q mo e1 n) ++ [aQ cy e1 N1 f1]) H := hP
  have hD : va_D A (ws.set kl (aL q mo e1 n) ++ [aQ cy e1 N1 f1]) := hD
  refine W.eq (g2 := F0 m 10 ls [.ref e1]) rfl ?_
  refine lv_astore_n (lv' := [(2, .ref e1), (0, .ref q), (1, .ref x), (3, .int (nI n))]) hx hb dJx4a65c_add_72be8_10 rfl hl (by decide) rfl (fun ls hl => ?_)
  refine lv_aload_n hx hb dJx4a65c_add_72be8_11 rfl (lv_at hl 0 rfl) ?_
  refine lv_iload_n hx hb dJx4a65c_add_72be8_12 rfl (lv_at hl 3 rfl) ?_
  refine lv_aload_n hx hb dJx4a65c_add_72be8_13 rfl (lv_at hl 2 rfl) ?_
  refine nv_qast hx hb hK hP hD hS (ws.set kl (aL q mo e1 n)).length app_e ⟨kx, ci, r9, vx, app_l ((List.getElem?_set_ne (lst_ne hL hx0 (by intro h9; injection h9 with _ h8; injection h8 with h7; injection h7 with h6; exact hc0 h6.symm))).trans hx0), hci, by rcases hca with h9 | h9 <;> rw [h9] <;> first | exact hE.1.1 | exact hE.1.2.1⟩ (by omega) (by omega) dJx4a65c_add_72be8_14 (fun H locs hP hD hS => ?_)
  rw [app_set] at hP hD
  refine lv_aload_n hx hb dJx4a65c_add_72be8_15 rfl (lv_at hl 1 rfl) ?_
  refine lv_iload_n hx hb dJx4a65c_add_72be8_16 rfl (lv_at hl 3 rfl) ?_
  refine nv_iconst (k := 1) hx hb dJx4a65c_add_72be8_17 rfl ?_
  refine nv_iadd hx hb dJx4a65c_add_72be8_18 ?_
  refine va_put (ci := 0) (C := RJx4a65c) (T := TJx4a65c) (N := 3) (ty := tyJx4a65c 2) hx hb ht iFJx4a65c tyJx4a65c tyJx4a65c_ok nmJx4a65c hown hK hP hD hS kl (app_l (List.getElem?_set_self (lst_lt hL))) rfl 2 (by decide) (ht _ kw1_102) (fun _ h9 => h9) rfl (by decide +kernel) (by first | rfl | decide) (by first | rfl | decide) (Nat.le_of_ble_eq_true rfl) dJx4a65c_add_72be8_19 (fun H locs hP hD hS => ?_)
  rw [app_setl (List.getElem?_set_self (lst_lt hL)), List.set_set] at hP hD
  exact hend (e1, N1, va_up f1 n (some x)) ⟨b1, b2, b3, fun j hj => by show va_up f1 n (some x) j = f j; rw [va_up_ne _ _ (by omega)]; exact b4 j hj, va_up_self _ _ _, b5, b6⟩ hP hD hS dJx4a65c_add_72be8_22
theorem dJx4a65c_add_9ea2d_0 : decode cJx4a65c_add_9ea2d 0 = .ok (.aload_n 0, 1) := by decide +kernel
theorem dJx4a65c_add_9ea2d_1 : decode cJx4a65c_add_9ea2d 1 = .ok (.dup, 1) := by decide +kernel
theorem dJx4a65c_add_9ea2d_2 : decode cJx4a65c_add_9ea2d 2 = .ok (.getfield 63, 3) := by decide +kernel
theorem dJx4a65c_add_9ea2d_5 : decode cJx4a65c_add_9ea2d 5 = .ok (.iconst 1, 1) := by decide +kernel
theorem dJx4a65c_add_9ea2d_6 : decode cJx4a65c_add_9ea2d 6 = .ok (.iadd, 1) := by decide +kernel
theorem dJx4a65c_add_9ea2d_7 : decode cJx4a65c_add_9ea2d 7 = .ok (.putfield 63, 3) := by decide +kernel
theorem dJx4a65c_add_9ea2d_10 : decode cJx4a65c_add_9ea2d 10 = .ok (.aload_n 0, 1) := by decide +kernel
theorem dJx4a65c_add_9ea2d_11 : decode cJx4a65c_add_9ea2d 11 = .ok (.aload_n 1, 1) := by decide +kernel
theorem dJx4a65c_add_9ea2d_12 : decode cJx4a65c_add_9ea2d 12 = .ok (.aload_n 0, 1) := by decide +kernel
theorem dJx4a65c_add_9ea2d_13 : decode cJx4a65c_add_9ea2d 13 = .ok (.getfield 9, 3) := by decide +kernel
theorem dJx4a65c_add_9ea2d_16 : decode cJx4a65c_add_9ea2d 16 = .ok (.aload_n 0, 1) := by decide +kernel
theorem dJx4a65c_add_9ea2d_17 : decode cJx4a65c_add_9ea2d 17 = .ok (.getfield 48, 3) := by decide +kernel
theorem dJx4a65c_add_9ea2d_20 : decode cJx4a65c_add_9ea2d 20 = .ok (.invokevirtual 131, 3) := by decide +kernel
theorem dJx4a65c_add_9ea2d_23 : decode cJx4a65c_add_9ea2d 23 = .ok (.iconst 1, 1) := by decide +kernel
theorem dJx4a65c_add_9ea2d_24 : decode cJx4a65c_add_9ea2d 24 = .ok (.ireturn, 1) := by decide +kernel
theorem yv_Jx4a65c_add_9ea2d : YV RJx4a65c yJx4a65c_add_9ea2d cJx4a65c_add_9ea2d 2 (some .boolean) 1 := ⟨kw3_28, kw3_29, kw1_9, kw3_30, by decide +kernel⟩
set_option maxHeartbeats 4000000 in
set_option maxRecDepth 100000 in
theorem c_Jx4a65c_add_9ea2dG {l : Launch} {D : va_G} {cy : Nat → ClassId} {e0 : Nat × Nat} {ws : va_W} {kl q ea n : Nat} {mo : Int32} {f : Nat → Option Nat} {ci : Nat} {r9 : vw_C} (hL : ws[kl]? = some (aL q mo ea n)) (hcase : (ea = e0.1 ∧ n = 0) ∨ ∃ ka N : Nat, ws[ka]? = some (aQ cy ea N f) ∧ n = N ∧ 10 ≤ N ∧ N < 128 ∧ ∀ j, j < N → ∃ (y k : Nat) (vs : List Value), f j = some y ∧ ws[k]? = some (y, .inr (ci, vs))) (hci : vwCl[ci]? = some r9) (hca : r9.1 = "TransitGate$Binding" ∨ r9.1 = "TransitGate$Session") (hc0 : ci ≠ 0) (hn9 : n < 128) {kx x : Nat} {vx : List Value} (hx0 : ws[kx]? = some (x, .inr (ci, vx))) : WRX (S := (Nat × Nat × (Nat → Option Nat))) l yJx4a65c_add_9ea2d cJx4a65c_add_9ea2d 2 (some .boolean) 6 1 300 140 [.ref q, .ref x] D cy e0 ws (fun u_ => some (.int (bI (true)))) (fun u => n + 1 ≤ u.2.1 ∧ 10 ≤ u.2.1 ∧ u.2.1 ≤ 300 ∧ (∀ j, j < n → u.2.2 j = f j) ∧ u.2.2 n = some x ∧ u.1 ≠ e0.1 ∧ ∀ x ∈ ws, x.1 ≠ u.1) (fun u => ws.set kl (aL q (mo + nI 1) u.1 (n + 1)) ++ [aQ cy u.1 u.2.1 u.2.2]) := by
  refine WRXz (by decide) (lv0 := [(0, .ref q), (1, .ref x)]) rfl (Nat.le_of_ble_eq_true rfl) ?_
  intro p e s m args below meth c ls A Q S hnm hP hK hD hS hA hE hend hl
  have hx := S.1
  have hb := S.2.1
  have hown : s.vm.findClass RJx4a65c = some m.cls := S.2.2.2.1
  have ht : ∀ w ∈ lw_g, w.before args s = true := fun w h => S.2.2.2.2 w (List.mem_cons_of_mem _ h)
  refine lv_aload_n hx hb dJx4a65c_add_9ea2d_0 rfl (lv_at hl 0 rfl) ?_
  refine lv_dup hx hb dJx4a65c_add_9ea2d_1 rfl ?_
  refine va_get (ci := 0) (C := RJx4a65c) (T := TJx4a65c) (N := 3) hx hb ht iFJx4a65c hown hK hP kl hL rfl 0 (by decide) (ht _ kw1_104) (u_same (ht _ kw_sf)) rfl dJx4a65c_add_9ea2d_2 ?_
  refine nv_iconst (k := 1) hx hb dJx4a65c_add_9ea2d_5 rfl ?_
  refine lv_iadd hx hb dJx4a65c_add_9ea2d_6 ?_
  refine va_put (ci := 0) (C := RJx4a65c) (T := TJx4a65c) (N := 3) (ty := tyJx4a65c 0) hx hb ht iFJx4a65c tyJx4a65c tyJx4a65c_ok nmJx4a65c hown hK hP hD hS kl hL rfl 0 (by decide) (ht _ kw1_104) (u_same (ht _ kw_sf)) rfl (by decide +kernel) (by first | rfl | decide) (by first | rfl | decide) (Nat.le_of_ble_eq_true rfl) dJx4a65c_add_9ea2d_7 (fun H locs hP hD hS => ?_)
  have hL1 : (ws.set kl (aL q (mo + nI 1) ea n))[kl]? = some (aL q (mo + nI 1) ea n) := List.getElem?_set_self (lst_lt hL)
  have hP : va_P D vwCl (ws.set kl (aL q (mo + nI 1) ea n)) H := hP
  have hD : va_D A (ws.set kl (aL q (mo + nI 1) ea n)) := hD
  refine lv_aload_n hx hb dJx4a65c_add_9ea2d_10 rfl (lv_at hl 0 rfl) ?_
  refine lv_aload_n hx hb dJx4a65c_add_9ea2d_11 rfl (lv_at hl 1 rfl) ?_
  refine lv_aload_n hx hb dJx4a65c_add_9ea2d_12 rfl (lv_at hl 0 rfl) ?_
  refine va_get (ci := 0) (C := RJx4a65c) (T := TJx4a65c) (N := 3) hx hb ht iFJx4a65c hown hK hP kl hL1 rfl 1 (by decide) (ht _ kw1_101) (fun _ h9 => h9) rfl dJx4a65c_add_9ea2d_13 ?_
  refine lv_aload_n hx hb dJx4a65c_add_9ea2d_16 rfl (lv_at hl 0 rfl) ?_
  refine va_get (ci := 0) (C := RJx4a65c) (T := TJx4a65c) (N := 3) hx hb ht iFJx4a65c hown hK hP kl hL1 rfl 2 (by decide) (ht _ kw1_102) (fun _ h9 => h9) rfl dJx4a65c_add_9ea2d_17 ?_
  have hcase1 : (ea = e0.1 ∧ n = 0) ∨ ∃ ka N : Nat, (ws.set kl (aL q (mo + nI 1) ea n))[ka]? = some (aQ cy ea N f) ∧ n = N ∧ 10 ≤ N ∧ N < 128 ∧ ∀ j, j < N → ∃ (y k : Nat) (vs : List Value), f j = some y ∧ (ws.set kl (aL q (mo + nI 1) ea n))[k]? = some (y, .inr (ci, vs)) := by
    rcases id hcase with h1 | ⟨ka, N, h1, h2, h3, h4, h5⟩
    · exact Or.inl h1
    · exact Or.inr ⟨ka, N, (List.getElem?_set_ne (lst_ne hL h1 (by intro h9; cases h9))).trans h1, h2, h3, h4, fun j hj => by
        obtain ⟨y, k, vs, g1, g2⟩ := h5 j hj
        exact ⟨y, k, vs, g1, (List.getElem?_set_ne (lst_ne hL g2 (by intro h9; injection h9 with _ h8; injection h8 with h7; injection h7 with h6; exact hc0 h6.symm))).trans g2⟩⟩
  refine wx_V S (c_Jx4a65c_add_72be8G (kl := kl) (kx := kx) (f := f) hL1 hcase1 hci hca hc0 hn9 ((List.getElem?_set_ne (lst_ne hL hx0 (by intro h9; injection h9 with _ h8; injection h8 with h7; injection h7 with h6; exact hc0 h6.symm))).trans hx0)) kw3_31 yv_Jx4a65c_add_72be8 ⟨Nat.le_of_ble_eq_true rfl, Nat.le_of_ble_eq_true rfl⟩ hK hP hD hS hA hE (va_recv hK hP (ci := 0) (q0 := kl) rfl hL1) rfl hl.1 rfl (Nat.le_of_ble_eq_true rfl) dJx4a65c_add_9ea2d_20 ⟨(by show _ ≤ 1; omega), (by show _ ≤ 300; omega)⟩ (fun u1 H locs hu1 hP hD hS => ?_)
  rw [List.set_set] at hP hD
  refine W.eq (g2 := F0 m 23 ls []) rfl ?_
  refine nv_iconst (k := 1) hx hb dJx4a65c_add_9ea2d_23 rfl ?_
  exact hend u1 (bI_t rfl) ⟨hu1.1, hu1.2.1, hu1.2.2.1, hu1.2.2.2.1, hu1.2.2.2.2.1, hu1.2.2.2.2.2.1, set_addr hL hu1.2.2.2.2.2.2⟩ hP hD hS dJx4a65c_add_9ea2d_24
set_option maxHeartbeats 4000000 in
set_option maxRecDepth 100000 in
theorem c_Jx4a65c_add_9ea2dR {l : Launch} {D : va_G} {cy : Nat → ClassId} {e0 : Nat × Nat} {ws : va_W} {kl q ea n : Nat} {mo : Int32} (hL : ws[kl]? = some (aL q mo ea n)) {ka N : Nat} {f : Nat → Option Nat} (hAr : ws[ka]? = some (aQ cy ea N f)) (hnN : n ≤ N) (hN : N ≤ 300) (hroom : n < N) {ci : Nat} {r9 : vw_C} (hci : vwCl[ci]? = some r9) (hca : r9.1 = "TransitGate$Binding" ∨ r9.1 = "TransitGate$Session") (hc0 : ci ≠ 0) {kx x : Nat} {vx : List Value} (hx0 : ws[kx]? = some (x, .inr (ci, vx))) : WRX (S := Unit) l yJx4a65c_add_9ea2d cJx4a65c_add_9ea2d 2 (some .boolean) 6 1 300 140 [.ref q, .ref x] D cy e0 ws (fun u_ => some (.int (bI (true)))) (fun _ => True) (fun _ => wL ws kl ka (aL q (mo + nI 1) ea (n + 1)) (aQ cy ea N (va_up f n (some x)))) := by
  refine WRXz (by decide) (lv0 := [(0, .ref q), (1, .ref x)]) rfl (Nat.le_of_ble_eq_true rfl) ?_
  intro p e s m args below meth c ls A Q S hnm hP hK hD hS hA hE hend hl
  have hx := S.1
  have hb := S.2.1
  have hown : s.vm.findClass RJx4a65c = some m.cls := S.2.2.2.1
  have ht : ∀ w ∈ lw_g, w.before args s = true := fun w h => S.2.2.2.2 w (List.mem_cons_of_mem _ h)
  refine lv_aload_n hx hb dJx4a65c_add_9ea2d_0 rfl (lv_at hl 0 rfl) ?_
  refine lv_dup hx hb dJx4a65c_add_9ea2d_1 rfl ?_
  refine va_get (ci := 0) (C := RJx4a65c) (T := TJx4a65c) (N := 3) hx hb ht iFJx4a65c hown hK hP kl hL rfl 0 (by decide) (ht _ kw1_104) (u_same (ht _ kw_sf)) rfl dJx4a65c_add_9ea2d_2 ?_
  refine nv_iconst (k := 1) hx hb dJx4a65c_add_9ea2d_5 rfl ?_
  refine lv_iadd hx hb dJx4a65c_add_9ea2d_6 ?_
  refine va_put (ci := 0) (C := RJx4a65c) (T := TJx4a65c) (N := 3) (ty := tyJx4a65c 0) hx hb ht iFJx4a65c tyJx4a65c tyJx4a65c_ok nmJx4a65c hown hK hP hD hS kl hL rfl 0 (by decide) (ht _ kw1_104) (u_same (ht _ kw_sf)) rfl (by decide +kernel) (by first | rfl | decide) (by first | rfl | decide) (Nat.le_of_ble_eq_true rfl) dJx4a65c_add_9ea2d_7 (fun H locs hP hD hS => ?_)
  have hL1 : (ws.set kl (aL q (mo + nI 1) ea n))[kl]? = some (aL q (mo + nI 1) ea n) := List.getElem?_set_self (lst_lt hL)
  have hP : va_P D vwCl (ws.set kl (aL q (mo + nI 1) ea n)) H := hP
  have hD : va_D A (ws.set kl (aL q (mo + nI 1) ea n)) := hD
  refine lv_aload_n hx hb dJx4a65c_add_9ea2d_10 rfl (lv_at hl 0 rfl) ?_
  refine lv_aload_n hx hb dJx4a65c_add_9ea2d_11 rfl (lv_at hl 1 rfl) ?_
  refine lv_aload_n hx hb dJx4a65c_add_9ea2d_12 rfl (lv_at hl 0 rfl) ?_
  refine va_get (ci := 0) (C := RJx4a65c) (T := TJx4a65c) (N := 3) hx hb ht iFJx4a65c hown hK hP kl hL1 rfl 1 (by decide) (ht _ kw1_101) (fun _ h9 => h9) rfl dJx4a65c_add_9ea2d_13 ?_
  refine lv_aload_n hx hb dJx4a65c_add_9ea2d_16 rfl (lv_at hl 0 rfl) ?_
  refine va_get (ci := 0) (C := RJx4a65c) (T := TJx4a65c) (N := 3) hx hb ht iFJx4a65c hown hK hP kl hL1 rfl 2 (by decide) (ht _ kw1_102) (fun _ h9 => h9) rfl dJx4a65c_add_9ea2d_17 ?_
  refine wx_V S (c_Jx4a65c_add_72be8R (kl := kl) (ka := ka) (kx := kx) (f := f) hL1 ((List.getElem?_set_ne (lst_ne hL hAr (by intro h9; cases h9))).trans hAr) hnN hN hroom hci hca hc0 ((List.getElem?_set_ne (lst_ne hL hx0 (by intro h9; injection h9 with _ h8; injection h8 with h7; injection h7 with h6; exact hc0 h6.symm))).trans hx0)) kw3_31 yv_Jx4a65c_add_72be8 ⟨Nat.le_of_ble_eq_true rfl, Nat.le_of_ble_eq_true rfl⟩ hK hP hD hS hA hE (va_recv hK hP (ci := 0) (q0 := kl) rfl hL1) rfl hl.1 rfl (Nat.le_of_ble_eq_true rfl) dJx4a65c_add_9ea2d_20 ⟨(Nat.zero_le _), (Nat.zero_le _)⟩ (fun u1 H locs hu1 hP hD hS => ?_)
  unfold wL at hP hD
  rw [List.set_set] at hP hD
  refine W.eq (g2 := F0 m 23 ls []) rfl ?_
  refine nv_iconst (k := 1) hx hb dJx4a65c_add_9ea2d_23 rfl ?_
  refine W.widen (k := 1) (n := 300) (by omega) (by omega) ?_
  exact hend () (bI_t rfl) trivial hP hD hS dJx4a65c_add_9ea2d_24
