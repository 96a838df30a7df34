theorem dX1_init_0 : decode cX1_init 0 = .ok (.aload_n 0, 1) := by decide +kernel
theorem dX1_init_1 : decode cX1_init 1 = .ok (.invokespecial 1, 3) := by decide +kernel
theorem dX1_init_4 : decode cX1_init 4 = .ok (.aload_n 0, 1) := by decide +kernel
theorem dX1_init_5 : decode cX1_init 5 = .ok (.iload_n 1, 1) := by decide +kernel
theorem dX1_init_6 : decode cX1_init 6 = .ok (.iconst 0, 1) := by decide +kernel
theorem dX1_init_7 : decode cX1_init 7 = .ok (.invokestatic 7, 3) := by decide +kernel
theorem dX1_init_10 : decode cX1_init 10 = .ok (.newarray .byte, 2) := by decide +kernel
theorem dX1_init_12 : decode cX1_init 12 = .ok (.putfield 13, 3) := by decide +kernel
theorem dX1_init_15 : decode cX1_init 15 = .ok (.aload_n 0, 1) := by decide +kernel
theorem dX1_init_16 : decode cX1_init 16 = .ok (.iconst 0, 1) := by decide +kernel
theorem dX1_init_17 : decode cX1_init 17 = .ok (.putfield 19, 3) := by decide +kernel
theorem dX1_init_20 : decode cX1_init 20 = .ok (.return_, 1) := by decide +kernel
theorem yv_X1_init : YI yX1_init cX1_init 2 1 := ⟨kw1_34, kw1_2, kw1_35, rfl, by decide +kernel⟩
set_option maxHeartbeats 4000000 in
set_option maxRecDepth 100000 in
theorem c_X1_init {l : Launch} {D : va_G} {cy : Nat → ClassId} {w0 : va_W} {x9 : Nat} {r9 : Nat} (hr9 : r9 ≤ 1700) : WR (S := Nat) l yX1_init cX1_init 2 none 1 1 1700 14 [.ref x9, .int (nI r9)] D cy (w0 ++ [(x9, .inr (2, [.null, .int 0]))]) (fun _ => none) (fun _ => True) (fun z => w0 ++ [(x9, .inr (2, [.ref z, .int (nI 0)])), (z, .inl (cy 0, r9, .inl (bt (fun _ => 0))))]) := by
  refine WRv (by decide) (lv0 := [(0, .ref x9), (1, .int (nI r9))]) rfl (Nat.le_of_ble_eq_true rfl) ?_
  intro p e s m args below meth c ls A Q S hnm hP hK hD hS hA hend hl
  have hx := S.1
  have hb := S.2.1
  have hown : s.vm.findClass RX1 = some m.cls := S.2.2.2.1
  have ht : ∀ w ∈ lw_g, w.before args s = true := fun w h => S.2.2.2.2 w (List.mem_cons_of_mem _ h)
  have hP : va_P D vwCl (w0 ++ [(x9, .inr (2, [.null, .int 0]))]) s.heap := hP
  refine lv_aload_n hx hb dX1_init_0 rfl (lv_at hl 0 rfl) ?_
  refine W.objInit hx hb hown (ht _ kw1_36) (ht _ kw1_29) (ht _ kw1_30) rfl (hl.1.trans S.2.2.1.symm) rfl dX1_init_1 (Nat.le_of_ble_eq_true rfl) (Nat.le_of_ble_eq_true rfl) ?_
  refine W.eq (g2 := F0 m 4 ls []) rfl ?_
  refine lv_aload_n hx hb dX1_init_4 rfl (lv_at hl 0 rfl) ?_
  refine lv_iload_n hx hb dX1_init_5 rfl (lv_at hl 1 rfl) ?_
  refine nv_iconst (k := 0) hx hb dX1_init_6 rfl ?_
  refine nv_max hx hb (S.2.2.1.trans hl.1.symm) hown (ht _ kw1_37) (ht _ kw1_38) (ht _ kw1_3) (ht _ kw1_39) (Nat.le_of_ble_eq_true rfl) (Nat.le_of_ble_eq_true rfl) (by show _ ≤ 1; omega) (by show _ ≤ 1700; omega) (by omega) (by omega) dX1_init_7 ?_
  refine va_newa (atype := .byte) (a0 := (max r9 0, .inl (fun _ => 0))) hx hb (ht _ kw1_47) (ty := .byte) rfl hK hP hD hS hA (fun _ => rfl) (nI_pos (n := max r9 0) (by omega)) (nI_clamp (n := max r9 0) (by omega)) (by show max r9 0 * 1 ≤ _; omega) (by show _ ≤ 1; omega) (by show _ ≤ 1700; omega) dX1_init_10 (fun q10 cA H hK2 hP hD hS => ?_)
  have ecA := a_cls 0 hK hK2 rfl (fun C h9 => by cases h9)
  subst ecA
  rw [List.append_assoc] at hP hD
  have hP : va_P D vwCl (w0 ++ [(x9, .inr (2, [.null, .int 0])), (q10, .inl (cy 0, max r9 0, .inl (fun _ => 0)))]) H := hP
  have hD : va_D A (w0 ++ [(x9, .inr (2, [.null, .int 0])), (q10, .inl (cy 0, max r9 0, .inl (fun _ => 0)))]) := hD
  refine va_putF (ci := 2) (C := RX1) (T := TX1) (N := 2) (ty := tyX1 0) hx hb ht iFX1 tyX1 tyX1_ok nmX1 hown hK hP hD hS (w0.length + 0) (app_r rfl) rfl 0 (by decide) (ht _ kw1_40) (fun _ h9 => h9) rfl hnm rfl (by decide +kernel) (by first | rfl | decide) (by first | rfl | decide) (Nat.le_of_ble_eq_true rfl) dX1_init_12 (fun H locs hP hD hS => ?_)
  rw [app_setr] at hP hD
  have hP : va_P D vwCl (w0 ++ [(x9, .inr (2, [.ref q10, .int 0])), (q10, .inl (cy 0, max r9 0, .inl (fun _ => 0)))]) H := hP
  have hD : va_D A (w0 ++ [(x9, .inr (2, [.ref q10, .int 0])), (q10, .inl (cy 0, max r9 0, .inl (fun _ => 0)))]) := hD
  refine lv_aload_n hx hb dX1_init_15 rfl (lv_at hl 0 rfl) ?_
  refine nv_iconst (k := 0) hx hb dX1_init_16 rfl ?_
  refine va_put (ci := 2) (C := RX1) (T := TX1) (N := 2) (ty := tyX1 1) hx hb ht iFX1 tyX1 tyX1_ok nmX1 hown hK hP hD hS (w0.length + 0) (app_r rfl) rfl 1 (by decide) (ht _ kw1_41) (fun _ h9 => h9) rfl (by decide +kernel) (by first | rfl | decide) (by first | rfl | decide) (Nat.le_of_ble_eq_true rfl) dX1_init_17 (fun H locs hP hD hS => ?_)
  rw [app_setr] at hP hD
  have hP : va_P D vwCl (w0 ++ [(x9, .inr (2, [.ref q10, .int (nI 0)])), (q10, .inl (cy 0, max r9 0, .inl (fun _ => 0)))]) H := hP
  have hD : va_D A (w0 ++ [(x9, .inr (2, [.ref q10, .int (nI 0)])), (q10, .inl (cy 0, max r9 0, .inl (fun _ => 0)))]) := hD
  refine W.widen (k := 1) (n := 1700) (by omega) (by omega) ?_
  rw [Nat.max_eq_left (by omega)] at hP hD
  rw [← bt_0] at hP hD
  exact hend q10 trivial hP hD hS dX1_init_20
theorem dX5_init_0 : decode cX5_init 0 = .ok (.aload_n 0, 1) := by decide +kernel
theorem dX5_init_1 : decode cX5_init 1 = .ok (.invokespecial 1, 3) := by decide +kernel
theorem dX5_init_4 : decode cX5_init 4 = .ok (.aload_n 0, 1) := by decide +kernel
theorem dX5_init_5 : decode cX5_init 5 = .ok (.iconst 4, 1) := by decide +kernel
theorem dX5_init_6 : decode cX5_init 6 = .ok (.newarray .int, 2) := by decide +kernel
theorem dX5_init_8 : decode cX5_init 8 = .ok (.putfield 9, 3) := by decide +kernel
theorem dX5_init_11 : decode cX5_init 11 = .ok (.aload_n 0, 1) := by decide +kernel
theorem dX5_init_12 : decode cX5_init 12 = .ok (.iconst 0, 1) := by decide +kernel
theorem dX5_init_13 : decode cX5_init 13 = .ok (.putfield 13, 3) := by decide +kernel
theorem dX5_init_16 : decode cX5_init 16 = .ok (.return_, 1) := by decide +kernel
theorem yv_X5_init : YI yX5_init cX5_init 1 0 := ⟨kw1_70, kw1_5, kw1_71, rfl, by decide +kernel⟩
set_option maxHeartbeats 4000000 in
set_option maxRecDepth 100000 in
theorem c_X5_init {l : Launch} {D : va_G} {cy : Nat → ClassId} {w0 : va_W} {x9 : Nat} : WR (S := Nat) l yX5_init cX5_init 1 none 1 1 4 12 [.ref x9] D cy (w0 ++ [(x9, .inr (4, [.null, .int 0]))]) (fun _ => none) (fun _ => True) (fun z => w0 ++ [(x9, .inr (4, [.ref z, .int (nI 0)])), (z, .inl (cy 1, 4, .inl (fun _ => 0)))]) := by
  refine WRv (by decide) (lv0 := [(0, .ref x9)]) rfl (Nat.le_of_ble_eq_true rfl) ?_
  intro p e s m args below meth c ls A Q S hnm hP hK hD hS hA hend hl
  have hx := S.1
  have hb := S.2.1
  have hown : s.vm.findClass RX5 = some m.cls := S.2.2.2.1
  have ht : ∀ w ∈ lw_g, w.before args s = true := fun w h => S.2.2.2.2 w (List.mem_cons_of_mem _ h)
  have hP : va_P D vwCl (w0 ++ [(x9, .inr (4, [.null, .int 0]))]) s.heap := hP
  refine lv_aload_n hx hb dX5_init_0 rfl (lv_at hl 0 rfl) ?_
  refine W.objInit hx hb hown (ht _ kw1_72) (ht _ kw1_29) (ht _ kw1_30) rfl (hl.1.trans S.2.2.1.symm) rfl dX5_init_1 (Nat.le_of_ble_eq_true rfl) (Nat.le_of_ble_eq_true rfl) ?_
  refine W.eq (g2 := F0 m 4 ls []) rfl ?_
  refine lv_aload_n hx hb dX5_init_4 rfl (lv_at hl 0 rfl) ?_
  refine nv_iconst (k := 4) hx hb dX5_init_5 rfl ?_
  refine va_newa (atype := .int) (a0 := (4, .inl (fun _ => 0))) hx hb (ht _ kw1_80) (ty := .int) rfl hK hP hD hS hA (fun _ => rfl) (nI_pos (n := 4) (by omega)) (nI_clamp (n := 4) (by omega)) (by show 4 * 4 ≤ _; omega) (by show _ ≤ 1; omega) (by show _ ≤ 4; omega) dX5_init_6 (fun q6 cA H hK2 hP hD hS => ?_)
  have ecA := a_cls 1 hK hK2 rfl (fun C h9 => by cases h9)
  subst ecA
  rw [List.append_assoc] at hP hD
  have hP : va_P D vwCl (w0 ++ [(x9, .inr (4, [.null, .int 0])), (q6, .inl (cy 1, 4, .inl (fun _ => 0)))]) H := hP
  have hD : va_D A (w0 ++ [(x9, .inr (4, [.null, .int 0])), (q6, .inl (cy 1, 4, .inl (fun _ => 0)))]) := hD
  refine va_putF (ci := 4) (C := RX5) (T := TX5) (N := 2) (ty := tyX5 0) hx hb ht iFX5 tyX5 tyX5_ok nmX5 hown hK hP hD hS (w0.length + 0) (app_r rfl) rfl 0 (by decide) (ht _ kw1_73) (fun _ h9 => h9) rfl hnm rfl (by decide +kernel) (by first | rfl | decide) (by first | rfl | decide) (Nat.le_of_ble_eq_true rfl) dX5_init_8 (fun H locs hP hD hS => ?_)
  rw [app_setr] at hP hD
  have hP : va_P D vwCl (w0 ++ [(x9, .inr (4, [.ref q6, .int 0])), (q6, .inl (cy 1, 4, .inl (fun _ => 0)))]) H := hP
  have hD : va_D A (w0 ++ [(x9, .inr (4, [.ref q6, .int 0])), (q6, .inl (cy 1, 4, .inl (fun _ => 0)))]) := hD
  refine lv_aload_n hx hb dX5_init_11 rfl (lv_at hl 0 rfl) ?_
  refine nv_iconst (k := 0) hx hb dX5_init_12 rfl ?_
  refine va_put (ci := 4) (C := RX5) (T := TX5) (N := 2) (ty := tyX5 1) hx hb ht iFX5 tyX5 tyX5_ok nmX5 hown hK hP hD hS (w0.length + 0) (app_r rfl) rfl 1 (by decide) (ht _ kw1_74) (fun _ h9 => h9) rfl (by decide +kernel) (by first | rfl | decide) (by first | rfl | decide) (Nat.le_of_ble_eq_true rfl) dX5_init_13 (fun H locs hP hD hS => ?_)
  rw [app_setr] at hP hD
  have hP : va_P D vwCl (w0 ++ [(x9, .inr (4, [.ref q6, .int (nI 0)])), (q6, .inl (cy 1, 4, .inl (fun _ => 0)))]) H := hP
  have hD : va_D A (w0 ++ [(x9, .inr (4, [.ref q6, .int (nI 0)])), (q6, .inl (cy 1, 4, .inl (fun _ => 0)))]) := hD
  refine W.widen (k := 1) (n := 4) (by omega) (by omega) ?_
  exact hend q6 trivial hP hD hS dX5_init_16
theorem dX8_init_0 : decode cX8_init 0 = .ok (.aload_n 0, 1) := by decide +kernel
theorem dX8_init_1 : decode cX8_init 1 = .ok (.invokespecial 1, 3) := by decide +kernel
theorem dX8_init_4 : decode cX8_init 4 = .ok (.return_, 1) := by decide +kernel
theorem yv_X8_init : YI yX8_init cX8_init 1 0 := ⟨kw1_51, kw1_4, kw1_52, rfl, by decide +kernel⟩
set_option maxHeartbeats 4000000 in
set_option maxRecDepth 100000 in
theorem c_X8_init {l : Launch} {D : va_G} {cy : Nat → ClassId} {w0 : va_W} {x9 : Nat} : WR (S := Unit) l yX8_init cX8_init 1 none 1 0 0 12 [.ref x9] D cy (w0 ++ [(x9, .inr (6, [.long 0, .long 0, .int 0, .int 0]))]) (fun _ => none) (fun _ => True) (fun _ => w0 ++ [(x9, .inr (6, [.long 0, .long 0, .int 0, .int 0]))]) := by
  refine WRv (by decide) (lv0 := [(0, .ref x9)]) rfl (Nat.le_of_ble_eq_true rfl) ?_
  intro p e s m args below meth c ls A Q S hnm hP hK hD hS hA hend hl
  have hx := S.1
  have hb := S.2.1
  have hown : s.vm.findClass RX8 = some m.cls := S.2.2.2.1
  have ht : ∀ w ∈ lw_g, w.before args s = true := fun w h => S.2.2.2.2 w (List.mem_cons_of_mem _ h)
  have hP : va_P D vwCl (w0 ++ [(x9, .inr (6, [.long 0, .long 0, .int 0, .int 0]))]) s.heap := hP
  refine lv_aload_n hx hb dX8_init_0 rfl (lv_at hl 0 rfl) ?_
  refine W.objInit hx hb hown (ht _ kw1_53) (ht _ kw1_29) (ht _ kw1_30) rfl (hl.1.trans S.2.2.1.symm) rfl dX8_init_1 (Nat.le_of_ble_eq_true rfl) (Nat.le_of_ble_eq_true rfl) ?_
  refine W.eq (g2 := F0 m 4 ls []) rfl ?_
  exact hend () trivial hP hD hS dX8_init_4
theorem dJxa1e45_init_da8c8_0 : decode cJxa1e45_init_da8c8 0 = .ok (.aload_n 0, 1) := by decide +kernel
theorem dJxa1e45_init_da8c8_1 : decode cJxa1e45_init_da8c8 1 = .ok (.invokespecial 1, 3) := by decide +kernel
theorem dJxa1e45_init_da8c8_4 : decode cJxa1e45_init_da8c8 4 = .ok (.return_, 1) := by decide +kernel
theorem yv_Jxa1e45_init_da8c8 : YI yJxa1e45_init_da8c8 cJxa1e45_init_da8c8 1 0 := ⟨kw1_96, kw1_7, kw1_97, rfl, by decide +kernel⟩
set_option maxHeartbeats 4000000 in
set_option maxRecDepth 100000 in
theorem c_Jxa1e45_init_da8c8 {l : Launch} {D : va_G} {cy : Nat → ClassId} {ws : va_W} {q : Nat} : WR (S := Unit) l yJxa1e45_init_da8c8 cJxa1e45_init_da8c8 1 none 1 0 0 12 [.ref q] D cy ws (fun _ => none) (fun _ => True) (fun _ => ws) := by
  refine WRv (by decide) (lv0 := [(0, .ref q)]) rfl (Nat.le_of_ble_eq_true rfl) ?_
  intro p e s m args below meth c ls A Q S hnm hP hK hD hS hA hend hl
  have hx := S.1
  have hb := S.2.1
  have hown : s.vm.findClass RJxa1e45 = some m.cls := S.2.2.2.1
  have ht : ∀ w ∈ lw_g, w.before args s = true := fun w h => S.2.2.2.2 w (List.mem_cons_of_mem _ h)
  refine lv_aload_n hx hb dJxa1e45_init_da8c8_0 rfl (lv_at hl 0 rfl) ?_
  refine W.objInit hx hb hown (ht _ kw1_98) (ht _ kw1_29) (ht _ kw1_30) rfl (hl.1.trans S.2.2.1.symm) rfl dJxa1e45_init_da8c8_1 (Nat.le_of_ble_eq_true rfl) (Nat.le_of_ble_eq_true rfl) ?_
  refine W.eq (g2 := F0 m 4 ls []) rfl ?_
  exact hend () trivial hP hD hS dJxa1e45_init_da8c8_4
theorem dJxc12de_init_da8c8_0 : decode cJxc12de_init_da8c8 0 = .ok (.aload_n 0, 1) := by decide +kernel
theorem dJxc12de_init_da8c8_1 : decode cJxc12de_init_da8c8 1 = .ok (.invokespecial 1, 3) := by decide +kernel
theorem dJxc12de_init_da8c8_4 : decode cJxc12de_init_da8c8 4 = .ok (.aload_n 0, 1) := by decide +kernel
theorem dJxc12de_init_da8c8_5 : decode cJxc12de_init_da8c8 5 = .ok (.iconst 0, 1) := by decide +kernel
theorem dJxc12de_init_da8c8_6 : decode cJxc12de_init_da8c8 6 = .ok (.putfield 7, 3) := by decide +kernel
theorem dJxc12de_init_da8c8_9 : decode cJxc12de_init_da8c8 9 = .ok (.return_, 1) := by decide +kernel
theorem yv_Jxc12de_init_da8c8 : YI yJxc12de_init_da8c8 cJxc12de_init_da8c8 1 0 := ⟨kw1_93, kw1_8, kw1_94, rfl, by decide +kernel⟩
set_option maxHeartbeats 4000000 in
set_option maxRecDepth 100000 in
theorem c_Jxc12de_init_da8c8 {l : Launch} {D : va_G} {cy : Nat → ClassId} {w0 : va_W} {x9 : Nat} : WR (S := Unit) l yJxc12de_init_da8c8 cJxc12de_init_da8c8 1 none 2 0 0 32 [.ref x9] D cy (w0 ++ [(x9, .inr (0, [.int 0, .null, .int 0]))]) (fun _ => none) (fun _ => True) (fun _ => w0 ++ [(x9, .inr (0, [.int (nI 0), .null, .int 0]))]) := by
  refine WRv (by decide) (lv0 := [(0, .ref x9)]) rfl (Nat.le_of_ble_eq_true rfl) ?_
  intro p e s m args below meth c ls A Q S hnm hP hK hD hS hA hend hl
  have hx := S.1
  have hb := S.2.1
  have hown : s.vm.findClass RJxc12de = some m.cls := S.2.2.2.1
  have ht : ∀ w ∈ lw_g, w.before args s = true := fun w h => S.2.2.2.2 w (List.mem_cons_of_mem _ h)
  have hP : va_P D vwCl (w0 ++ [(x9, .inr (0, [.int 0, .null, .int 0]))]) s.heap := hP
  refine lv_aload_n hx hb dJxc12de_init_da8c8_0 rfl (lv_at hl 0 rfl) ?_
  refine wr_I S (c_Jxa1e45_init_da8c8) kw1_95 yv_Jxa1e45_init_da8c8 ⟨Nat.le_of_ble_eq_true rfl, Nat.le_of_ble_eq_true rfl⟩ hK hP hD hS hA rfl hl.1 rfl (Nat.le_of_ble_eq_true rfl) dJxc12de_init_da8c8_1 ⟨(Nat.zero_le _), (Nat.zero_le _)⟩ (fun u1 H locs hu1 hP hD hS => ?_)
  have hP : va_P D vwCl (w0 ++ [(x9, .inr (0, [.int 0, .null, .int 0]))]) H := hP
  have hD : va_D A (w0 ++ [(x9, .inr (0, [.int 0, .null, .int 0]))]) := hD
  refine W.eq (g2 := F0 m 4 ls []) rfl ?_
  refine lv_aload_n hx hb dJxc12de_init_da8c8_4 rfl (lv_at hl 0 rfl) ?_
  refine nv_iconst (k := 0) hx hb dJxc12de_init_da8c8_5 rfl ?_
  refine va_put (ci := 0) (C := RJx4a65c) (T := TJx4a65c) (N := 3) (ty := tyJx4a65c 0) hx hb ht iFJx4a65c tyJx4a65c tyJx4a65c_ok nmJx4a65c hown hK hP hD hS (w0.length + 0) (app_r rfl) rfl 0 (by decide) (ht _ kw1_103) (fun _ h9 => h9) rfl (by decide +kernel) (by first | rfl | decide) (by first | rfl | decide) (Nat.le_of_ble_eq_true rfl) dJxc12de_init_da8c8_6 (fun H locs hP hD hS => ?_)
  rw [app_setr] at hP hD
  have hP : va_P D vwCl (w0 ++ [(x9, .inr (0, [.int (nI 0), .null, .int 0]))]) H := hP
  have hD : va_D A (w0 ++ [(x9, .inr (0, [.int (nI 0), .null, .int 0]))]) := hD
  exact hend () trivial hP hD hS dJxc12de_init_da8c8_9
theorem dJx4a65c_init_da8c8_0 : decode cJx4a65c_init_da8c8 0 = .ok (.aload_n 0, 1) := by decide +kernel
theorem dJx4a65c_init_da8c8_1 : decode cJx4a65c_init_da8c8 1 = .ok (.invokespecial 1, 3) := by decide +kernel
theorem dJx4a65c_init_da8c8_4 : decode cJx4a65c_init_da8c8 4 = .ok (.aload_n 0, 1) := by decide +kernel
theorem dJx4a65c_init_da8c8_5 : decode cJx4a65c_init_da8c8 5 = .ok (.getstatic 39, 3) := by decide +kernel
theorem dJx4a65c_init_da8c8_8 : decode cJx4a65c_init_da8c8 8 = .ok (.putfield 9, 3) := by decide +kernel
theorem dJx4a65c_init_da8c8_11 : decode cJx4a65c_init_da8c8 11 = .ok (.return_, 1) := by decide +kernel
theorem yv_Jx4a65c_init_da8c8 : YI yJx4a65c_init_da8c8 cJx4a65c_init_da8c8 1 0 := ⟨kw1_90, kw1_9, kw1_91, rfl, by decide +kernel⟩
set_option maxHeartbeats 4000000 in
set_option maxRecDepth 100000 in
theorem c_Jx4a65c_init_da8c8 {l : Launch} {D : va_G} {cy : Nat → ClassId} {e0 : Nat × Nat} {w0 : va_W} {x9 : Nat} : WRX (S := Unit) l yJx4a65c_init_da8c8 cJx4a65c_init_da8c8 1 none 3 0 0 52 [.ref x9] D cy e0 (w0 ++ [(x9, .inr (0, [.int 0, .null, .int 0]))]) (fun _ => none) (fun _ => True) (fun _ => w0 ++ [aL x9 (nI 0) e0.1 0]) := by
  refine WRXv (by decide) (lv0 := [(0, .ref x9)]) rfl (Nat.le_of_ble_eq_true rfl) ?_
  intro p e s m args below meth c ls A Q S hnm hP hK hD hS hA hE hend hl
  have hx := S.1
  have hb := S.2.1
  have hown : s.vm.findClass RJx4a65c = some m.cls := S.2.2.2.1
  have ht : ∀ w ∈ lw_g, w.before args s = true := fun w h => S.2.2.2.2 w (List.mem_cons_of_mem _ h)
  have hP : va_P D vwCl (w0 ++ [(x9, .inr (0, [.int 0, .null, .int 0]))]) s.heap := hP
  refine lv_aload_n hx hb dJx4a65c_init_da8c8_0 rfl (lv_at hl 0 rfl) ?_
  refine wr_I S (c_Jxc12de_init_da8c8 (w0 := w0)) kw1_92 yv_Jxc12de_init_da8c8 ⟨Nat.le_of_ble_eq_true rfl, Nat.le_of_ble_eq_true rfl⟩ hK hP hD hS hA rfl hl.1 rfl (Nat.le_of_ble_eq_true rfl) dJx4a65c_init_da8c8_1 ⟨(Nat.zero_le _), (Nat.zero_le _)⟩ (fun u1 H locs hu1 hP hD hS => ?_)
  have hP : va_P D vwCl (w0 ++ [(x9, .inr (0, [.int (nI 0), .null, .int 0]))]) H := hP
  have hD : va_D A (w0 ++ [(x9, .inr (0, [.int (nI 0), .null, .int 0]))]) := hD
  refine W.eq (g2 := F0 m 4 ls []) rfl ?_
  refine lv_aload_n hx hb dJx4a65c_init_da8c8_4 rfl (lv_at hl 0 rfl) ?_
  refine va_gets hx hb hE.2.1 hS hown (ht _ kw1_99) (fun _ h9 => h9) dJx4a65c_init_da8c8_5 ?_
  refine va_put (ci := 0) (C := RJx4a65c) (T := TJx4a65c) (N := 3) (ty := tyJx4a65c 1) hx hb ht iFJx4a65c tyJx4a65c tyJx4a65c_ok nmJx4a65c hown hK hP hD hS (w0.length + 0) (app_r rfl) rfl 1 (by decide) (ht _ kw1_101) (fun _ h9 => h9) rfl (by decide +kernel) (by first | rfl | decide) (by first | rfl | decide) (Nat.le_of_ble_eq_true rfl) dJx4a65c_init_da8c8_8 (fun H locs hP hD hS => ?_)
  rw [app_setr] at hP hD
  have hP : va_P D vwCl (w0 ++ [(x9, .inr (0, [.int (nI 0), .ref e0.1, .int 0]))]) H := hP
  have hD : va_D A (w0 ++ [(x9, .inr (0, [.int (nI 0), .ref e0.1, .int 0]))]) := hD
  exact hend () trivial hP hD hS dJx4a65c_init_da8c8_11
theorem dX10_init_0 : decode cX10_init 0 = .ok (.aload_n 0, 1) := by decide +kernel
theorem dX10_init_1 : decode cX10_init 1 = .ok (.invokespecial 3, 3) := by decide +kernel
theorem dX10_init_4 : decode cX10_init 4 = .ok (.aload_n 0, 1) := by decide +kernel
theorem dX10_init_5 : decode cX10_init 5 = .ok (.new 9, 3) := by decide +kernel
theorem dX10_init_8 : decode cX10_init 8 = .ok (.dup, 1) := by decide +kernel
theorem dX10_init_9 : decode cX10_init 9 = .ok (.invokespecial 11, 3) := by decide +kernel
theorem dX10_init_12 : decode cX10_init 12 = .ok (.putfield 12, 3) := by decide +kernel
theorem dX10_init_15 : decode cX10_init 15 = .ok (.aload_n 0, 1) := by decide +kernel
theorem dX10_init_16 : decode cX10_init 16 = .ok (.new 9, 3) := by decide +kernel
theorem dX10_init_19 : decode cX10_init 19 = .ok (.dup, 1) := by decide +kernel
theorem dX10_init_20 : decode cX10_init 20 = .ok (.invokespecial 11, 3) := by decide +kernel
theorem dX10_init_23 : decode cX10_init 23 = .ok (.putfield 18, 3) := by decide +kernel
theorem dX10_init_26 : decode cX10_init 26 = .ok (.aload_n 0, 1) := by decide +kernel
theorem dX10_init_27 : decode cX10_init 27 = .ok (.lconst 0, 1) := by decide +kernel
theorem dX10_init_28 : decode cX10_init 28 = .ok (.putfield 21, 3) := by decide +kernel
theorem dX10_init_31 : decode cX10_init 31 = .ok (.return_, 1) := by decide +kernel
theorem yv_X10_init : YI yX10_init cX10_init 1 0 := ⟨kw1_84, kw1_6, kw1_85, rfl, by decide +kernel⟩
set_option maxHeartbeats 4000000 in
set_option maxRecDepth 100000 in
theorem c_X10_init {l : Launch} {D : va_G} {cy : Nat → ClassId} {e0 : Nat × Nat} {w0 : va_W} {x9 : Nat} : WRX (S := (Nat × Nat)) l yX10_init cX10_init 1 none 4 2 6 72 [.ref x9] D cy e0 (w0 ++ [(x9, .inr (7, [.null, .null, .long 0]))]) (fun _ => none) (fun _ => True) (fun z => w0 ++ [(x9, .inr (7, [.ref z.1, .ref z.2, .long (lN 0)])), aL z.1 (nI 0) e0.1 0, aL z.2 (nI 0) e0.1 0]) := by
  refine WRXv (by decide) (lv0 := [(0, .ref x9)]) rfl (Nat.le_of_ble_eq_true rfl) ?_
  intro p e s m args below meth c ls A Q S hnm hP hK hD hS hA hE hend hl
  have hx := S.1
  have hb := S.2.1
  have hown : s.vm.findClass RX10 = some m.cls := S.2.2.2.1
  have ht : ∀ w ∈ lw_g, w.before args s = true := fun w h => S.2.2.2.2 w (List.mem_cons_of_mem _ h)
  have hP : va_P D vwCl (w0 ++ [(x9, .inr (7, [.null, .null, .long 0]))]) s.heap := hP
  refine lv_aload_n hx hb dX10_init_0 rfl (lv_at hl 0 rfl) ?_
  refine W.objInit hx hb hown (ht _ kw1_86) (ht _ kw1_29) (ht _ kw1_30) rfl (hl.1.trans S.2.2.1.symm) rfl dX10_init_1 (Nat.le_of_ble_eq_true rfl) (Nat.le_of_ble_eq_true rfl) ?_
  refine W.eq (g2 := F0 m 4 ls []) rfl ?_
  refine lv_aload_n hx hb dX10_init_4 rfl (lv_at hl 0 rfl) ?_
  refine va_new (ci := 0) (fs := [.int 0, .null, .int 0]) (C := RJx4a65c) (T := TJx4a65c) (N := 3) hx hb ht iFJx4a65c tyJx4a65c tyJx4a65c_ok hown (ht _ kw1_87) (ht _ kw1_88) (ht _ kw1_9) hK hP hD hS hA rfl (fun j hj => by rcases (show j = 0 ∨ j = 1 ∨ j = 2 by omega) with rfl | rfl | rfl <;> rfl) (by show _ ≤ 2; omega) (by show _ ≤ 6; omega) dX10_init_5 (fun o_1 H hP hD hS => ?_)
  refine lv_dup hx hb dX10_init_8 rfl ?_
  refine wx_I S (c_Jx4a65c_init_da8c8 (w0 := w0 ++ [(x9, .inr (7, [.null, .null, .long 0]))]) (x9 := o_1)) kw1_89 yv_Jx4a65c_init_da8c8 ⟨Nat.le_of_ble_eq_true rfl, Nat.le_of_ble_eq_true rfl⟩ hK hP hD hS hA hE rfl hl.1 rfl (Nat.le_of_ble_eq_true rfl) dX10_init_9 ⟨(by show _ ≤ 2; omega), (by show _ ≤ 6; omega)⟩ (fun u9 H locs hu9 hP hD hS => ?_)
  rw [List.append_assoc] at hP hD
  have hP : va_P D vwCl (w0 ++ [(x9, .inr (7, [.null, .null, .long 0])), aL o_1 (nI 0) e0.1 0]) H := hP
  have hD : va_D A (w0 ++ [(x9, .inr (7, [.null, .null, .long 0])), aL o_1 (nI 0) e0.1 0]) := hD
  refine W.eq (g2 := F0 m 12 ls [.ref o_1, .ref x9]) rfl ?_
  refine va_putF (ci := 7) (C := RX10) (T := TX10) (N := 3) (ty := tyX10 0) hx hb ht iFX10 tyX10 tyX10_ok nmX10 hown hK hP hD hS (w0.length + 0) (app_r rfl) rfl 0 (by decide) (ht _ kw1_113) (fun _ h9 => h9) rfl hnm rfl (by decide +kernel) (by first | rfl | decide) (by first | rfl | decide) (Nat.le_of_ble_eq_true rfl) dX10_init_12 (fun H locs hP hD hS => ?_)
  rw [app_setr] at hP hD
  have hP : va_P D vwCl (w0 ++ [(x9, .inr (7, [.ref o_1, .null, .long 0])), aL o_1 (nI 0) e0.1 0]) H := hP
  have hD : va_D A (w0 ++ [(x9, .inr (7, [.ref o_1, .null, .long 0])), aL o_1 (nI 0) e0.1 0]) := hD
  refine lv_aload_n hx hb dX10_init_15 rfl (lv_at hl 0 rfl) ?_
  refine va_new (ci := 0) (fs := [.int 0, .null, .int 0]) (C := RJx4a65c) (T := TJx4a65c) (N := 3) hx hb ht iFJx4a65c tyJx4a65c tyJx4a65c_ok hown (ht _ kw1_87) (ht _ kw1_88) (ht _ kw1_9) hK hP hD hS hA rfl (fun j hj => by rcases (show j = 0 ∨ j = 1 ∨ j = 2 by omega) with rfl | rfl | rfl <;> rfl) (by show _ ≤ 2; omega) (by show _ ≤ 6; omega) dX10_init_16 (fun o_2 H hP hD hS => ?_)
  refine lv_dup hx hb dX10_init_19 rfl ?_
  refine wx_I S (c_Jx4a65c_init_da8c8 (w0 := w0 ++ [(x9, .inr (7, [.ref o_1, .null, .long 0])), aL o_1 (nI 0) e0.1 0]) (x9 := o_2)) kw1_89 yv_Jx4a65c_init_da8c8 ⟨Nat.le_of_ble_eq_true rfl, Nat.le_of_ble_eq_true rfl⟩ hK hP hD hS hA hE rfl hl.1 rfl (Nat.le_of_ble_eq_true rfl) dX10_init_20 ⟨(by show _ ≤ 2; omega), (by show _ ≤ 6; omega)⟩ (fun u20 H locs hu20 hP hD hS => ?_)
  rw [List.append_assoc] at hP hD
  have hP : va_P D vwCl (w0 ++ [(x9, .inr (7, [.ref o_1, .null, .long 0])), aL o_1 (nI 0) e0.1 0, aL o_2 (nI 0) e0.1 0]) H := hP
  have hD : va_D A (w0 ++ [(x9, .inr (7, [.ref o_1, .null, .long 0])), aL o_1 (nI 0) e0.1 0, aL o_2 (nI 0) e0.1 0]) := hD
  refine W.eq (g2 := F0 m 23 ls [.ref o_2, .ref x9]) rfl ?_
  refine va_putF (ci := 7) (C := RX10) (T := TX10) (N := 3) (ty := tyX10 1) hx hb ht iFX10 tyX10 tyX10_ok nmX10 hown hK hP hD hS (w0.length + 0) (app_r rfl) rfl 1 (by decide) (ht _ kw1_114) (fun _ h9 => h9) rfl hnm rfl (by decide +kernel) (by first | rfl | decide) (by first | rfl | decide) (Nat.le_of_ble_eq_true rfl) dX10_init_23 (fun H locs hP hD hS => ?_)
  rw [app_setr] at hP hD
  have hP : va_P D vwCl (w0 ++ [(x9, .inr (7, [.ref o_1, .ref o_2, .long 0])), aL o_1 (nI 0) e0.1 0, aL o_2 (nI 0) e0.1 0]) H := hP
  have hD : va_D A (w0 ++ [(x9, .inr (7, [.ref o_1, .ref o_2, .long 0])), aL o_1 (nI 0) e0.1 0, aL o_2 (nI 0) e0.1 0]) := hD
  refine lv_aload_n hx hb dX10_init_26 rfl (lv_at hl 0 rfl) ?_
  refine lv_lconst (v := lN 0) hx hb dX10_init_27 (by decide) ?_
  refine va_put (ci := 7) (C := RX10) (T := TX10) (N := 3) (ty := tyX10 2) hx hb ht iFX10 tyX10 tyX10_ok nmX10 hown hK hP hD hS (w0.length + 0) (app_r rfl) rfl 2 (by decide) (ht _ kw1_115) (fun _ h9 => h9) rfl (by decide +kernel) (by first | rfl | decide) (by first | rfl | decide) (Nat.le_of_ble_eq_true rfl) dX10_init_28 (fun H locs hP hD hS => ?_)
  rw [app_setr] at hP hD
  have hP : va_P D vwCl (w0 ++ [(x9, .inr (7, [.ref o_1, .ref o_2, .long (lN (0))])), aL o_1 (nI 0) e0.1 0, aL o_2 (nI 0) e0.1 0]) H := hP
  have hD : va_D A (w0 ++ [(x9, .inr (7, [.ref o_1, .ref o_2, .long (lN (0))])), aL o_1 (nI 0) e0.1 0, aL o_2 (nI 0) e0.1 0]) := hD
  refine W.widen (k := 2) (n := 6) (by omega) (by omega) ?_
  exact hend (o_1, o_2) trivial hP hD hS dX10_init_31
theorem dX11_init_0 : decode cX11_init 0 = .ok (.aload_n 0, 1) := by decide +kernel
theorem dX11_init_1 : decode cX11_init 1 = .ok (.invokespecial 1, 3) := by decide +kernel
theorem dX11_init_4 : decode cX11_init 4 = .ok (.aload_n 0, 1) := by decide +kernel
theorem dX11_init_5 : decode cX11_init 5 = .ok (.new 7, 3) := by decide +kernel
theorem dX11_init_8 : decode cX11_init 8 = .ok (.dup, 1) := by decide +kernel
theorem dX11_init_9 : decode cX11_init 9 = .ok (.sipush 1600, 3) := by decide +kernel
theorem dX11_init_12 : decode cX11_init 12 = .ok (.invokespecial 11, 3) := by decide +kernel
theorem dX11_init_15 : decode cX11_init 15 = .ok (.putfield 14, 3) := by decide +kernel
theorem dX11_init_18 : decode cX11_init 18 = .ok (.aload_n 0, 1) := by decide +kernel
theorem dX11_init_19 : decode cX11_init 19 = .ok (.new 7, 3) := by decide +kernel
theorem dX11_init_22 : decode cX11_init 22 = .ok (.dup, 1) := by decide +kernel
theorem dX11_init_23 : decode cX11_init 23 = .ok (.sipush 1620, 3) := by decide +kernel
theorem dX11_init_26 : decode cX11_init 26 = .ok (.invokespecial 11, 3) := by decide +kernel
theorem dX11_init_29 : decode cX11_init 29 = .ok (.putfield 18, 3) := by decide +kernel
theorem dX11_init_32 : decode cX11_init 32 = .ok (.aload_n 0, 1) := by decide +kernel
theorem dX11_init_33 : decode cX11_init 33 = .ok (.new 21, 3) := by decide +kernel
theorem dX11_init_36 : decode cX11_init 36 = .ok (.dup, 1) := by decide +kernel
theorem dX11_init_37 : decode cX11_init 37 = .ok (.invokespecial 23, 3) := by decide +kernel
theorem dX11_init_40 : decode cX11_init 40 = .ok (.putfield 24, 3) := by decide +kernel
theorem dX11_init_43 : decode cX11_init 43 = .ok (.aload_n 0, 1) := by decide +kernel
theorem dX11_init_44 : decode cX11_init 44 = .ok (.new 28, 3) := by decide +kernel
theorem dX11_init_47 : decode cX11_init 47 = .ok (.dup, 1) := by decide +kernel
theorem dX11_init_48 : decode cX11_init 48 = .ok (.invokespecial 30, 3) := by decide +kernel
theorem dX11_init_51 : decode cX11_init 51 = .ok (.putfield 31, 3) := by decide +kernel
theorem dX11_init_54 : decode cX11_init 54 = .ok (.aload_n 0, 1) := by decide +kernel
theorem dX11_init_55 : decode cX11_init 55 = .ok (.new 35, 3) := by decide +kernel
theorem dX11_init_58 : decode cX11_init 58 = .ok (.dup, 1) := by decide +kernel
theorem dX11_init_59 : decode cX11_init 59 = .ok (.invokespecial 37, 3) := by decide +kernel
theorem dX11_init_62 : decode cX11_init 62 = .ok (.putfield 38, 3) := by decide +kernel
theorem dX11_init_65 : decode cX11_init 65 = .ok (.aload_n 0, 1) := by decide +kernel
theorem dX11_init_66 : decode cX11_init 66 = .ok (.bipush 6, 2) := by decide +kernel
theorem dX11_init_68 : decode cX11_init 68 = .ok (.newarray .int, 2) := by decide +kernel
theorem dX11_init_70 : decode cX11_init 70 = .ok (.putfield 42, 3) := by decide +kernel
theorem dX11_init_73 : decode cX11_init 73 = .ok (.aload_n 0, 1) := by decide +kernel
theorem dX11_init_74 : decode cX11_init 74 = .ok (.iconst 0, 1) := by decide +kernel
theorem dX11_init_75 : decode cX11_init 75 = .ok (.putfield 46, 3) := by decide +kernel
theorem dX11_init_78 : decode cX11_init 78 = .ok (.aload_n 0, 1) := by decide +kernel
theorem dX11_init_79 : decode cX11_init 79 = .ok (.iconst 1, 1) := by decide +kernel
theorem dX11_init_80 : decode cX11_init 80 = .ok (.putfield 50, 3) := by decide +kernel
theorem dX11_init_83 : decode cX11_init 83 = .ok (.return_, 1) := by decide +kernel
theorem yv_X11_init : YI yX11_init cX11_init 1 0 := ⟨kw1_26, kw1_1, kw1_27, rfl, by decide +kernel⟩
set_option maxHeartbeats 4000000 in
set_option maxRecDepth 100000 in
theorem c_X11_init {l : Launch} {D : va_G} {cy : Nat → ClassId} {e0 : Nat × Nat} {w0 : va_W} {x9 : Nat} : WRX (S := (Nat → Nat)) l yX11_init cX11_init 1 none 5 11 3500 92 [.ref x9] D cy e0 (w0 ++ [(x9, .inr (8, [.null, .null, .null, .null, .null, .null, .int 0, .int 0]))]) (fun _ => none) (fun z => z 0 = x9) (fun z => w0 ++ cW cy z e0.1 e0.1 (nI 0) (nI 0) 0 0 0 0 0 0 0 0 0 0 1 (fun _ => 0) (fun _ => 0) (fun _ => 0) (fun _ => 0)) := by
  refine WRXv (by decide) (lv0 := [(0, .ref x9)]) rfl (Nat.le_of_ble_eq_true rfl) ?_
  intro p e s m args below meth c ls A Q S hnm hP hK hD hS hA hE hend hl
  have hx := S.1
  have hb := S.2.1
  have hown : s.vm.findClass RX11 = some m.cls := S.2.2.2.1
  have ht : ∀ w ∈ lw_g, w.before args s = true := fun w h => S.2.2.2.2 w (List.mem_cons_of_mem _ h)
  have hP : va_P D vwCl (w0 ++ [(x9, .inr (8, [.null, .null, .null, .null, .null, .null, .int 0, .int 0]))]) s.heap := hP
  refine lv_aload_n hx hb dX11_init_0 rfl (lv_at hl 0 rfl) ?_
  refine W.objInit hx hb hown (ht _ kw1_28) (ht _ kw1_29) (ht _ kw1_30) rfl (hl.1.trans S.2.2.1.symm) rfl dX11_init_1 (Nat.le_of_ble_eq_true rfl) (Nat.le_of_ble_eq_true rfl) ?_
  refine W.eq (g2 := F0 m 4 ls []) rfl ?_
  refine lv_aload_n hx hb dX11_init_4 rfl (lv_at hl 0 rfl) ?_
  refine va_new (ci := 2) (fs := [.null, .int 0]) (C := RX1) (T := TX1) (N := 2) hx hb ht iFX1 tyX1 tyX1_ok hown (ht _ kw1_31) (ht _ kw1_32) (ht _ kw1_2) hK hP hD hS hA rfl (fun j hj => by rcases (show j = 0 ∨ j = 1 by omega) with rfl | rfl <;> rfl) (by show _ ≤ 11; omega) (by show _ ≤ 3500; omega) dX11_init_5 (fun o_1 H hP hD hS => ?_)
  refine lv_dup hx hb dX11_init_8 rfl ?_
  refine nv_sipush (k := 1600) hx hb dX11_init_9 (by decide) ?_
  refine wr_I S (c_X1_init (w0 := w0 ++ [(x9, .inr (8, [.null, .null, .null, .null, .null, .null, .int 0, .int 0]))]) (x9 := o_1) (r9 := 1600) (by omega)) kw1_33 yv_X1_init ⟨Nat.le_of_ble_eq_true rfl, Nat.le_of_ble_eq_true rfl⟩ hK hP hD hS hA rfl hl.1 rfl (Nat.le_of_ble_eq_true rfl) dX11_init_12 ⟨(by show _ ≤ 11; omega), (by show _ ≤ 3500; omega)⟩ (fun u12 H locs hu12 hP hD hS => ?_)
  rw [List.append_assoc] at hP hD
  have hP : va_P D vwCl (w0 ++ [(x9, .inr (8, [.null, .null, .null, .null, .null, .null, .int 0, .int 0])), (o_1, .inr (2, [.ref u12, .int (nI 0)])), (u12, .inl (cy 0, 1600, .inl (bt (fun _ => 0))))]) H := hP
  have hD : va_D A (w0 ++ [(x9, .inr (8, [.null, .null, .null, .null, .null, .null, .int 0, .int 0])), (o_1, .inr (2, [.ref u12, .int (nI 0)])), (u12, .inl (cy 0, 1600, .inl (bt (fun _ => 0))))]) := hD
  refine W.eq (g2 := F0 m 15 ls [.ref o_1, .ref x9]) rfl ?_
  refine va_putF (ci := 8) (C := RX11) (T := TX11) (N := 8) (ty := tyX11 0) hx hb ht iFX11 tyX11 tyX11_ok nmX11 hown hK hP hD hS (w0.length + 0) (app_r rfl) rfl 0 (by decide) (ht _ kw1_123) (fun _ h9 => h9) rfl hnm rfl (by decide +kernel) (by first | rfl | decide) (by first | rfl | decide) (Nat.le_of_ble_eq_true rfl) dX11_init_15 (fun H locs hP hD hS => ?_)
  rw [app_setr] at hP hD
  have hP : va_P D vwCl (w0 ++ [(x9, .inr (8, [.ref o_1, .null, .null, .null, .null, .null, .int 0, .int 0])), (o_1, .inr (2, [.ref u12, .int (nI 0)])), (u12, .inl (cy 0, 1600, .inl (bt (fun _ => 0))))]) H := hP
  have hD : va_D A (w0 ++ [(x9, .inr (8, [.ref o_1, .null, .null, .null, .null, .null, .int 0, .int 0])), (o_1, .inr (2, [.ref u12, .int (nI 0)])), (u12, .inl (cy 0, 1600, .inl (bt (fun _ => 0))))]) := hD
  refine lv_aload_n hx hb dX11_init_18 rfl (lv_at hl 0 rfl) ?_
  refine va_new (ci := 2) (fs := [.null, .int 0]) (C := RX1) (T := TX1) (N := 2) hx hb ht iFX1 tyX1 tyX1_ok hown (ht _ kw1_31) (ht _ kw1_32) (ht _ kw1_2) hK hP hD hS hA rfl (fun j hj => by rcases (show j = 0 ∨ j = 1 by omega) with rfl | rfl <;> rfl) (by show _ ≤ 11; omega) (by show _ ≤ 3500; omega) dX11_init_19 (fun o_2 H hP hD hS => ?_)
  refine lv_dup hx hb dX11_init_22 rfl ?_
  refine nv_sipush (k := 1620) hx hb dX11_init_23 (by decide) ?_
  refine wr_I S (c_X1_init (w0 := w0 ++ [(x9, .inr (8, [.ref o_1, .null, .null, .null, .null, .null, .int 0, .int 0])), (o_1, .inr (2, [.ref u12, .int (nI 0)])), (u12, .inl (cy 0, 1600, .inl (bt (fun _ => 0))))]) (x9 := o_2) (r9 := 1620) (by omega)) kw1_33 yv_X1_init ⟨Nat.le_of_ble_eq_true rfl, Nat.le_of_ble_eq_true rfl⟩ hK hP hD hS hA rfl hl.1 rfl (Nat.le_of_ble_eq_true rfl) dX11_init_26 ⟨(by show _ ≤ 11; omega), (by show _ ≤ 3500; omega)⟩ (fun u26 H locs hu26 hP hD hS => ?_)
  rw [List.append_assoc] at hP hD
  have hP : va_P D vwCl (w0 ++ [(x9, .inr (8, [.ref o_1, .null, .null, .null, .null, .null, .int 0, .int 0])), (o_1, .inr (2, [.ref u12, .int (nI 0)])), (u12, .inl (cy 0, 1600, .inl (bt (fun _ => 0)))), (o_2, .inr (2, [.ref u26, .int (nI 0)])), (u26, .inl (cy 0, 1620, .inl (bt (fun _ => 0))))]) H := hP
  have hD : va_D A (w0 ++ [(x9, .inr (8, [.ref o_1, .null, .null, .null, .null, .null, .int 0, .int 0])), (o_1, .inr (2, [.ref u12, .int (nI 0)])), (u12, .inl (cy 0, 1600, .inl (bt (fun _ => 0)))), (o_2, .inr (2, [.ref u26, .int (nI 0)])), (u26, .inl (cy 0, 1620, .inl (bt (fun _ => 0))))]) := hD
  refine W.eq (g2 := F0 m 29 ls [.ref o_2, .ref x9]) rfl ?_
  refine va_putF (ci := 8) (C := RX11) (T := TX11) (N := 8) (ty := tyX11 1) hx hb ht iFX11 tyX11 tyX11_ok nmX11 hown hK hP hD hS (w0.length + 0) (app_r rfl) rfl 1 (by decide) (ht _ kw1_124) (fun _ h9 => h9) rfl hnm rfl (by decide +kernel) (by first | rfl | decide) (by first | rfl | decide) (Nat.le_of_ble_eq_true rfl) dX11_init_29 (fun H locs hP hD hS => ?_)
  rw [app_setr] at hP hD
  have hP : va_P D vwCl (w0 ++ [(x9, .inr (8, [.ref o_1, .ref o_2, .null, .null, .null, .null, .int 0, .int 0])), (o_1, .inr (2, [.ref u12, .int (nI 0)])), (u12, .inl (cy 0, 1600, .inl (bt (fun _ => 0)))), (o_2, .inr (2, [.ref u26, .int (nI 0)])), (u26, .inl (cy 0, 1620, .inl (bt (fun _ => 0))))]) H := hP
  have hD : va_D A (w0 ++ [(x9, .inr (8, [.ref o_1, .ref o_2, .null, .null, .null, .null, .int 0, .int 0])), (o_1, .inr (2, [.ref u12, .int (nI 0)])), (u12, .inl (cy 0, 1600, .inl (bt (fun _ => 0)))), (o_2, .inr (2, [.ref u26, .int (nI 0)])), (u26, .inl (cy 0, 1620, .inl (bt (fun _ => 0))))]) := hD
  refine lv_aload_n hx hb dX11_init_32 rfl (lv_at hl 0 rfl) ?_
  refine va_new (ci := 6) (fs := [.long 0, .long 0, .int 0, .int 0]) (C := RX8) (T := TX8) (N := 4) hx hb ht iFX8 tyX8 tyX8_ok hown (ht _ kw1_48) (ht _ kw1_49) (ht _ kw1_4) hK hP hD hS hA rfl (fun j hj => by rcases (show j = 0 ∨ j = 1 ∨ j = 2 ∨ j = 3 by omega) with rfl | rfl | rfl | rfl <;> rfl) (by show _ ≤ 11; omega) (by show _ ≤ 3500; omega) dX11_init_33 (fun o_3 H hP hD hS => ?_)
  refine lv_dup hx hb dX11_init_36 rfl ?_
  refine wr_IN S (c_X8_init (w0 := w0 ++ [(x9, .inr (8, [.ref o_1, .ref o_2, .null, .null, .null, .null, .int 0, .int 0])), (o_1, .inr (2, [.ref u12, .int (nI 0)])), (u12, .inl (cy 0, 1600, .inl (bt (fun _ => 0)))), (o_2, .inr (2, [.ref u26, .int (nI 0)])), (u26, .inl (cy 0, 1620, .inl (bt (fun _ => 0))))]) (x9 := o_3)) hE.1.2.2.2.2.2 yv_X8_init ⟨Nat.le_of_ble_eq_true rfl, Nat.le_of_ble_eq_true rfl⟩ hK hP hD hS hA rfl hl.1 rfl (Nat.le_of_ble_eq_true rfl) dX11_init_37 ⟨(by show _ ≤ 11; omega), (by show _ ≤ 3500; omega)⟩ (fun u37 H locs hu37 hP hD hS => ?_)
  rw [List.append_assoc] at hP hD
  have hP : va_P D vwCl (w0 ++ [(x9, .inr (8, [.ref o_1, .ref o_2, .null, .null, .null, .null, .int 0, .int 0])), (o_1, .inr (2, [.ref u12, .int (nI 0)])), (u12, .inl (cy 0, 1600, .inl (bt (fun _ => 0)))), (o_2, .inr (2, [.ref u26, .int (nI 0)])), (u26, .inl (cy 0, 1620, .inl (bt (fun _ => 0)))), (o_3, .inr (6, [.long 0, .long 0, .int 0, .int 0]))]) H := hP
  have hD : va_D A (w0 ++ [(x9, .inr (8, [.ref o_1, .ref o_2, .null, .null, .null, .null, .int 0, .int 0])), (o_1, .inr (2, [.ref u12, .int (nI 0)])), (u12, .inl (cy 0, 1600, .inl (bt (fun _ => 0)))), (o_2, .inr (2, [.ref u26, .int (nI 0)])), (u26, .inl (cy 0, 1620, .inl (bt (fun _ => 0)))), (o_3, .inr (6, [.long 0, .long 0, .int 0, .int 0]))]) := hD
  refine W.eq (g2 := F0 m 40 ls [.ref o_3, .ref x9]) rfl ?_
  refine va_putF (ci := 8) (C := RX11) (T := TX11) (N := 8) (ty := tyX11 2) hx hb ht iFX11 tyX11 tyX11_ok nmX11 hown hK hP hD hS (w0.length + 0) (app_r rfl) rfl 2 (by decide) (ht _ kw1_125) (fun _ h9 => h9) rfl hnm rfl (by decide +kernel) (by first | rfl | decide) (by first | rfl | decide) (Nat.le_of_ble_eq_true rfl) dX11_init_40 (fun H locs hP hD hS => ?_)
  rw [app_setr] at hP hD
  have hP : va_P D vwCl (w0 ++ [(x9, .inr (8, [.ref o_1, .ref o_2, .ref o_3, .null, .null, .null, .int 0, .int 0])), (o_1, .inr (2, [.ref u12, .int (nI 0)])), (u12, .inl (cy 0, 1600, .inl (bt (fun _ => 0)))), (o_2, .inr (2, [.ref u26, .int (nI 0)])), (u26, .inl (cy 0, 1620, .inl (bt (fun _ => 0)))), (o_3, .inr (6, [.long 0, .long 0, .int 0, .int 0]))]) H := hP
  have hD : va_D A (w0 ++ [(x9, .inr (8, [.ref o_1, .ref o_2, .ref o_3, .null, .null, .null, .int 0, .int 0])), (o_1, .inr (2, [.ref u12, .int (nI 0)])), (u12, .inl (cy 0, 1600, .inl (bt (fun _ => 0)))), (o_2, .inr (2, [.ref u26, .int (nI 0)])), (u26, .inl (cy 0, 1620, .inl (bt (fun _ => 0)))), (o_3, .inr (6, [.long 0, .long 0, .int 0, .int 0]))]) := hD
  refine lv_aload_n hx hb dX11_init_43 rfl (lv_at hl 0 rfl) ?_
  refine va_new (ci := 4) (fs := [.null, .int 0]) (C := RX5) (T := TX5) (N := 2) hx hb ht iFX5 tyX5 tyX5_ok hown (ht _ kw1_67) (ht _ kw1_68) (ht _ kw1_5) hK hP hD hS hA rfl (fun j hj => by rcases (show j = 0 ∨ j = 1 by omega) with rfl | rfl <;> rfl) (by show _ ≤ 11; omega) (by show _ ≤ 3500; omega) dX11_init_44 (fun o_4 H hP hD hS => ?_)
  refine lv_dup hx hb dX11_init_47 rfl ?_
  refine wr_I S (c_X5_init (w0 := w0 ++ [(x9, .inr (8, [.ref o_1, .ref o_2, .ref o_3, .null, .null, .null, .int 0, .int 0])), (o_1, .inr (2, [.ref u12, .int (nI 0)])), (u12, .inl (cy 0, 1600, .inl (bt (fun _ => 0)))), (o_2, .inr (2, [.ref u26, .int (nI 0)])), (u26, .inl (cy 0, 1620, .inl (bt (fun _ => 0)))), (o_3, .inr (6, [.long 0, .long 0, .int 0, .int 0]))]) (x9 := o_4)) kw1_69 yv_X5_init ⟨Nat.le_of_ble_eq_true rfl, Nat.le_of_ble_eq_true rfl⟩ hK hP hD hS hA rfl hl.1 rfl (Nat.le_of_ble_eq_true rfl) dX11_init_48 ⟨(by show _ ≤ 11; omega), (by show _ ≤ 3500; omega)⟩ (fun u48 H locs hu48 hP hD hS => ?_)
  rw [List.append_assoc] at hP hD
  have hP : va_P D vwCl (w0 ++ [(x9, .inr (8, [.ref o_1, .ref o_2, .ref o_3, .null, .null, .null, .int 0, .int 0])), (o_1, .inr (2, [.ref u12, .int (nI 0)])), (u12, .inl (cy 0, 1600, .inl (bt (fun _ => 0)))), (o_2, .inr (2, [.ref u26, .int (nI 0)])), (u26, .inl (cy 0, 1620, .inl (bt (fun _ => 0)))), (o_3, .inr (6, [.long 0, .long 0, .int 0, .int 0])), (o_4, .inr (4, [.ref u48, .int (nI 0)])), (u48, .inl (cy 1, 4, .inl (fun _ => 0)))]) H := hP
  have hD : va_D A (w0 ++ [(x9, .inr (8, [.ref o_1, .ref o_2, .ref o_3, .null, .null, .null, .int 0, .int 0])), (o_1, .inr (2, [.ref u12, .int (nI 0)])), (u12, .inl (cy 0, 1600, .inl (bt (fun _ => 0)))), (o_2, .inr (2, [.ref u26, .int (nI 0)])), (u26, .inl (cy 0, 1620, .inl (bt (fun _ => 0)))), (o_3, .inr (6, [.long 0, .long 0, .int 0, .int 0])), (o_4, .inr (4, [.ref u48, .int (nI 0)])), (u48, .inl (cy 1, 4, .inl (fun _ => 0)))]) := hD
  refine W.eq (g2 := F0 m 51 ls [.ref o_4, .ref x9]) rfl ?_
  refine va_putF (ci := 8) (C := RX11) (T := TX11) (N := 8) (ty := tyX11 3) hx hb ht iFX11 tyX11 tyX11_ok nmX11 hown hK hP hD hS (w0.length + 0) (app_r rfl) rfl 3 (by decide) (ht _ kw1_126) (fun _ h9 => h9) rfl hnm rfl (by decide +kernel) (by first | rfl | decide) (by first | rfl | decide) (Nat.le_of_ble_eq_true rfl) dX11_init_51 (fun H locs hP hD hS => ?_)
  rw [app_setr] at hP hD
  have hP : va_P D vwCl (w0 ++ [(x9, .inr (8, [.ref o_1, .ref o_2, .ref o_3, .ref o_4, .null, .null, .int 0, .int 0])), (o_1, .inr (2, [.ref u12, .int (nI 0)])), (u12, .inl (cy 0, 1600, .inl (bt (fun _ => 0)))), (o_2, .inr (2, [.ref u26, .int (nI 0)])), (u26, .inl (cy 0, 1620, .inl (bt (fun _ => 0)))), (o_3, .inr (6, [.long 0, .long 0, .int 0, .int 0])), (o_4, .inr (4, [.ref u48, .int (nI 0)])), (u48, .inl (cy 1, 4, .inl (fun _ => 0)))]) H := hP
  have hD : va_D A (w0 ++ [(x9, .inr (8, [.ref o_1, .ref o_2, .ref o_3, .ref o_4, .null, .null, .int 0, .int 0])), (o_1, .inr (2, [.ref u12, .int (nI 0)])), (u12, .inl (cy 0, 1600, .inl (bt (fun _ => 0)))), (o_2, .inr (2, [.ref u26, .int (nI 0)])), (u26, .inl (cy 0, 1620, .inl (bt (fun _ => 0)))), (o_3, .inr (6, [.long 0, .long 0, .int 0, .int 0])), (o_4, .inr (4, [.ref u48, .int (nI 0)])), (u48, .inl (cy 1, 4, .inl (fun _ => 0)))]) := hD
  refine lv_aload_n hx hb dX11_init_54 rfl (lv_at hl 0 rfl) ?_
  refine va_new (ci := 7) (fs := [.null, .null, .long 0]) (C := RX10) (T := TX10) (N := 3) hx hb ht iFX10 tyX10 tyX10_ok hown (ht _ kw1_81) (ht _ kw1_82) (ht _ kw1_6) hK hP hD hS hA rfl (fun j hj => by rcases (show j = 0 ∨ j = 1 ∨ j = 2 by omega) with rfl | rfl | rfl <;> rfl) (by show _ ≤ 11; omega) (by show _ ≤ 3500; omega) dX11_init_55 (fun o_5 H hP hD hS => ?_)
  refine lv_dup hx hb dX11_init_58 rfl ?_
  refine wx_I S (c_X10_init (w0 := w0 ++ [(x9, .inr (8, [.ref o_1, .ref o_2, .ref o_3, .ref o_4, .null, .null, .int 0, .int 0])), (o_1, .inr (2, [.ref u12, .int (nI 0)])), (u12, .inl (cy 0, 1600, .inl (bt (fun _ => 0)))), (o_2, .inr (2, [.ref u26, .int (nI 0)])), (u26, .inl (cy 0, 1620, .inl (bt (fun _ => 0)))), (o_3, .inr (6, [.long 0, .long 0, .int 0, .int 0])), (o_4, .inr (4, [.ref u48, .int (nI 0)])), (u48, .inl (cy 1, 4, .inl (fun _ => 0)))]) (x9 := o_5)) kw1_83 yv_X10_init ⟨Nat.le_of_ble_eq_true rfl, Nat.le_of_ble_eq_true rfl⟩ hK hP hD hS hA hE rfl hl.1 rfl (Nat.le_of_ble_eq_true rfl) dX11_init_59 ⟨(by show _ ≤ 11; omega), (by show _ ≤ 3500; omega)⟩ (fun u59 H locs hu59 hP hD hS => ?_)
  rw [List.append_assoc] at hP hD
  have hP : va_P D vwCl (w0 ++ [(x9, .inr (8, [.ref o_1, .ref o_2, .ref o_3, .ref o_4, .null, .null, .int 0, .int 0])), (o_1, .inr (2, [.ref u12, .int (nI 0)])), (u12, .inl (cy 0, 1600, .inl (bt (fun _ => 0)))), (o_2, .inr (2, [.ref u26, .int (nI 0)])), (u26, .inl (cy 0, 1620, .inl (bt (fun _ => 0)))), (o_3, .inr (6, [.long 0, .long 0, .int 0, .int 0])), (o_4, .inr (4, [.ref u48, .int (nI 0)])), (u48, .inl (cy 1, 4, .inl (fun _ => 0))), (o_5, .inr (7, [.ref u59.1, .ref u59.2, .long (lN 0)])), aL u59.1 (nI 0) e0.1 0, aL u59.2 (nI 0) e0.1 0]) H := hP
  have hD : va_D A (w0 ++ [(x9, .inr (8, [.ref o_1, .ref o_2, .ref o_3, .ref o_4, .null, .null, .int 0, .int 0])), (o_1, .inr (2, [.ref u12, .int (nI 0)])), (u12, .inl (cy 0, 1600, .inl (bt (fun _ => 0)))), (o_2, .inr (2, [.ref u26, .int (nI 0)])), (u26, .inl (cy 0, 1620, .inl (bt (fun _ => 0)))), (o_3, .inr (6, [.long 0, .long 0, .int 0, .int 0])), (o_4, .inr (4, [.ref u48, .int (nI 0)])), (u48, .inl (cy 1, 4, .inl (fun _ => 0))), (o_5, .inr (7, [.ref u59.1, .ref u59.2, .long (lN 0)])), aL u59.1 (nI 0) e0.1 0, aL u59.2 (nI 0) e0.1 0]) := hD
  refine W.eq (g2 := F0 m 62 ls [.ref o_5, .ref x9]) rfl ?_
  refine va_putF (ci := 8) (C := RX11) (T := TX11) (N := 8) (ty := tyX11 4) hx hb ht iFX11 tyX11 tyX11_ok nmX11 hown hK hP hD hS (w0.length + 0) (app_r rfl) rfl 4 (by decide) (ht _ kw1_127) (fun _ h9 => h9) rfl hnm rfl (by decide +kernel) (by first | rfl | decide) (by first | rfl | decide) (Nat.le_of_ble_eq_true rfl) dX11_init_62 (fun H locs hP hD hS => ?_)
  rw [app_setr] at hP hD
  have hP : va_P D vwCl (w0 ++ [(x9, .inr (8, [.ref o_1, .ref o_2, .ref o_3, .ref o_4, .ref o_5, .null, .int 0, .int 0])), (o_1, .inr (2, [.ref u12, .int (nI 0)])), (u12, .inl (cy 0, 1600, .inl (bt (fun _ => 0)))), (o_2, .inr (2, [.ref u26, .int (nI 0)])), (u26, .inl (cy 0, 1620, .inl (bt (fun _ => 0)))), (o_3, .inr (6, [.long 0, .long 0, .int 0, .int 0])), (o_4, .inr (4, [.ref u48, .int (nI 0)])), (u48, .inl (cy 1, 4, .inl (fun _ => 0))), (o_5, .inr (7, [.ref u59.1, .ref u59.2, .long (lN 0)])), aL u59.1 (nI 0) e0.1 0, aL u59.2 (nI 0) e0.1 0]) H := hP
  have hD : va_D A (w0 ++ [(x9, .inr (8, [.ref o_1, .ref o_2, .ref o_3, .ref o_4, .ref o_5, .null, .int 0, .int 0])), (o_1, .inr (2, [.ref u12, .int (nI 0)])), (u12, .inl (cy 0, 1600, .inl (bt (fun _ => 0)))), (o_2, .inr (2, [.ref u26, .int (nI 0)])), (u26, .inl (cy 0, 1620, .inl (bt (fun _ => 0)))), (o_3, .inr (6, [.long 0, .long 0, .int 0, .int 0])), (o_4, .inr (4, [.ref u48, .int (nI 0)])), (u48, .inl (cy 1, 4, .inl (fun _ => 0))), (o_5, .inr (7, [.ref u59.1, .ref u59.2, .long (lN 0)])), aL u59.1 (nI 0) e0.1 0, aL u59.2 (nI 0) e0.1 0]) := hD
  refine lv_aload_n hx hb dX11_init_65 rfl (lv_at hl 0 rfl) ?_
  refine nv_bipush (k := 6) hx hb dX11_init_66 (by decide) ?_
  refine va_newa (atype := .int) (a0 := (6, .inl (fun _ => 0))) hx hb (ht _ kw1_80) (ty := .int) rfl hK hP hD hS hA (fun _ => rfl) (nI_pos (n := 6) (by omega)) (nI_clamp (n := 6) (by omega)) (by show 6 * 4 ≤ _; omega) (by show _ ≤ 11; omega) (by show _ ≤ 3500; omega) dX11_init_68 (fun q68 cA H hK2 hP hD hS => ?_)
  have ecA := a_cls 1 hK hK2 rfl (fun C h9 => by cases h9)
  subst ecA
  rw [List.append_assoc] at hP hD
  have hP : va_P D vwCl (w0 ++ [(x9, .inr (8, [.ref o_1, .ref o_2, .ref o_3, .ref o_4, .ref o_5, .null, .int 0, .int 0])), (o_1, .inr (2, [.ref u12, .int (nI 0)])), (u12, .inl (cy 0, 1600, .inl (bt (fun _ => 0)))), (o_2, .inr (2, [.ref u26, .int (nI 0)])), (u26, .inl (cy 0, 1620, .inl (bt (fun _ => 0)))), (o_3, .inr (6, [.long 0, .long 0, .int 0, .int 0])), (o_4, .inr (4, [.ref u48, .int (nI 0)])), (u48, .inl (cy 1, 4, .inl (fun _ => 0))), (o_5, .inr (7, [.ref u59.1, .ref u59.2, .long (lN 0)])), aL u59.1 (nI 0) e0.1 0, aL u59.2 (nI 0) e0.1 0, (q68, .inl (cy 1, 6, .inl (fun _ => 0)))]) H := hP
  have hD : va_D A (w0 ++ [(x9, .inr (8, [.ref o_1, .ref o_2, .ref o_3, .ref o_4, .ref o_5, .null, .int 0, .int 0])), (o_1, .inr (2, [.ref u12, .int (nI 0)])), (u12, .inl (cy 0, 1600, .inl (bt (fun _ => 0)))), (o_2, .inr (2, [.ref u26, .int (nI 0)])), (u26, .inl (cy 0, 1620, .inl (bt (fun _ => 0)))), (o_3, .inr (6, [.long 0, .long 0, .int 0, .int 0])), (o_4, .inr (4, [.ref u48, .int (nI 0)])), (u48, .inl (cy 1, 4, .inl (fun _ => 0))), (o_5, .inr (7, [.ref u59.1, .ref u59.2, .long (lN 0)])), aL u59.1 (nI 0) e0.1 0, aL u59.2 (nI 0) e0.1 0, (q68, .inl (cy 1, 6, .inl (fun _ => 0)))]) := hD
  refine va_putF (ci := 8) (C := RX11) (T := TX11) (N := 8) (ty := tyX11 5) hx hb ht iFX11 tyX11 tyX11_ok nmX11 hown hK hP hD hS (w0.length + 0) (app_r rfl) rfl 5 (by decide) (ht _ kw1_128) (fun _ h9 => h9) rfl hnm rfl (by decide +kernel) (by first | rfl | decide) (by first | rfl | decide) (Nat.le_of_ble_eq_true rfl) dX11_init_70 (fun H locs hP hD hS => ?_)
  rw [app_setr] at hP hD
  have hP : va_P D vwCl (w0 ++ [(x9, .inr (8, [.ref o_1, .ref o_2, .ref o_3, .ref o_4, .ref o_5, .ref q68, .int 0, .int 0])), (o_1, .inr (2, [.ref u12, .int (nI 0)])), (u12, .inl (cy 0, 1600, .inl (bt (fun _ => 0)))), (o_2, .inr (2, [.ref u26, .int (nI 0)])), (u26, .inl (cy 0, 1620, .inl (bt (fun _ => 0)))), (o_3, .inr (6, [.long 0, .long 0, .int 0, .int 0])), (o_4, .inr (4, [.ref u48, .int (nI 0)])), (u48, .inl (cy 1, 4, .inl (fun _ => 0))), (o_5, .inr (7, [.ref u59.1, .ref u59.2, .long (lN 0)])), aL u59.1 (nI 0) e0.1 0, aL u59.2 (nI 0) e0.1 0, (q68, .inl (cy 1, 6, .inl (fun _ => 0)))]) H := hP
  have hD : va_D A (w0 ++ [(x9, .inr (8, [.ref o_1, .ref o_2, .ref o_3, .ref o_4, .ref o_5, .ref q68, .int 0, .int 0])), (o_1, .inr (2, [.ref u12, .int (nI 0)])), (u12, .inl (cy 0, 1600, .inl (bt (fun _ => 0)))), (o_2, .inr (2, [.ref u26, .int (nI 0)])), (u26, .inl (cy 0, 1620, .inl (bt (fun _ => 0)))), (o_3, .inr (6, [.long 0, .long 0, .int 0, .int 0])), (o_4, .inr (4, [.ref u48, .int (nI 0)])), (u48, .inl (cy 1, 4, .inl (fun _ => 0))), (o_5, .inr (7, [.ref u59.1, .ref u59.2, .long (lN 0)])), aL u59.1 (nI 0) e0.1 0, aL u59.2 (nI 0) e0.1 0, (q68, .inl (cy 1, 6, .inl (fun _ => 0)))]) := hD
  refine lv_aload_n hx hb dX11_init_73 rfl (lv_at hl 0 rfl) ?_
  refine nv_iconst (k := 0) hx hb dX11_init_74 rfl ?_
  refine va_put (ci := 8) (C := RX11) (T := TX11) (N := 8) (ty := tyX11 6) hx hb ht iFX11 tyX11 tyX11_ok nmX11 hown hK hP hD hS (w0.length + 0) (app_r rfl) rfl 6 (by decide) (ht _ kw1_129) (fun _ h9 => h9) rfl (by decide +kernel) (by first | rfl | decide) (by first | rfl | decide) (Nat.le_of_ble_eq_true rfl) dX11_init_75 (fun H locs hP hD hS => ?_)
  rw [app_setr] at hP hD
  have hP : va_P D vwCl (w0 ++ [(x9, .inr (8, [.ref o_1, .ref o_2, .ref o_3, .ref o_4, .ref o_5, .ref q68, .int (nI 0), .int 0])), (o_1, .inr (2, [.ref u12, .int (nI 0)])), (u12, .inl (cy 0, 1600, .inl (bt (fun _ => 0)))), (o_2, .inr (2, [.ref u26, .int (nI 0)])), (u26, .inl (cy 0, 1620, .inl (bt (fun _ => 0)))), (o_3, .inr (6, [.long 0, .long 0, .int 0, .int 0])), (o_4, .inr (4, [.ref u48, .int (nI 0)])), (u48, .inl (cy 1, 4, .inl (fun _ => 0))), (o_5, .inr (7, [.ref u59.1, .ref u59.2, .long (lN 0)])), aL u59.1 (nI 0) e0.1 0, aL u59.2 (nI 0) e0.1 0, (q68, .inl (cy 1, 6, .inl (fun _ => 0)))]) H := hP
  have hD : va_D A (w0 ++ [(x9, .inr (8, [.ref o_1, .ref o_2, .ref o_3, .ref o_4, .ref o_5, .ref q68, .int (nI 0), .int 0])), (o_1, .inr (2, [.ref u12, .int (nI 0)])), (u12, .inl (cy 0, 1600, .inl (bt (fun _ => 0)))), (o_2, .inr (2, [.ref u26, .int (nI 0)])), (u26, .inl (cy 0, 1620, .inl (bt (fun _ => 0)))), (o_3, .inr (6, [.long 0, .long 0, .int 0, .int 0])), (o_4, .inr (4, [.ref u48, .int (nI 0)])), (u48, .inl (cy 1, 4, .inl (fun _ => 0))), (o_5, .inr (7, [.ref u59.1, .ref u59.2, .long (lN 0)])), aL u59.1 (nI 0) e0.1 0, aL u59.2 (nI 0) e0.1 0, (q68, .inl (cy 1, 6, .inl (fun _ => 0)))]) := hD
  refine lv_aload_n hx hb dX11_init_78 rfl (lv_at hl 0 rfl) ?_
  refine nv_iconst (k := 1) hx hb dX11_init_79 rfl ?_
  refine va_put (ci := 8) (C := RX11) (T := TX11) (N := 8) (ty := tyX11 7) hx hb ht iFX11 tyX11 tyX11_ok nmX11 hown hK hP hD hS (w0.length + 0) (app_r rfl) rfl 7 (by decide) (ht _ kw1_130) (fun _ h9 => h9) rfl (by decide +kernel) (by first | rfl | decide) (by first | rfl | decide) (Nat.le_of_ble_eq_true rfl) dX11_init_80 (fun H locs hP hD hS => ?_)
  rw [app_setr] at hP hD
  have hP : va_P D vwCl (w0 ++ [(x9, .inr (8, [.ref o_1, .ref o_2, .ref o_3, .ref o_4, .ref o_5, .ref q68, .int (nI 0), .int (nI 1)])), (o_1, .inr (2, [.ref u12, .int (nI 0)])), (u12, .inl (cy 0, 1600, .inl (bt (fun _ => 0)))), (o_2, .inr (2, [.ref u26, .int (nI 0)])), (u26, .inl (cy 0, 1620, .inl (bt (fun _ => 0)))), (o_3, .inr (6, [.long 0, .long 0, .int 0, .int 0])), (o_4, .inr (4, [.ref u48, .int (nI 0)])), (u48, .inl (cy 1, 4, .inl (fun _ => 0))), (o_5, .inr (7, [.ref u59.1, .ref u59.2, .long (lN 0)])), aL u59.1 (nI 0) e0.1 0, aL u59.2 (nI 0) e0.1 0, (q68, .inl (cy 1, 6, .inl (fun _ => 0)))]) H := hP
  have hD : va_D A (w0 ++ [(x9, .inr (8, [.ref o_1, .ref o_2, .ref o_3, .ref o_4, .ref o_5, .ref q68, .int (nI 0), .int (nI 1)])), (o_1, .inr (2, [.ref u12, .int (nI 0)])), (u12, .inl (cy 0, 1600, .inl (bt (fun _ => 0)))), (o_2, .inr (2, [.ref u26, .int (nI 0)])), (u26, .inl (cy 0, 1620, .inl (bt (fun _ => 0)))), (o_3, .inr (6, [.long 0, .long 0, .int 0, .int 0])), (o_4, .inr (4, [.ref u48, .int (nI 0)])), (u48, .inl (cy 1, 4, .inl (fun _ => 0))), (o_5, .inr (7, [.ref u59.1, .ref u59.2, .long (lN 0)])), aL u59.1 (nI 0) e0.1 0, aL u59.2 (nI 0) e0.1 0, (q68, .inl (cy 1, 6, .inl (fun _ => 0)))]) := hD
  refine W.widen (k := 11) (n := 3500) (by omega) (by omega) ?_
  exact hend (fun k => [x9, o_1, u12, o_2, u26, o_3, o_4, u48, o_5, u59.1, u59.2, q68].getD k 0) rfl hP hD hS dX11_init_83
