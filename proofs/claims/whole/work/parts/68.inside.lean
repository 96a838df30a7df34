theorem dX11_closePacket_0 : decode cX11_closePacket 0 = .ok (.aload_n 0, 1) := by decide +kernel
theorem dX11_closePacket_1 : decode cX11_closePacket 1 = .ok (.getfield 14, 3) := by decide +kernel
theorem dX11_closePacket_4 : decode cX11_closePacket 4 = .ok (.iconst 0, 1) := by decide +kernel
theorem dX11_closePacket_5 : decode cX11_closePacket 5 = .ok (.invokevirtual 79, 3) := by decide +kernel
theorem dX11_closePacket_8 : decode cX11_closePacket 8 = .ok (.iload_n 1, 1) := by decide +kernel
theorem dX11_closePacket_9 : decode cX11_closePacket 9 = .ok (.bipush 10, 2) := by decide +kernel
theorem dX11_closePacket_11 : decode cX11_closePacket 11 = .ok (.if_icmp .lt 25, 3) := by decide +kernel
theorem dX11_closePacket_14 : decode cX11_closePacket 14 = .ok (.iload_n 1, 1) := by decide +kernel
theorem dX11_closePacket_15 : decode cX11_closePacket 15 = .ok (.bipush 15, 2) := by decide +kernel
theorem dX11_closePacket_17 : decode cX11_closePacket 17 = .ok (.if_icmp .gt 19, 3) := by decide +kernel
theorem dX11_closePacket_20 : decode cX11_closePacket 20 = .ok (.aload_n 0, 1) := by decide +kernel
theorem dX11_closePacket_21 : decode cX11_closePacket 21 = .ok (.getfield 42, 3) := by decide +kernel
theorem dX11_closePacket_24 : decode cX11_closePacket 24 = .ok (.iload_n 1, 1) := by decide +kernel
theorem dX11_closePacket_25 : decode cX11_closePacket 25 = .ok (.bipush 10, 2) := by decide +kernel
theorem dX11_closePacket_27 : decode cX11_closePacket 27 = .ok (.isub, 1) := by decide +kernel
theorem dX11_closePacket_28 : decode cX11_closePacket 28 = .ok (.dup2, 1) := by decide +kernel
theorem dX11_closePacket_29 : decode cX11_closePacket 29 = .ok (.iaload, 1) := by decide +kernel
theorem dX11_closePacket_30 : decode cX11_closePacket 30 = .ok (.iconst 1, 1) := by decide +kernel
theorem dX11_closePacket_31 : decode cX11_closePacket 31 = .ok (.iadd, 1) := by decide +kernel
theorem dX11_closePacket_32 : decode cX11_closePacket 32 = .ok (.iastore, 1) := by decide +kernel
theorem dX11_closePacket_33 : decode cX11_closePacket 33 = .ok (.iload_n 1, 1) := by decide +kernel
theorem dX11_closePacket_34 : decode cX11_closePacket 34 = .ok (.ineg, 1) := by decide +kernel
theorem dX11_closePacket_35 : decode cX11_closePacket 35 = .ok (.ireturn, 1) := by decide +kernel
theorem dX11_closePacket_36 : decode cX11_closePacket 36 = .ok (.aload_n 0, 1) := by decide +kernel
theorem dX11_closePacket_37 : decode cX11_closePacket 37 = .ok (.dup, 1) := by decide +kernel
theorem dX11_closePacket_38 : decode cX11_closePacket 38 = .ok (.getfield 46, 3) := by decide +kernel
theorem dX11_closePacket_41 : decode cX11_closePacket 41 = .ok (.iconst 1, 1) := by decide +kernel
theorem dX11_closePacket_42 : decode cX11_closePacket 42 = .ok (.iadd, 1) := by decide +kernel
theorem dX11_closePacket_43 : decode cX11_closePacket 43 = .ok (.putfield 46, 3) := by decide +kernel
theorem dX11_closePacket_46 : decode cX11_closePacket 46 = .ok (.aload_n 0, 1) := by decide +kernel
theorem dX11_closePacket_47 : decode cX11_closePacket 47 = .ok (.getfield 18, 3) := by decide +kernel
theorem dX11_closePacket_50 : decode cX11_closePacket 50 = .ok (.invokevirtual 75, 3) := by decide +kernel
theorem dX11_closePacket_53 : decode cX11_closePacket 53 = .ok (.ireturn, 1) := by decide +kernel
theorem yv_X11_closePacket : YV RX11 yX11_closePacket cX11_closePacket 2 (some .int) 1 := ⟨kw3_148, kws_14, kw1_1, kw3_149, by decide +kernel⟩
set_option maxHeartbeats 4000000 in
set_option maxRecDepth 100000 in
theorem c_X11_closePacketD {l : Launch} {D : va_G} {cy : Nat → ClassId} {ad : Nat → Nat} {tl dy : va_W} {eb es tp os bits F G u nb ns T M id : Nat} {mb mz : Int32} {ft fo : Nat → UInt8} {g : Nat → Int32} {dq : Nat → Nat} (htp : tp ≤ 1600) (hos : os ≤ 1620) (hsi : SI bits F G) (hu4 : u ≤ 4) {x : Nat} (hx1 : 10 ≤ x) (hx2 : x ≤ 15) : WR (S := Unit) l yX11_closePacket cX11_closePacket 2 (some .int) 2 0 0 36 [.ref (ad 0), .int (nI x)] D cy ((cW cy ad eb es mb mz tp os bits F G u nb ns T M id ft fo g dq ++ tl) ++ dy) (fun u_ => some (.int (- nI x))) (fun _ => True) (fun _ => (cW cy ad eb es mb mz 0 os bits F G u nb ns T M id ft fo g (va_up dq (x - 10) (dq (x - 10) + 1)) ++ tl) ++ dy) := by
  refine WRi (by decide) (lv0 := [(0, .ref (ad 0)), (1, .int (nI x))]) rfl (Nat.le_of_ble_eq_true rfl) ?_
  intro p e s m args below meth c ls A Q S hnm hP hK hD hS hA hend hl
  have hx := S.1
  have hb := S.2.1
  have hown : s.vm.findClass RX11 = some m.cls := S.2.2.2.1
  have ht : ∀ w ∈ lw_g, w.before args s = true := fun w h => S.2.2.2.2 w (List.mem_cons_of_mem _ h)
  have hP : va_P D vwCl ((cW cy ad eb es mb mz tp os bits F G u nb ns T M id ft fo g dq ++ tl) ++ dy) s.heap := hP
  have hT : ((cW cy ad eb es mb mz tp os bits F G u nb ns T M id ft fo g dq ++ tl) ++ dy)[8]? = some (tE (ad 8) (ad 9) (ad 10) T) := rfl
  have hLb : ((cW cy ad eb es mb mz tp os bits F G u nb ns T M id ft fo g dq ++ tl) ++ dy)[9]? = some (aL (ad 9) mb eb nb) := rfl
  have hLs : ((cW cy ad eb es mb mz tp os bits F G u nb ns T M id ft fo g dq ++ tl) ++ dy)[10]? = some (aL (ad 10) mz es ns) := rfl
  have hST : STP ((cW cy ad eb es mb mz tp os bits F G u nb ns T M id ft fo g dq ++ tl) ++ dy) (ad 5) bits F G := STP_of (ks := 5) rfl hsi
  have hPL : PLP cy ((cW cy ad eb es mb mz tp os bits F G u nb ns T M id ft fo g dq ++ tl) ++ dy) (ad 6) g u := PLP_of (kp := 6) (kq := 7) rfl rfl hu4
  refine lv_aload_n hx hb dX11_closePacket_0 rfl (lv_at hl 0 rfl) ?_
  refine va_get (ci := 8) (C := RX11) (T := TX11) (N := 8) hx hb ht iFX11 hown hK hP 0 rfl rfl 0 (by decide) (ht _ kw1_123) (fun _ h9 => h9) rfl dX11_closePacket_1 ?_
  refine nv_iconst (k := 0) hx hb dX11_closePacket_4 rfl ?_
  refine wr_V S (c_X1_resize (ws := (cW cy ad eb es mb mz tp os bits F G u nb ns T M id ft fo g dq ++ tl) ++ dy) (kb := 1) (ka := 2) rfl rfl (by omega) (by omega) (x := 0) (by omega)) kw1_224 yv_X1_resize ⟨Nat.le_of_ble_eq_true rfl, Nat.le_of_ble_eq_true rfl⟩ hK hP hD hS hA (va_recv hK hP (ci := 2) (q0 := 1) rfl rfl) rfl hl.1 rfl (Nat.le_of_ble_eq_true rfl) dX11_closePacket_5 ⟨(Nat.zero_le _), (Nat.zero_le _)⟩ (fun g5 H locs hg5 hP hD hS => ?_)
  have hP : va_P D vwCl ((cW cy ad eb es mb mz 0 os bits F G u nb ns T M id ft fo g dq ++ tl) ++ dy) H := hP
  have hD : va_D A ((cW cy ad eb es mb mz 0 os bits F G u nb ns T M id ft fo g dq ++ tl) ++ dy) := hD
  refine W.eq (g2 := F0 m 8 ls []) rfl ?_
  refine lv_iload_n hx hb dX11_closePacket_8 rfl (lv_at hl 1 rfl) ?_
  refine nv_bipush (k := 10) hx hb dX11_closePacket_9 (by decide) ?_
  refine nv_icmp_lt (tgt := 36) hx hb dX11_closePacket_11 (by decide) (by omega) (by omega) (fun h11 => ?_) (fun h11 => ?_)
  · skip
    exfalso; omega
  refine lv_iload_n hx hb dX11_closePacket_14 rfl (lv_at hl 1 rfl) ?_
  refine nv_bipush (k := 15) hx hb dX11_closePacket_15 (by decide) ?_
  refine nv_icmp_gt (tgt := 36) hx hb dX11_closePacket_17 (by decide) (by omega) (by omega) (fun h17 => ?_) (fun h17 => ?_)
  · skip
    exfalso; omega
  refine lv_aload_n hx hb dX11_closePacket_20 rfl (lv_at hl 0 rfl) ?_
  refine va_get (ci := 8) (C := RX11) (T := TX11) (N := 8) hx hb ht iFX11 hown hK hP 0 rfl rfl 5 (by decide) (ht _ kw1_128) (fun _ h9 => h9) rfl dX11_closePacket_21 ?_
  refine lv_iload_n hx hb dX11_closePacket_24 rfl (lv_at hl 1 rfl) ?_
  refine nv_bipush (k := 10) hx hb dX11_closePacket_25 (by decide) ?_
  refine nv_isub hx hb (by omega) dX11_closePacket_27 ?_
  refine lv_dup2_11 hx hb dX11_closePacket_28 rfl rfl ?_
  refine nv_iald hx hb hK hP 11 rfl (by omega) (by omega) dX11_closePacket_29 ?_
  refine nv_iconst (k := 1) hx hb dX11_closePacket_30 rfl ?_
  refine nv_iadd hx hb dX11_closePacket_31 ?_
  refine nv_iast hx hb hK hP hD hS 11 rfl (by omega) (by omega) dX11_closePacket_32 (fun H locs hP hD hS => ?_)
  rw [ni_upd] at hP hD
  have hP : va_P D vwCl ((cW cy ad eb es mb mz 0 os bits F G u nb ns T M id ft fo g (va_up dq (x - 10) ((dq (x - 10)) + 1)) ++ tl) ++ dy) H := hP
  have hD : va_D A ((cW cy ad eb es mb mz 0 os bits F G u nb ns T M id ft fo g (va_up dq (x - 10) ((dq (x - 10)) + 1)) ++ tl) ++ dy) := hD
  refine lv_iload_n hx hb dX11_closePacket_33 rfl (lv_at hl 1 rfl) ?_
  refine lv_ineg hx hb dX11_closePacket_34 ?_
  exact hend () rfl trivial hP hD hS dX11_closePacket_35
set_option maxHeartbeats 4000000 in
set_option maxRecDepth 100000 in
theorem c_X11_closePacketM {l : Launch} {D : va_G} {cy : Nat → ClassId} {ad : Nat → Nat} {tl dy : va_W} {eb es tp os bits F G u nb ns T M id : Nat} {mb mz : Int32} {ft fo : Nat → UInt8} {g : Nat → Int32} {dq : Nat → Nat} (htp : tp ≤ 1600) (hos : os ≤ 1620) (hsi : SI bits F G) (hu4 : u ≤ 4) : WR (S := Unit) l yX11_closePacket cX11_closePacket 2 (some .int) 2 0 0 36 [.ref (ad 0), .int (nI 0)] D cy ((cW cy ad eb es mb mz tp os bits F G u nb ns T M id ft fo g dq ++ tl) ++ dy) (fun u_ => some (.int (nI os))) (fun _ => True) (fun _ => (cW cy ad eb es mb mz 0 os bits F G u nb ns T (M + 1) id ft fo g dq ++ tl) ++ dy) := by
  refine WRi (by decide) (lv0 := [(0, .ref (ad 0)), (1, .int (nI 0))]) rfl (Nat.le_of_ble_eq_true rfl) ?_
  intro p e s m args below meth c ls A Q S hnm hP hK hD hS hA hend hl
  have hx := S.1
  have hb := S.2.1
  have hown : s.vm.findClass RX11 = some m.cls := S.2.2.2.1
  have ht : ∀ w ∈ lw_g, w.before args s = true := fun w h => S.2.2.2.2 w (List.mem_cons_of_mem _ h)
  have hP : va_P D vwCl ((cW cy ad eb es mb mz tp os bits F G u nb ns T M id ft fo g dq ++ tl) ++ dy) s.heap := hP
  have hT : ((cW cy ad eb es mb mz tp os bits F G u nb ns T M id ft fo g dq ++ tl) ++ dy)[8]? = some (tE (ad 8) (ad 9) (ad 10) T) := rfl
  have hLb : ((cW cy ad eb es mb mz tp os bits F G u nb ns T M id ft fo g dq ++ tl) ++ dy)[9]? = some (aL (ad 9) mb eb nb) := rfl
  have hLs : ((cW cy ad eb es mb mz tp os bits F G u nb ns T M id ft fo g dq ++ tl) ++ dy)[10]? = some (aL (ad 10) mz es ns) := rfl
  have hST : STP ((cW cy ad eb es mb mz tp os bits F G u nb ns T M id ft fo g dq ++ tl) ++ dy) (ad 5) bits F G := STP_of (ks := 5) rfl hsi
  have hPL : PLP cy ((cW cy ad eb es mb mz tp os bits F G u nb ns T M id ft fo g dq ++ tl) ++ dy) (ad 6) g u := PLP_of (kp := 6) (kq := 7) rfl rfl hu4
  refine lv_aload_n hx hb dX11_closePacket_0 rfl (lv_at hl 0 rfl) ?_
  refine va_get (ci := 8) (C := RX11) (T := TX11) (N := 8) hx hb ht iFX11 hown hK hP 0 rfl rfl 0 (by decide) (ht _ kw1_123) (fun _ h9 => h9) rfl dX11_closePacket_1 ?_
  refine nv_iconst (k := 0) hx hb dX11_closePacket_4 rfl ?_
  refine wr_V S (c_X1_resize (ws := (cW cy ad eb es mb mz tp os bits F G u nb ns T M id ft fo g dq ++ tl) ++ dy) (kb := 1) (ka := 2) rfl rfl (by omega) (by omega) (x := 0) (by omega)) kw1_224 yv_X1_resize ⟨Nat.le_of_ble_eq_true rfl, Nat.le_of_ble_eq_true rfl⟩ hK hP hD hS hA (va_recv hK hP (ci := 2) (q0 := 1) rfl rfl) rfl hl.1 rfl (Nat.le_of_ble_eq_true rfl) dX11_closePacket_5 ⟨(Nat.zero_le _), (Nat.zero_le _)⟩ (fun g5 H locs hg5 hP hD hS => ?_)
  have hP : va_P D vwCl ((cW cy ad eb es mb mz 0 os bits F G u nb ns T M id ft fo g dq ++ tl) ++ dy) H := hP
  have hD : va_D A ((cW cy ad eb es mb mz 0 os bits F G u nb ns T M id ft fo g dq ++ tl) ++ dy) := hD
  refine W.eq (g2 := F0 m 8 ls []) rfl ?_
  refine lv_iload_n hx hb dX11_closePacket_8 rfl (lv_at hl 1 rfl) ?_
  refine nv_bipush (k := 10) hx hb dX11_closePacket_9 (by decide) ?_
  refine nv_icmp_lt (tgt := 36) hx hb dX11_closePacket_11 (by decide) (by omega) (by omega) (fun h11 => ?_) (fun h11 => ?_)
  · skip
    refine lv_aload_n hx hb dX11_closePacket_36 rfl (lv_at hl 0 rfl) ?_
    refine lv_dup hx hb dX11_closePacket_37 rfl ?_
    refine va_get (ci := 8) (C := RX11) (T := TX11) (N := 8) hx hb ht iFX11 hown hK hP 0 rfl rfl 6 (by decide) (ht _ kw1_129) (fun _ h9 => h9) rfl dX11_closePacket_38 ?_
    refine nv_iconst (k := 1) hx hb dX11_closePacket_41 rfl ?_
    refine nv_iadd hx hb dX11_closePacket_42 ?_
    refine va_put (ci := 8) (C := RX11) (T := TX11) (N := 8) (ty := tyX11 6) hx hb ht iFX11 tyX11 tyX11_ok nmX11 hown hK hP hD hS 0 rfl rfl 6 (by decide) (ht _ kw1_129) (fun _ h9 => h9) rfl (by decide +kernel) (by first | rfl | decide) (by first | rfl | decide) (Nat.le_of_ble_eq_true rfl) dX11_closePacket_43 (fun H locs hP hD hS => ?_)
    have hP : va_P D vwCl ((cW cy ad eb es mb mz 0 os bits F G u nb ns T (M + 1) id ft fo g dq ++ tl) ++ dy) H := hP
    have hD : va_D A ((cW cy ad eb es mb mz 0 os bits F G u nb ns T (M + 1) id ft fo g dq ++ tl) ++ dy) := hD
    refine lv_aload_n hx hb dX11_closePacket_46 rfl (lv_at hl 0 rfl) ?_
    refine va_get (ci := 8) (C := RX11) (T := TX11) (N := 8) hx hb ht iFX11 hown hK hP 0 rfl rfl 1 (by decide) (ht _ kw1_124) (fun _ h9 => h9) rfl dX11_closePacket_47 ?_
    refine ro_V S (c_X1_length (PK_of (ws := (cW cy ad eb es mb mz 0 os bits F G u nb ns T (M + 1) id ft fo g dq ++ tl) ++ dy) (kb := 3) (ka := 4) (N := 1620) rfl rfl (by omega) (by omega))) kw1_220 yv_X1_length ⟨Nat.le_of_ble_eq_true rfl, Nat.le_of_ble_eq_true rfl⟩ hK hP (va_recv hK hP (ci := 2) (q0 := 3) rfl rfl) rfl hl.1 rfl (Nat.le_of_ble_eq_true rfl) dX11_closePacket_50 ⟨(Nat.zero_le _), (Nat.zero_le _)⟩ ?_
    exact hend () rfl trivial hP hD hS dX11_closePacket_53
  exact absurd h11 (by omega)
theorem dX11_inside_0 : decode cX11_inside 0 = .ok (.iload_n 1, 1) := by decide +kernel
theorem dX11_inside_1 : decode cX11_inside 1 = .ok (.ifCond .lt 14, 3) := by decide +kernel
theorem dX11_inside_4 : decode cX11_inside 4 = .ok (.iload_n 1, 1) := by decide +kernel
theorem dX11_inside_5 : decode cX11_inside 5 = .ok (.aload_n 0, 1) := by decide +kernel
theorem dX11_inside_6 : decode cX11_inside 6 = .ok (.getfield 14, 3) := by decide +kernel
theorem dX11_inside_9 : decode cX11_inside 9 = .ok (.invokevirtual 75, 3) := by decide +kernel
theorem dX11_inside_12 : decode cX11_inside 12 = .ok (.if_icmp .le 5, 3) := by decide +kernel
theorem dX11_inside_15 : decode cX11_inside 15 = .ok (.iconst (-1), 1) := by decide +kernel
theorem dX11_inside_16 : decode cX11_inside 16 = .ok (.ireturn, 1) := by decide +kernel
theorem dX11_inside_17 : decode cX11_inside 17 = .ok (.aload_n 0, 1) := by decide +kernel
theorem dX11_inside_18 : decode cX11_inside 18 = .ok (.getfield 14, 3) := by decide +kernel
theorem dX11_inside_21 : decode cX11_inside 21 = .ok (.iload_n 1, 1) := by decide +kernel
theorem dX11_inside_22 : decode cX11_inside 22 = .ok (.invokevirtual 79, 3) := by decide +kernel
theorem dX11_inside_25 : decode cX11_inside 25 = .ok (.aload_n 0, 1) := by decide +kernel
theorem dX11_inside_26 : decode cX11_inside 26 = .ok (.aload_n 0, 1) := by decide +kernel
theorem dX11_inside_27 : decode cX11_inside 27 = .ok (.invokevirtual 86, 3) := by decide +kernel
theorem dX11_inside_30 : decode cX11_inside 30 = .ok (.invokevirtual 89, 3) := by decide +kernel
theorem dX11_inside_33 : decode cX11_inside 33 = .ok (.ireturn, 1) := by decide +kernel
theorem yv_X11_inside : YV RX11 yX11_inside cX11_inside 2 (some .int) 1 := ⟨kw2_0, kw2_1, kw1_1, kw2_2, by decide +kernel⟩
set_option maxHeartbeats 4000000 in
set_option maxRecDepth 100000 in
theorem c_X11_insideN {l : Launch} {D : va_G} {cy : Nat → ClassId} {ad : Nat → Nat} {tl dy : va_W} {eb es tp os bits F G u nb ns T M id : Nat} {mb mz : Int32} {ft fo : Nat → UInt8} {g : Nat → Int32} {dq : Nat → Nat} (htp : tp ≤ 1600) (hos : os ≤ 1620) (hsi : SI bits F G) (hu4 : u ≤ 4) {i : Int32} (hi : i < 0) : RO l yX11_inside cX11_inside 2 (some .int) 0 0 [.ref (ad 0), .int i] D cy ((cW cy ad eb es mb mz tp os bits F G u nb ns T M id ft fo g dq ++ tl) ++ dy) (.int (-1)) := by
  refine ROi (by decide) (lv0 := [(0, .ref (ad 0)), (1, .int i)]) rfl (Nat.le_of_ble_eq_true rfl) ?_
  intro p e s m args below meth c ls Q S hP hK hend hl
  have hx := S.1
  have hb := S.2.1
  have hown : s.vm.findClass RX11 = some m.cls := S.2.2.2.1
  have ht : ∀ w ∈ lw_g, w.before args s = true := fun w h => S.2.2.2.2 w (List.mem_cons_of_mem _ h)
  have hP : va_P D vwCl ((cW cy ad eb es mb mz tp os bits F G u nb ns T M id ft fo g dq ++ tl) ++ dy) s.heap := hP
  have hT : ((cW cy ad eb es mb mz tp os bits F G u nb ns T M id ft fo g dq ++ tl) ++ dy)[8]? = some (tE (ad 8) (ad 9) (ad 10) T) := rfl
  have hLb : ((cW cy ad eb es mb mz tp os bits F G u nb ns T M id ft fo g dq ++ tl) ++ dy)[9]? = some (aL (ad 9) mb eb nb) := rfl
  have hLs : ((cW cy ad eb es mb mz tp os bits F G u nb ns T M id ft fo g dq ++ tl) ++ dy)[10]? = some (aL (ad 10) mz es ns) := rfl
  have hST : STP ((cW cy ad eb es mb mz tp os bits F G u nb ns T M id ft fo g dq ++ tl) ++ dy) (ad 5) bits F G := STP_of (ks := 5) rfl hsi
  have hPL : PLP cy ((cW cy ad eb es mb mz tp os bits F G u nb ns T M id ft fo g dq ++ tl) ++ dy) (ad 6) g u := PLP_of (kp := 6) (kq := 7) rfl rfl hu4
  refine lv_iload_n hx hb dX11_inside_0 rfl (lv_at hl 1 rfl) ?_
  refine lv_if_lt (tgt := 15) hx hb dX11_inside_1 (by decide) (fun h1 => ?_) (fun h1 => ?_)
  · skip
    refine lv_iconst (v := -1) hx hb dX11_inside_15 (by decide) ?_
    exact hend (rfl) dX11_inside_16
  exact absurd hi h1
set_option maxHeartbeats 4000000 in
set_option maxRecDepth 100000 in
theorem c_X11_insideG {l : Launch} {D : va_G} {cy : Nat → ClassId} {ad : Nat → Nat} {tl dy : va_W} {eb es tp os bits F G u nb ns T M id : Nat} {mb mz : Int32} {ft fo : Nat → UInt8} {g : Nat → Int32} {dq : Nat → Nat} (htp : tp ≤ 1600) (hos : os ≤ 1620) (hsi : SI bits F G) (hu4 : u ≤ 4) {n9 : Nat} (hn9 : n9 < 2 ^ 31) (hn8 : tp < n9) : RO l yX11_inside cX11_inside 2 (some .int) 1 20 [.ref (ad 0), .int (nI n9)] D cy ((cW cy ad eb es mb mz tp os bits F G u nb ns T M id ft fo g dq ++ tl) ++ dy) (.int (-1)) := by
  refine ROi (by decide) (lv0 := [(0, .ref (ad 0)), (1, .int (nI n9))]) rfl (Nat.le_of_ble_eq_true rfl) ?_
  intro p e s m args below meth c ls Q S hP hK hend hl
  have hx := S.1
  have hb := S.2.1
  have hown : s.vm.findClass RX11 = some m.cls := S.2.2.2.1
  have ht : ∀ w ∈ lw_g, w.before args s = true := fun w h => S.2.2.2.2 w (List.mem_cons_of_mem _ h)
  have hP : va_P D vwCl ((cW cy ad eb es mb mz tp os bits F G u nb ns T M id ft fo g dq ++ tl) ++ dy) s.heap := hP
  have hT : ((cW cy ad eb es mb mz tp os bits F G u nb ns T M id ft fo g dq ++ tl) ++ dy)[8]? = some (tE (ad 8) (ad 9) (ad 10) T) := rfl
  have hLb : ((cW cy ad eb es mb mz tp os bits F G u nb ns T M id ft fo g dq ++ tl) ++ dy)[9]? = some (aL (ad 9) mb eb nb) := rfl
  have hLs : ((cW cy ad eb es mb mz tp os bits F G u nb ns T M id ft fo g dq ++ tl) ++ dy)[10]? = some (aL (ad 10) mz es ns) := rfl
  have hST : STP ((cW cy ad eb es mb mz tp os bits F G u nb ns T M id ft fo g dq ++ tl) ++ dy) (ad 5) bits F G := STP_of (ks := 5) rfl hsi
  have hPL : PLP cy ((cW cy ad eb es mb mz tp os bits F G u nb ns T M id ft fo g dq ++ tl) ++ dy) (ad 6) g u := PLP_of (kp := 6) (kq := 7) rfl rfl hu4
  refine lv_iload_n hx hb dX11_inside_0 rfl (lv_at hl 1 rfl) ?_
  refine nv_if_lt (tgt := 15) hx hb dX11_inside_1 (by decide) (by omega) ?_
  refine lv_iload_n hx hb dX11_inside_4 rfl (lv_at hl 1 rfl) ?_
  refine lv_aload_n hx hb dX11_inside_5 rfl (lv_at hl 0 rfl) ?_
  refine va_get (ci := 8) (C := RX11) (T := TX11) (N := 8) hx hb ht iFX11 hown hK hP 0 rfl rfl 0 (by decide) (ht _ kw1_123) (fun _ h9 => h9) rfl dX11_inside_6 ?_
  refine ro_V S (c_X1_length (PK_of (ws := (cW cy ad eb es mb mz tp os bits F G u nb ns T M id ft fo g dq ++ tl) ++ dy) (kb := 1) (ka := 2) (N := 1600) rfl rfl (by omega) (by omega))) kw1_220 yv_X1_length ⟨Nat.le_of_ble_eq_true rfl, Nat.le_of_ble_eq_true rfl⟩ hK hP (va_recv hK hP (ci := 2) (q0 := 1) rfl rfl) rfl hl.1 rfl (Nat.le_of_ble_eq_true rfl) dX11_inside_9 ⟨(Nat.zero_le _), (Nat.zero_le _)⟩ ?_
  refine nv_icmp_le (tgt := 17) hx hb dX11_inside_12 (by decide) (by omega) (by omega) (fun h12 => ?_) (fun h12 => ?_)
  · skip
    exact absurd h12 (by omega)
  refine lv_iconst (v := -1) hx hb dX11_inside_15 (by decide) ?_
  exact hend (rfl) dX11_inside_16
theorem dX11_outside_0 : decode cX11_outside 0 = .ok (.iload_n 1, 1) := by decide +kernel
theorem dX11_outside_1 : decode cX11_outside 1 = .ok (.ifCond .lt 14, 3) := by decide +kernel
theorem dX11_outside_4 : decode cX11_outside 4 = .ok (.iload_n 1, 1) := by decide +kernel
theorem dX11_outside_5 : decode cX11_outside 5 = .ok (.aload_n 0, 1) := by decide +kernel
theorem dX11_outside_6 : decode cX11_outside 6 = .ok (.getfield 14, 3) := by decide +kernel
theorem dX11_outside_9 : decode cX11_outside 9 = .ok (.invokevirtual 75, 3) := by decide +kernel
theorem dX11_outside_12 : decode cX11_outside 12 = .ok (.if_icmp .le 5, 3) := by decide +kernel
theorem dX11_outside_15 : decode cX11_outside 15 = .ok (.iconst (-1), 1) := by decide +kernel
theorem dX11_outside_16 : decode cX11_outside 16 = .ok (.ireturn, 1) := by decide +kernel
theorem dX11_outside_17 : decode cX11_outside 17 = .ok (.aload_n 0, 1) := by decide +kernel
theorem dX11_outside_18 : decode cX11_outside 18 = .ok (.getfield 14, 3) := by decide +kernel
theorem dX11_outside_21 : decode cX11_outside 21 = .ok (.iload_n 1, 1) := by decide +kernel
theorem dX11_outside_22 : decode cX11_outside 22 = .ok (.invokevirtual 79, 3) := by decide +kernel
theorem dX11_outside_25 : decode cX11_outside 25 = .ok (.aload_n 0, 1) := by decide +kernel
theorem dX11_outside_26 : decode cX11_outside 26 = .ok (.aload_n 0, 1) := by decide +kernel
theorem dX11_outside_27 : decode cX11_outside 27 = .ok (.invokevirtual 92, 3) := by decide +kernel
theorem dX11_outside_30 : decode cX11_outside 30 = .ok (.invokevirtual 89, 3) := by decide +kernel
theorem dX11_outside_33 : decode cX11_outside 33 = .ok (.ireturn, 1) := by decide +kernel
theorem yv_X11_outside : YV RX11 yX11_outside cX11_outside 2 (some .int) 1 := ⟨kw3_151, kw3_152, kw1_1, kw3_153, by decide +kernel⟩
set_option maxHeartbeats 4000000 in
set_option maxRecDepth 100000 in
theorem c_X11_outsideN {l : Launch} {D : va_G} {cy : Nat → ClassId} {ad : Nat → Nat} {tl dy : va_W} {eb es tp os bits F G u nb ns T M id : Nat} {mb mz : Int32} {ft fo : Nat → UInt8} {g : Nat → Int32} {dq : Nat → Nat} (htp : tp ≤ 1600) (hos : os ≤ 1620) (hsi : SI bits F G) (hu4 : u ≤ 4) {i : Int32} (hi : i < 0) : RO l yX11_outside cX11_outside 2 (some .int) 0 0 [.ref (ad 0), .int i] D cy ((cW cy ad eb es mb mz tp os bits F G u nb ns T M id ft fo g dq ++ tl) ++ dy) (.int (-1)) := by
  refine ROi (by decide) (lv0 := [(0, .ref (ad 0)), (1, .int i)]) rfl (Nat.le_of_ble_eq_true rfl) ?_
  intro p e s m args below meth c ls Q S hP hK hend hl
  have hx := S.1
  have hb := S.2.1
  have hown : s.vm.findClass RX11 = some m.cls := S.2.2.2.1
  have ht : ∀ w ∈ lw_g, w.before args s = true := fun w h => S.2.2.2.2 w (List.mem_cons_of_mem _ h)
  have hP : va_P D vwCl ((cW cy ad eb es mb mz tp os bits F G u nb ns T M id ft fo g dq ++ tl) ++ dy) s.heap := hP
  have hT : ((cW cy ad eb es mb mz tp os bits F G u nb ns T M id ft fo g dq ++ tl) ++ dy)[8]? = some (tE (ad 8) (ad 9) (ad 10) T) := rfl
  have hLb : ((cW cy ad eb es mb mz tp os bits F G u nb ns T M id ft fo g dq ++ tl) ++ dy)[9]? = some (aL (ad 9) mb eb nb) := rfl
  have hLs : ((cW cy ad eb es mb mz tp os bits F G u nb ns T M id ft fo g dq ++ tl) ++ dy)[10]? = some (aL (ad 10) mz es ns) := rfl
  have hST : STP ((cW cy ad eb es mb mz tp os bits F G u nb ns T M id ft fo g dq ++ tl) ++ dy) (ad 5) bits F G := STP_of (ks := 5) rfl hsi
  have hPL : PLP cy ((cW cy ad eb es mb mz tp os bits F G u nb ns T M id ft fo g dq ++ tl) ++ dy) (ad 6) g u := PLP_of (kp := 6) (kq := 7) rfl rfl hu4
  refine lv_iload_n hx hb dX11_outside_0 rfl (lv_at hl 1 rfl) ?_
  refine lv_if_lt (tgt := 15) hx hb dX11_outside_1 (by decide) (fun h1 => ?_) (fun h1 => ?_)
  · skip
    refine lv_iconst (v := -1) hx hb dX11_outside_15 (by decide) ?_
    exact hend (rfl) dX11_outside_16
  exact absurd hi h1
set_option maxHeartbeats 4000000 in
set_option maxRecDepth 100000 in
theorem c_X11_outsideG {l : Launch} {D : va_G} {cy : Nat → ClassId} {ad : Nat → Nat} {tl dy : va_W} {eb es tp os bits F G u nb ns T M id : Nat} {mb mz : Int32} {ft fo : Nat → UInt8} {g : Nat → Int32} {dq : Nat → Nat} (htp : tp ≤ 1600) (hos : os ≤ 1620) (hsi : SI bits F G) (hu4 : u ≤ 4) {n9 : Nat} (hn9 : n9 < 2 ^ 31) (hn8 : tp < n9) : RO l yX11_outside cX11_outside 2 (some .int) 1 20 [.ref (ad 0), .int (nI n9)] D cy ((cW cy ad eb es mb mz tp os bits F G u nb ns T M id ft fo g dq ++ tl) ++ dy) (.int (-1)) := by
  refine ROi (by decide) (lv0 := [(0, .ref (ad 0)), (1, .int (nI n9))]) rfl (Nat.le_of_ble_eq_true rfl) ?_
  intro p e s m args below meth c ls Q S hP hK hend hl
  have hx := S.1
  have hb := S.2.1
  have hown : s.vm.findClass RX11 = some m.cls := S.2.2.2.1
  have ht : ∀ w ∈ lw_g, w.before args s = true := fun w h => S.2.2.2.2 w (List.mem_cons_of_mem _ h)
  have hP : va_P D vwCl ((cW cy ad eb es mb mz tp os bits F G u nb ns T M id ft fo g dq ++ tl) ++ dy) s.heap := hP
  have hT : ((cW cy ad eb es mb mz tp os bits F G u nb ns T M id ft fo g dq ++ tl) ++ dy)[8]? = some (tE (ad 8) (ad 9) (ad 10) T) := rfl
  have hLb : ((cW cy ad eb es mb mz tp os bits F G u nb ns T M id ft fo g dq ++ tl) ++ dy)[9]? = some (aL (ad 9) mb eb nb) := rfl
  have hLs : ((cW cy ad eb es mb mz tp os bits F G u nb ns T M id ft fo g dq ++ tl) ++ dy)[10]? = some (aL (ad 10) mz es ns) := rfl
  have hST : STP ((cW cy ad eb es mb mz tp os bits F G u nb ns T M id ft fo g dq ++ tl) ++ dy) (ad 5) bits F G := STP_of (ks := 5) rfl hsi
  have hPL : PLP cy ((cW cy ad eb es mb mz tp os bits F G u nb ns T M id ft fo g dq ++ tl) ++ dy) (ad 6) g u := PLP_of (kp := 6) (kq := 7) rfl rfl hu4
  refine lv_iload_n hx hb dX11_outside_0 rfl (lv_at hl 1 rfl) ?_
  refine nv_if_lt (tgt := 15) hx hb dX11_outside_1 (by decide) (by omega) ?_
  refine lv_iload_n hx hb dX11_outside_4 rfl (lv_at hl 1 rfl) ?_
  refine lv_aload_n hx hb dX11_outside_5 rfl (lv_at hl 0 rfl) ?_
  refine va_get (ci := 8) (C := RX11) (T := TX11) (N := 8) hx hb ht iFX11 hown hK hP 0 rfl rfl 0 (by decide) (ht _ kw1_123) (fun _ h9 => h9) rfl dX11_outside_6 ?_
  refine ro_V S (c_X1_length (PK_of (ws := (cW cy ad eb es mb mz tp os bits F G u nb ns T M id ft fo g dq ++ tl) ++ dy) (kb := 1) (ka := 2) (N := 1600) rfl rfl (by omega) (by omega))) kw1_220 yv_X1_length ⟨Nat.le_of_ble_eq_true rfl, Nat.le_of_ble_eq_true rfl⟩ hK hP (va_recv hK hP (ci := 2) (q0 := 1) rfl rfl) rfl hl.1 rfl (Nat.le_of_ble_eq_true rfl) dX11_outside_9 ⟨(Nat.zero_le _), (Nat.zero_le _)⟩ ?_
  refine nv_icmp_le (tgt := 17) hx hb dX11_outside_12 (by decide) (by omega) (by omega) (fun h12 => ?_) (fun h12 => ?_)
  · skip
    exact absurd h12 (by omega)
  refine lv_iconst (v := -1) hx hb dX11_outside_15 (by decide) ?_
  exact hend (rfl) dX11_outside_16
set_option maxHeartbeats 4000000 in
set_option maxRecDepth 100000 in
theorem c_X11_inside0 {l : Launch} {D : va_G} {cy : Nat → ClassId} {ad : Nat → Nat} {tl dy : va_W} {eb es tp os bits F G u nb ns T M id : Nat} {mb mz : Int32} {ft fo : Nat → UInt8} {g : Nat → Int32} {dq : Nat → Nat} (htp : tp ≤ 1600) (hos : os ≤ 1620) (hsi : SI bits F G) (hu4 : u ≤ 4) {n9 : Nat} (hn9 : n9 ≤ tp) (hz0 : tg_in (tg_rd ft n9) n9 bits F G u ≠ 0) : WR (S := Unit) l yX11_inside cX11_inside 2 (some .int) 6 0 0 143 [.ref (ad 0), .int (nI n9)] D cy ((cW cy ad eb es mb mz tp os bits F G u nb ns T M id ft fo g dq ++ tl) ++ dy) (fun u_ => some (.int (- nI (tg_in (tg_rd ft n9) n9 bits F G u)))) (fun _ => True) (fun _ => (cW cy ad eb es mb mz 0 os bits F G u nb ns T M id ft fo g (va_up dq ((tg_in (tg_rd ft n9) n9 bits F G u) - 10) (dq ((tg_in (tg_rd ft n9) n9 bits F G u) - 10) + 1)) ++ tl) ++ dy) := by
  refine WRi (by decide) (lv0 := [(0, .ref (ad 0)), (1, .int (nI n9))]) rfl (Nat.le_of_ble_eq_true rfl) ?_
  intro p e s m args below meth c ls A Q S hnm hP hK hD hS hA hend hl
  have hx := S.1
  have hb := S.2.1
  have hown : s.vm.findClass RX11 = some m.cls := S.2.2.2.1
  have ht : ∀ w ∈ lw_g, w.before args s = true := fun w h => S.2.2.2.2 w (List.mem_cons_of_mem _ h)
  have hP : va_P D vwCl ((cW cy ad eb es mb mz tp os bits F G u nb ns T M id ft fo g dq ++ tl) ++ dy) s.heap := hP
  have hT : ((cW cy ad eb es mb mz tp os bits F G u nb ns T M id ft fo g dq ++ tl) ++ dy)[8]? = some (tE (ad 8) (ad 9) (ad 10) T) := rfl
  have hLb : ((cW cy ad eb es mb mz tp os bits F G u nb ns T M id ft fo g dq ++ tl) ++ dy)[9]? = some (aL (ad 9) mb eb nb) := rfl
  have hLs : ((cW cy ad eb es mb mz tp os bits F G u nb ns T M id ft fo g dq ++ tl) ++ dy)[10]? = some (aL (ad 10) mz es ns) := rfl
  have hST : STP ((cW cy ad eb es mb mz tp os bits F G u nb ns T M id ft fo g dq ++ tl) ++ dy) (ad 5) bits F G := STP_of (ks := 5) rfl hsi
  have hPL : PLP cy ((cW cy ad eb es mb mz tp os bits F G u nb ns T M id ft fo g dq ++ tl) ++ dy) (ad 6) g u := PLP_of (kp := 6) (kq := 7) rfl rfl hu4
  refine lv_iload_n hx hb dX11_inside_0 rfl (lv_at hl 1 rfl) ?_
  refine nv_if_lt (tgt := 15) hx hb dX11_inside_1 (by decide) (by omega) ?_
  refine lv_iload_n hx hb dX11_inside_4 rfl (lv_at hl 1 rfl) ?_
  refine lv_aload_n hx hb dX11_inside_5 rfl (lv_at hl 0 rfl) ?_
  refine va_get (ci := 8) (C := RX11) (T := TX11) (N := 8) hx hb ht iFX11 hown hK hP 0 rfl rfl 0 (by decide) (ht _ kw1_123) (fun _ h9 => h9) rfl dX11_inside_6 ?_
  refine ro_V S (c_X1_length (PK_of (ws := (cW cy ad eb es mb mz tp os bits F G u nb ns T M id ft fo g dq ++ tl) ++ dy) (kb := 1) (ka := 2) (N := 1600) rfl rfl (by omega) (by omega))) kw1_220 yv_X1_length ⟨Nat.le_of_ble_eq_true rfl, Nat.le_of_ble_eq_true rfl⟩ hK hP (va_recv hK hP (ci := 2) (q0 := 1) rfl rfl) rfl hl.1 rfl (Nat.le_of_ble_eq_true rfl) dX11_inside_9 ⟨(Nat.zero_le _), (Nat.zero_le _)⟩ ?_
  refine nv_icmp_le (tgt := 17) hx hb dX11_inside_12 (by decide) (by omega) (by omega) (fun h12 => ?_) (fun h12 => ?_)
  · skip
    refine lv_aload_n hx hb dX11_inside_17 rfl (lv_at hl 0 rfl) ?_
    refine va_get (ci := 8) (C := RX11) (T := TX11) (N := 8) hx hb ht iFX11 hown hK hP 0 rfl rfl 0 (by decide) (ht _ kw1_123) (fun _ h9 => h9) rfl dX11_inside_18 ?_
    refine lv_iload_n hx hb dX11_inside_21 rfl (lv_at hl 1 rfl) ?_
    refine wr_V S (c_X1_resize (ws := (cW cy ad eb es mb mz tp os bits F G u nb ns T M id ft fo g dq ++ tl) ++ dy) (kb := 1) (ka := 2) rfl rfl (by omega) (by omega) (x := n9) (by omega)) kw1_224 yv_X1_resize ⟨Nat.le_of_ble_eq_true rfl, Nat.le_of_ble_eq_true rfl⟩ hK hP hD hS hA (va_recv hK hP (ci := 2) (q0 := 1) rfl rfl) rfl hl.1 rfl (Nat.le_of_ble_eq_true rfl) dX11_inside_22 ⟨(Nat.zero_le _), (Nat.zero_le _)⟩ (fun g22 H locs hg22 hP hD hS => ?_)
    have hP : va_P D vwCl ((cW cy ad eb es mb mz n9 os bits F G u nb ns T M id ft fo g dq ++ tl) ++ dy) H := hP
    have hD : va_D A ((cW cy ad eb es mb mz n9 os bits F G u nb ns T M id ft fo g dq ++ tl) ++ dy) := hD
    refine W.eq (g2 := F0 m 25 ls []) rfl ?_
    refine lv_aload_n hx hb dX11_inside_25 rfl (lv_at hl 0 rfl) ?_
    refine lv_aload_n hx hb dX11_inside_26 rfl (lv_at hl 0 rfl) ?_
    refine ro_V S (c_X11_passFromInside0 (by omega) (by omega) hsi hu4 hz0) kw2_3 yv_X11_passFromInside ⟨Nat.le_of_ble_eq_true rfl, Nat.le_of_ble_eq_true rfl⟩ hK hP (va_recv hK hP (ci := 8) (q0 := 0) rfl rfl) rfl hl.1 rfl (Nat.le_of_ble_eq_true rfl) dX11_inside_27 ⟨(Nat.zero_le _), (Nat.zero_le _)⟩ ?_
    have hle9 : tg_in (tg_rd ft n9) n9 bits F G u ≤ 14 ∧ (tg_in (tg_rd ft n9) n9 bits F G u = 0 ∨ 10 ≤ tg_in (tg_rd ft n9) n9 bits F G u) := by unfold tg_in; (repeat' split) <;> omega
    refine wr_V S (c_X11_closePacketD (by omega) (by omega) hsi hu4 (x := tg_in (tg_rd ft n9) n9 bits F G u) (by omega) (by omega)) kw3_146 yv_X11_closePacket ⟨Nat.le_of_ble_eq_true rfl, Nat.le_of_ble_eq_true rfl⟩ hK hP hD hS hA (va_recv hK hP (ci := 8) (q0 := 0) rfl rfl) rfl hl.1 rfl (Nat.le_of_ble_eq_true rfl) dX11_inside_30 ⟨(Nat.zero_le _), (Nat.zero_le _)⟩ (fun u30 H locs hu30 hP hD hS => ?_)
    have hP : va_P D vwCl ((cW cy ad eb es mb mz 0 os bits F G u nb ns T M id ft fo g (va_up dq ((tg_in (tg_rd ft n9) n9 bits F G u) - 10) (dq ((tg_in (tg_rd ft n9) n9 bits F G u) - 10) + 1)) ++ tl) ++ dy) H := hP
    have hD : va_D A ((cW cy ad eb es mb mz 0 os bits F G u nb ns T M id ft fo g (va_up dq ((tg_in (tg_rd ft n9) n9 bits F G u) - 10) (dq ((tg_in (tg_rd ft n9) n9 bits F G u) - 10) + 1)) ++ tl) ++ dy) := hD
    refine W.eq (g2 := F0 m 33 ls [.int (- nI (tg_in (tg_rd ft n9) n9 bits F G u))]) rfl ?_
    exact hend () rfl trivial hP hD hS dX11_inside_33
  exact absurd h12 (by omega)
set_option maxHeartbeats 4000000 in
set_option maxRecDepth 100000 in
theorem c_X11_inside1 {l : Launch} {D : va_G} {cy : Nat → ClassId} {ad : Nat → Nat} {tl dy : va_W} {eb es tp os bits F G u nb ns T M id : Nat} {mb mz : Int32} {ft fo : Nat → UInt8} {g : Nat → Int32} {dq ba sa pt ih il ip pn op so fa fp st en : Nat → Nat} {e0 : Nat × Nat} (htp : tp ≤ 1600) (hos : os ≤ 1620) (hsi : SI bits F G) (hu4 : u ≤ 4) (hDY : DY cy e0.1 dy eb es nb ns ba sa pt ih il ip pn op so fa fp st en) (hb_pt : ∀ i, pt i < 2 ^ 31) (hb_ih : ∀ i, ih i < 2 ^ 64) (hb_il : ∀ i, il i < 2 ^ 64) (hb_ip : ∀ i, ip i < 2 ^ 31) (hb_pn : ∀ i, pn i < 2 ^ 31) (hb_op : ∀ i, op i < 2 ^ 31) (hb_fa : ∀ i, fa i < 2 ^ 32) (hb_fp : ∀ i, fp i < 2 ^ 31) (hb_st : ∀ i, st i ≤ 7) (hb_en : ∀ i, en i < 2 ^ 62) {n9 : Nat} (hn9 : n9 ≤ tp) {q port far fpt ev hi lo : Nat} (eq0 : q = if tg_rd ft n9 6 = 58 then 1 else tg_rd ft n9 6) (eport : port = tg_pr (tg_rd ft n9) (40 + tg_spa q)) (efar : far = tg_dr bits (tg_ei (tg_rd ft n9) 24) (tg_ei (tg_rd ft n9) 32)) (efpt : fpt = if q = 1 then 0 else tg_pr (tg_rd ft n9) (40 + tg_dpa q)) (eev : ev = tg_event (tg_rd ft n9) 40 q) (ehi : hi = tg_ei (tg_rd ft n9) 8) (elo : lo = tg_ei (tg_rd ft n9) 16) (hz0 : tg_in (tg_rd ft n9) n9 bits F G u = 0) (hb_pn4 : ∀ i, pn i < 4) {b : Nat} (hb9 : b < nb) (hfb : tg_first (fun k => decide (pt k = q ∧ ih k = hi ∧ il k = lo ∧ ip k = port)) nb = b) {j : Nat} (hj9 : j < ns) (hfj : tg_first (fun k => decide (so k = b ∧ fa k = far ∧ fp k = fpt)) ns = j) {sa9 : Nat} (hsa9 : sa9 < 2 ^ 32) (hid : id < 65536) (hpu : pn b < u) (hga : g (pn b) = nI sa9) (hip9 : ip b < 65536) : WR (S := va_W) l yX11_inside cX11_inside 2 (some .int) 6 1 6 146 [.ref (ad 0), .int (nI n9)] D cy ((cW cy ad eb es mb mz tp os bits F G u nb ns T M id ft fo g dq ++ tl) ++ dy) (fun u_ => some (.int (nI (20 + (n9 - 40))))) (fun z9 => DY cy e0.1 z9 eb es nb ns ba sa pt ih il ip pn op so fa fp (if tg_nxt (st j) ev true = 8 then st else va_up st j (tg_nxt (st j) ev true)) (if tg_nxt (st j) ev true = 8 then en else va_up en j (T + tg_life (tg_nxt (st j) ev true) q))) (fun z9 => (cW cy ad eb es mb mz 0 (20 + (n9 - 40)) bits F G u nb ns T (M + 1) (tg_id n9 id) ft (tg_four fo ft n9 q (if n9 - 20 ≤ 1260 then id else 0) sa9 far (op b)) g dq ++ tl) ++ z9) := by
  refine WRi (by decide) (lv0 := [(0, .ref (ad 0)), (1, .int (nI n9))]) rfl (Nat.le_of_ble_eq_true rfl) ?_
  intro p e s m args below meth c ls A Q S hnm hP hK hD hS hA hend hl
  have hx := S.1
  have hb := S.2.1
  have hown : s.vm.findClass RX11 = some m.cls := S.2.2.2.1
  have ht : ∀ w ∈ lw_g, w.before args s = true := fun w h => S.2.2.2.2 w (List.mem_cons_of_mem _ h)
  have hP : va_P D vwCl ((cW cy ad eb es mb mz tp os bits F G u nb ns T M id ft fo g dq ++ tl) ++ dy) s.heap := hP
  have hT : ((cW cy ad eb es mb mz tp os bits F G u nb ns T M id ft fo g dq ++ tl) ++ dy)[8]? = some (tE (ad 8) (ad 9) (ad 10) T) := rfl
  have hLb : ((cW cy ad eb es mb mz tp os bits F G u nb ns T M id ft fo g dq ++ tl) ++ dy)[9]? = some (aL (ad 9) mb eb nb) := rfl
  have hLs : ((cW cy ad eb es mb mz tp os bits F G u nb ns T M id ft fo g dq ++ tl) ++ dy)[10]? = some (aL (ad 10) mz es ns) := rfl
  have hB : TB1 cy ((cW cy ad eb es mb mz tp os bits F G u nb ns T M id ft fo g dq ++ tl) ++ dy) e0.1 eb nb ba pt ih il ip pn op := hDY.1.app
  have hS1 : TS1 cy ((cW cy ad eb es mb mz tp os bits F G u nb ns T M id ft fo g dq ++ tl) ++ dy) e0.1 es ns nb ba sa so fa fp st en := hDY.2.1.app
  have hST : STP ((cW cy ad eb es mb mz tp os bits F G u nb ns T M id ft fo g dq ++ tl) ++ dy) (ad 5) bits F G := STP_of (ks := 5) rfl hsi
  have hPL : PLP cy ((cW cy ad eb es mb mz tp os bits F G u nb ns T M id ft fo g dq ++ tl) ++ dy) (ad 6) g u := PLP_of (kp := 6) (kq := 7) rfl rfl hu4
  have hnb := hB.le
  have hns := hS1.le
  have hn40 : 40 ≤ n9 := (in0 hz0).1.1
  refine lv_iload_n hx hb dX11_inside_0 rfl (lv_at hl 1 rfl) ?_
  refine nv_if_lt (tgt := 15) hx hb dX11_inside_1 (by decide) (by omega) ?_
  refine lv_iload_n hx hb dX11_inside_4 rfl (lv_at hl 1 rfl) ?_
  refine lv_aload_n hx hb dX11_inside_5 rfl (lv_at hl 0 rfl) ?_
  refine va_get (ci := 8) (C := RX11) (T := TX11) (N := 8) hx hb ht iFX11 hown hK hP 0 rfl rfl 0 (by decide) (ht _ kw1_123) (fun _ h9 => h9) rfl dX11_inside_6 ?_
  refine ro_V S (c_X1_length (PK_of (ws := (cW cy ad eb es mb mz tp os bits F G u nb ns T M id ft fo g dq ++ tl) ++ dy) (kb := 1) (ka := 2) (N := 1600) rfl rfl (by omega) (by omega))) kw1_220 yv_X1_length ⟨Nat.le_of_ble_eq_true rfl, Nat.le_of_ble_eq_true rfl⟩ hK hP (va_recv hK hP (ci := 2) (q0 := 1) rfl rfl) rfl hl.1 rfl (Nat.le_of_ble_eq_true rfl) dX11_inside_9 ⟨(by show _ ≤ 1; omega), (by show _ ≤ 6; omega)⟩ ?_
  refine nv_icmp_le (tgt := 17) hx hb dX11_inside_12 (by decide) (by omega) (by omega) (fun h12 => ?_) (fun h12 => ?_)
  · skip
    refine lv_aload_n hx hb dX11_inside_17 rfl (lv_at hl 0 rfl) ?_
    refine va_get (ci := 8) (C := RX11) (T := TX11) (N := 8) hx hb ht iFX11 hown hK hP 0 rfl rfl 0 (by decide) (ht _ kw1_123) (fun _ h9 => h9) rfl dX11_inside_18 ?_
    refine lv_iload_n hx hb dX11_inside_21 rfl (lv_at hl 1 rfl) ?_
    refine wr_V S (c_X1_resize (ws := (cW cy ad eb es mb mz tp os bits F G u nb ns T M id ft fo g dq ++ tl) ++ dy) (kb := 1) (ka := 2) rfl rfl (by omega) (by omega) (x := n9) (by omega)) kw1_224 yv_X1_resize ⟨Nat.le_of_ble_eq_true rfl, Nat.le_of_ble_eq_true rfl⟩ hK hP hD hS hA (va_recv hK hP (ci := 2) (q0 := 1) rfl rfl) rfl hl.1 rfl (Nat.le_of_ble_eq_true rfl) dX11_inside_22 ⟨(by show _ ≤ 1; omega), (by show _ ≤ 6; omega)⟩ (fun g22 H locs hg22 hP hD hS => ?_)
    have hP : va_P D vwCl ((cW cy ad eb es mb mz n9 os bits F G u nb ns T M id ft fo g dq ++ tl) ++ dy) H := hP
    have hD : va_D A ((cW cy ad eb es mb mz n9 os bits F G u nb ns T M id ft fo g dq ++ tl) ++ dy) := hD
    refine W.eq (g2 := F0 m 25 ls []) rfl ?_
    refine lv_aload_n hx hb dX11_inside_25 rfl (lv_at hl 0 rfl) ?_
    refine lv_aload_n hx hb dX11_inside_26 rfl (lv_at hl 0 rfl) ?_
    refine wr_V S (c_X11_passFromInside1 (by omega) (by omega) hsi hu4 hDY hb_pt hb_ih hb_il hb_ip hb_pn hb_op hb_fa hb_fp hb_st hb_en eq0 eport efar efpt eev ehi elo hz0 hb_pn4 hb9 hfb hj9 hfj hsa9 hid hpu hga hip9) kw2_3 yv_X11_passFromInside ⟨Nat.le_of_ble_eq_true rfl, Nat.le_of_ble_eq_true rfl⟩ hK hP hD hS hA (va_recv hK hP (ci := 8) (q0 := 0) rfl rfl) rfl hl.1 rfl (Nat.le_of_ble_eq_true rfl) dX11_inside_27 ⟨(by show _ ≤ 1; omega), (by show _ ≤ 6; omega)⟩ (fun z1 H locs hz1 hP hD hS => ?_)
    have hP : va_P D vwCl ((cW cy ad eb es mb mz n9 (20 + (n9 - 40)) bits F G u nb ns T M (tg_id n9 id) ft (tg_four fo ft n9 q (if n9 - 20 ≤ 1260 then id else 0) sa9 far (op b)) g dq ++ tl) ++ z1) H := hP
    have hD : va_D A ((cW cy ad eb es mb mz n9 (20 + (n9 - 40)) bits F G u nb ns T M (tg_id n9 id) ft (tg_four fo ft n9 q (if n9 - 20 ≤ 1260 then id else 0) sa9 far (op b)) g dq ++ tl) ++ z1) := hD
    refine W.eq (g2 := F0 m 30 ls [.int (nI 0), .ref (ad 0)]) rfl ?_
    refine wr_V S (c_X11_closePacketM (by omega) (by omega) hsi hu4) kw3_146 yv_X11_closePacket ⟨Nat.le_of_ble_eq_true rfl, Nat.le_of_ble_eq_true rfl⟩ hK hP hD hS hA (va_recv hK hP (ci := 8) (q0 := 0) rfl rfl) rfl hl.1 rfl (Nat.le_of_ble_eq_true rfl) dX11_inside_30 ⟨(by show _ ≤ 1; omega), (by show _ ≤ 6; omega)⟩ (fun u30 H locs hu30 hP hD hS => ?_)
    have hP : va_P D vwCl ((cW cy ad eb es mb mz 0 (20 + (n9 - 40)) bits F G u nb ns T (M + 1) (tg_id n9 id) ft (tg_four fo ft n9 q (if n9 - 20 ≤ 1260 then id else 0) sa9 far (op b)) g dq ++ tl) ++ z1) H := hP
    have hD : va_D A ((cW cy ad eb es mb mz 0 (20 + (n9 - 40)) bits F G u nb ns T (M + 1) (tg_id n9 id) ft (tg_four fo ft n9 q (if n9 - 20 ≤ 1260 then id else 0) sa9 far (op b)) g dq ++ tl) ++ z1) := hD
    refine W.eq (g2 := F0 m 33 ls [.int (nI (20 + (n9 - 40)))]) rfl ?_
    refine W.widen (k := 1) (n := 6) (by omega) (by omega) ?_
    exact hend z1 rfl hz1 hP hD hS dX11_inside_33
  exact absurd h12 (by omega)
set_option maxHeartbeats 4000000 in
set_option maxRecDepth 100000 in
theorem c_X11_inside2 {l : Launch} {D : va_G} {cy : Nat → ClassId} {e0 : Nat × Nat} {ad : Nat → Nat} {tl dy : va_W} {eb es tp os bits F G u nb ns T M id : Nat} {mb mz : Int32} {ft fo : Nat → UInt8} {g : Nat → Int32} {dq ba sa pt ih il ip pn op so fa fp st en : Nat → Nat} (htp : tp ≤ 1600) (hos : os ≤ 1620) (hsi : SI bits F G) (hu4 : u ≤ 4) (hDY : DY cy e0.1 dy eb es nb ns ba sa pt ih il ip pn op so fa fp st en) (hb_pt : ∀ i, pt i < 2 ^ 31) (hb_ih : ∀ i, ih i < 2 ^ 64) (hb_il : ∀ i, il i < 2 ^ 64) (hb_ip : ∀ i, ip i < 2 ^ 31) (hb_pn : ∀ i, pn i < 2 ^ 31) (hb_op : ∀ i, op i < 2 ^ 31) (hb_fa : ∀ i, fa i < 2 ^ 32) (hb_fp : ∀ i, fp i < 2 ^ 31) (hb_st : ∀ i, st i ≤ 7) (hb_en : ∀ i, en i < 2 ^ 62) {n9 : Nat} (hn9 : n9 ≤ tp) {q port far fpt ev hi lo : Nat} (eq0 : q = if tg_rd ft n9 6 = 58 then 1 else tg_rd ft n9 6) (eport : port = tg_pr (tg_rd ft n9) (40 + tg_spa q)) (efar : far = tg_dr bits (tg_ei (tg_rd ft n9) 24) (tg_ei (tg_rd ft n9) 32)) (efpt : fpt = if q = 1 then 0 else tg_pr (tg_rd ft n9) (40 + tg_dpa q)) (eev : ev = tg_event (tg_rd ft n9) 40 q) (ehi : hi = tg_ei (tg_rd ft n9) 8) (elo : lo = tg_ei (tg_rd ft n9) 16) (hz0 : tg_in (tg_rd ft n9) n9 bits F G u = 0) (hb_pn4 : ∀ i, pn i < 4) {b : Nat} (hb9 : b < nb) (hfb : tg_first (fun k => decide (pt k = q ∧ ih k = hi ∧ il k = lo ∧ ip k = port)) nb = b) (hfj : ¬ tg_first (fun k => decide (so k = b ∧ fa k = far ∧ fp k = fpt)) ns < ns) (hmay : (q ≠ 6 ∨ ev = 2) ∧ ns < 128) {sa9 : Nat} (hsa9 : sa9 < 2 ^ 32) (hid : id < 65536) (hpu : pn b < u) (hga : g (pn b) = nI sa9) (hip9 : ip b < 65536) : WRX (S := (Nat × Nat × va_W)) l yX11_inside cX11_inside 2 (some .int) 9 3 311 214 [.ref (ad 0), .int (nI n9)] D cy e0 ((cW cy ad eb es mb mz tp os bits F G u nb ns T M id ft fo g dq ++ tl) ++ dy) (fun u_ => some (.int (nI (20 + (n9 - 40))))) (fun z9 => DY cy e0.1 z9.2.2 eb z9.2.1 nb (ns + 1) ba (va_up sa ns z9.1) pt ih il ip pn op (va_up so ns b) (va_up fa ns far) (va_up fp ns fpt) (va_up st ns (tg_first_st q true)) (va_up en ns (T + tg_life (tg_first_st q true) q))) (fun z9 => (cW cy ad eb z9.2.1 mb (mz + nI 1) 0 (20 + (n9 - 40)) bits F G u nb (ns + 1) T (M + 1) (tg_id n9 id) ft (tg_four fo ft n9 q (if n9 - 20 ≤ 1260 then id else 0) sa9 far (op b)) g dq ++ tl) ++ z9.2.2) := by
  refine WRXi (by decide) (lv0 := [(0, .ref (ad 0)), (1, .int (nI n9))]) rfl (Nat.le_of_ble_eq_true rfl) ?_
  intro p e s m args below meth c ls A Q S hnm hP hK hD hS hA hE hend hl
  have hx := S.1
  have hb := S.2.1
  have hown : s.vm.findClass RX11 = some m.cls := S.2.2.2.1
  have ht : ∀ w ∈ lw_g, w.before args s = true := fun w h => S.2.2.2.2 w (List.mem_cons_of_mem _ h)
  have hP : va_P D vwCl ((cW cy ad eb es mb mz tp os bits F G u nb ns T M id ft fo g dq ++ tl) ++ dy) s.heap := hP
  have hT : ((cW cy ad eb es mb mz tp os bits F G u nb ns T M id ft fo g dq ++ tl) ++ dy)[8]? = some (tE (ad 8) (ad 9) (ad 10) T) := rfl
  have hLb : ((cW cy ad eb es mb mz tp os bits F G u nb ns T M id ft fo g dq ++ tl) ++ dy)[9]? = some (aL (ad 9) mb eb nb) := rfl
  have hLs : ((cW cy ad eb es mb mz tp os bits F G u nb ns T M id ft fo g dq ++ tl) ++ dy)[10]? = some (aL (ad 10) mz es ns) := rfl
  have hB : TB1 cy ((cW cy ad eb es mb mz tp os bits F G u nb ns T M id ft fo g dq ++ tl) ++ dy) e0.1 eb nb ba pt ih il ip pn op := hDY.1.app
  have hS1 : TS1 cy ((cW cy ad eb es mb mz tp os bits F G u nb ns T M id ft fo g dq ++ tl) ++ dy) e0.1 es ns nb ba sa so fa fp st en := hDY.2.1.app
  have hST : STP ((cW cy ad eb es mb mz tp os bits F G u nb ns T M id ft fo g dq ++ tl) ++ dy) (ad 5) bits F G := STP_of (ks := 5) rfl hsi
  have hPL : PLP cy ((cW cy ad eb es mb mz tp os bits F G u nb ns T M id ft fo g dq ++ tl) ++ dy) (ad 6) g u := PLP_of (kp := 6) (kq := 7) rfl rfl hu4
  have hnb := hB.le
  have hns := hS1.le
  have hn40 : 40 ≤ n9 := (in0 hz0).1.1
  refine lv_iload_n hx hb dX11_inside_0 rfl (lv_at hl 1 rfl) ?_
  refine nv_if_lt (tgt := 15) hx hb dX11_inside_1 (by decide) (by omega) ?_
  refine lv_iload_n hx hb dX11_inside_4 rfl (lv_at hl 1 rfl) ?_
  refine lv_aload_n hx hb dX11_inside_5 rfl (lv_at hl 0 rfl) ?_
  refine va_get (ci := 8) (C := RX11) (T := TX11) (N := 8) hx hb ht iFX11 hown hK hP 0 rfl rfl 0 (by decide) (ht _ kw1_123) (fun _ h9 => h9) rfl dX11_inside_6 ?_
  refine ro_V S (c_X1_length (PK_of (ws := (cW cy ad eb es mb mz tp os bits F G u nb ns T M id ft fo g dq ++ tl) ++ dy) (kb := 1) (ka := 2) (N := 1600) rfl rfl (by omega) (by omega))) kw1_220 yv_X1_length ⟨Nat.le_of_ble_eq_true rfl, Nat.le_of_ble_eq_true rfl⟩ hK hP (va_recv hK hP (ci := 2) (q0 := 1) rfl rfl) rfl hl.1 rfl (Nat.le_of_ble_eq_true rfl) dX11_inside_9 ⟨(by show _ ≤ 3; omega), (by show _ ≤ 311; omega)⟩ ?_
  refine nv_icmp_le (tgt := 17) hx hb dX11_inside_12 (by decide) (by omega) (by omega) (fun h12 => ?_) (fun h12 => ?_)
  · skip
    refine lv_aload_n hx hb dX11_inside_17 rfl (lv_at hl 0 rfl) ?_
    refine va_get (ci := 8) (C := RX11) (T := TX11) (N := 8) hx hb ht iFX11 hown hK hP 0 rfl rfl 0 (by decide) (ht _ kw1_123) (fun _ h9 => h9) rfl dX11_inside_18 ?_
    refine lv_iload_n hx hb dX11_inside_21 rfl (lv_at hl 1 rfl) ?_
    refine wr_V S (c_X1_resize (ws := (cW cy ad eb es mb mz tp os bits F G u nb ns T M id ft fo g dq ++ tl) ++ dy) (kb := 1) (ka := 2) rfl rfl (by omega) (by omega) (x := n9) (by omega)) kw1_224 yv_X1_resize ⟨Nat.le_of_ble_eq_true rfl, Nat.le_of_ble_eq_true rfl⟩ hK hP hD hS hA (va_recv hK hP (ci := 2) (q0 := 1) rfl rfl) rfl hl.1 rfl (Nat.le_of_ble_eq_true rfl) dX11_inside_22 ⟨(by show _ ≤ 3; omega), (by show _ ≤ 311; omega)⟩ (fun g22 H locs hg22 hP hD hS => ?_)
    have hP : va_P D vwCl ((cW cy ad eb es mb mz n9 os bits F G u nb ns T M id ft fo g dq ++ tl) ++ dy) H := hP
    have hD : va_D A ((cW cy ad eb es mb mz n9 os bits F G u nb ns T M id ft fo g dq ++ tl) ++ dy) := hD
    refine W.eq (g2 := F0 m 25 ls []) rfl ?_
    refine lv_aload_n hx hb dX11_inside_25 rfl (lv_at hl 0 rfl) ?_
    refine lv_aload_n hx hb dX11_inside_26 rfl (lv_at hl 0 rfl) ?_
    refine wx_V S (c_X11_passFromInside2 (by omega) (by omega) hsi hu4 hDY hb_pt hb_ih hb_il hb_ip hb_pn hb_op hb_fa hb_fp hb_st hb_en eq0 eport efar efpt eev ehi elo hz0 hb_pn4 hb9 hfb hfj hmay hsa9 hid hpu hga hip9) kw2_3 yv_X11_passFromInside ⟨Nat.le_of_ble_eq_true rfl, Nat.le_of_ble_eq_true rfl⟩ hK hP hD hS hA hE (va_recv hK hP (ci := 8) (q0 := 0) rfl rfl) rfl hl.1 rfl (Nat.le_of_ble_eq_true rfl) dX11_inside_27 ⟨(by show _ ≤ 3; omega), (by show _ ≤ 311; omega)⟩ (fun z1 H locs hz1 hP hD hS => ?_)
    have hP : va_P D vwCl ((cW cy ad eb z1.2.1 mb (mz + nI 1) n9 (20 + (n9 - 40)) bits F G u nb (ns + 1) T M (tg_id n9 id) ft (tg_four fo ft n9 q (if n9 - 20 ≤ 1260 then id else 0) sa9 far (op b)) g dq ++ tl) ++ z1.2.2) H := hP
    have hD : va_D A ((cW cy ad eb z1.2.1 mb (mz + nI 1) n9 (20 + (n9 - 40)) bits F G u nb (ns + 1) T M (tg_id n9 id) ft (tg_four fo ft n9 q (if n9 - 20 ≤ 1260 then id else 0) sa9 far (op b)) g dq ++ tl) ++ z1.2.2) := hD
    refine W.eq (g2 := F0 m 30 ls [.int (nI 0), .ref (ad 0)]) rfl ?_
    refine wr_V S (c_X11_closePacketM (by omega) (by omega) hsi hu4) kw3_146 yv_X11_closePacket ⟨Nat.le_of_ble_eq_true rfl, Nat.le_of_ble_eq_true rfl⟩ hK hP hD hS hA (va_recv hK hP (ci := 8) (q0 := 0) rfl rfl) rfl hl.1 rfl (Nat.le_of_ble_eq_true rfl) dX11_inside_30 ⟨(by show _ ≤ 3; omega), (by show _ ≤ 311; omega)⟩ (fun u30 H locs hu30 hP hD hS => ?_)
    have hP : va_P D vwCl ((cW cy ad eb z1.2.1 mb (mz + nI 1) 0 (20 + (n9 - 40)) bits F G u nb (ns + 1) T (M + 1) (tg_id n9 id) ft (tg_four fo ft n9 q (if n9 - 20 ≤ 1260 then id else 0) sa9 far (op b)) g dq ++ tl) ++ z1.2.2) H := hP
    have hD : va_D A ((cW cy ad eb z1.2.1 mb (mz + nI 1) 0 (20 + (n9 - 40)) bits F G u nb (ns + 1) T (M + 1) (tg_id n9 id) ft (tg_four fo ft n9 q (if n9 - 20 ≤ 1260 then id else 0) sa9 far (op b)) g dq ++ tl) ++ z1.2.2) := hD
    refine W.eq (g2 := F0 m 33 ls [.int (nI (20 + (n9 - 40)))]) rfl ?_
    refine W.widen (k := 3) (n := 311) (by omega) (by omega) ?_
    exact hend z1 rfl hz1 hP hD hS dX11_inside_33
  exact absurd h12 (by omega)
set_option maxHeartbeats 4000000 in
set_option maxRecDepth 100000 in
theorem c_X11_inside3 {l : Launch} {D : va_G} {cy : Nat → ClassId} {e0 : Nat × Nat} {ad : Nat → Nat} {tl dy : va_W} {eb es tp os bits F G u nb ns T M id : Nat} {mb mz : Int32} {ft fo : Nat → UInt8} {g : Nat → Int32} {dq ba sa pt ih il ip pn op so fa fp st en : Nat → Nat} (htp : tp ≤ 1600) (hos : os ≤ 1620) (hsi : SI bits F G) (hu4 : u ≤ 4) (hDY : DY cy e0.1 dy eb es nb ns ba sa pt ih il ip pn op so fa fp st en) (hb_pt : ∀ i, pt i < 2 ^ 31) (hb_ih : ∀ i, ih i < 2 ^ 64) (hb_il : ∀ i, il i < 2 ^ 64) (hb_ip : ∀ i, ip i < 2 ^ 31) (hb_pn : ∀ i, pn i < 2 ^ 31) (hb_op : ∀ i, op i < 2 ^ 31) (hb_fa : ∀ i, fa i < 2 ^ 32) (hb_fp : ∀ i, fp i < 2 ^ 31) (hb_st : ∀ i, st i ≤ 7) (hb_en : ∀ i, en i < 2 ^ 62) {n9 : Nat} (hn9 : n9 ≤ tp) {q port far fpt ev hi lo : Nat} (eq0 : q = if tg_rd ft n9 6 = 58 then 1 else tg_rd ft n9 6) (eport : port = tg_pr (tg_rd ft n9) (40 + tg_spa q)) (efar : far = tg_dr bits (tg_ei (tg_rd ft n9) 24) (tg_ei (tg_rd ft n9) 32)) (efpt : fpt = if q = 1 then 0 else tg_pr (tg_rd ft n9) (40 + tg_dpa q)) (eev : ev = tg_event (tg_rd ft n9) 40 q) (ehi : hi = tg_ei (tg_rd ft n9) 8) (elo : lo = tg_ei (tg_rd ft n9) 16) (hz0 : tg_in (tg_rd ft n9) n9 bits F G u = 0) (hb_pn4 : ∀ i, pn i < 4) (hfb : ¬ tg_first (fun k => decide (pt k = q ∧ ih k = hi ∧ il k = lo ∧ ip k = port)) nb < nb) (hmay : (q ≠ 6 ∨ ev = 2) ∧ ns < 128) (hnb0 : nb < 64) {sa9 : Nat} (hsa9 : sa9 < 2 ^ 32) (hid : id < 65536) (hpu : tg_best ih il pn nb u hi lo < u) (hga : g (tg_best ih il pn nb u hi lo) = nI sa9) (hop9 : tg_port pt pn op nb q (tg_best ih il pn nb u hi lo) port < 2 ^ 31) : WRX (S := (Nat × Nat × Nat × Nat × va_W)) l yX11_inside cX11_inside 2 (some .int) 10 5 617 243 [.ref (ad 0), .int (nI n9)] D cy e0 ((cW cy ad eb es mb mz tp os bits F G u nb ns T M id ft fo g dq ++ tl) ++ dy) (fun u_ => some (.int (nI (20 + (n9 - 40))))) (fun z9 => DY cy e0.1 z9.2.2.2.2 z9.2.1 z9.2.2.2.1 (nb + 1) (ns + 1) (va_up ba nb z9.1) (va_up sa ns z9.2.2.1) (va_up pt nb q) (va_up ih nb hi) (va_up il nb lo) (va_up ip nb port) (va_up pn nb (tg_best ih il pn nb u hi lo)) (va_up op nb (tg_port pt pn op nb q (tg_best ih il pn nb u hi lo) port)) (va_up so ns nb) (va_up fa ns far) (va_up fp ns fpt) (va_up st ns (tg_first_st q true)) (va_up en ns (T + tg_life (tg_first_st q true) q))) (fun z9 => (cW cy ad z9.2.1 z9.2.2.2.1 (mb + nI 1) (mz + nI 1) 0 (20 + (n9 - 40)) bits F G u (nb + 1) (ns + 1) T (M + 1) (tg_id n9 id) ft (tg_four fo ft n9 q (if n9 - 20 ≤ 1260 then id else 0) sa9 far (tg_port pt pn op nb q (tg_best ih il pn nb u hi lo) port)) g dq ++ tl) ++ z9.2.2.2.2) := by
  refine WRXi (by decide) (lv0 := [(0, .ref (ad 0)), (1, .int (nI n9))]) rfl (Nat.le_of_ble_eq_true rfl) ?_
  intro p e s m args below meth c ls A Q S hnm hP hK hD hS hA hE hend hl
  have hx := S.1
  have hb := S.2.1
  have hown : s.vm.findClass RX11 = some m.cls := S.2.2.2.1
  have ht : ∀ w ∈ lw_g, w.before args s = true := fun w h => S.2.2.2.2 w (List.mem_cons_of_mem _ h)
  have hP : va_P D vwCl ((cW cy ad eb es mb mz tp os bits F G u nb ns T M id ft fo g dq ++ tl) ++ dy) s.heap := hP
  have hT : ((cW cy ad eb es mb mz tp os bits F G u nb ns T M id ft fo g dq ++ tl) ++ dy)[8]? = some (tE (ad 8) (ad 9) (ad 10) T) := rfl
  have hLb : ((cW cy ad eb es mb mz tp os bits F G u nb ns T M id ft fo g dq ++ tl) ++ dy)[9]? = some (aL (ad 9) mb eb nb) := rfl
  have hLs : ((cW cy ad eb es mb mz tp os bits F G u nb ns T M id ft fo g dq ++ tl) ++ dy)[10]? = some (aL (ad 10) mz es ns) := rfl
  have hB : TB1 cy ((cW cy ad eb es mb mz tp os bits F G u nb ns T M id ft fo g dq ++ tl) ++ dy) e0.1 eb nb ba pt ih il ip pn op := hDY.1.app
  have hS1 : TS1 cy ((cW cy ad eb es mb mz tp os bits F G u nb ns T M id ft fo g dq ++ tl) ++ dy) e0.1 es ns nb ba sa so fa fp st en := hDY.2.1.app
  have hST : STP ((cW cy ad eb es mb mz tp os bits F G u nb ns T M id ft fo g dq ++ tl) ++ dy) (ad 5) bits F G := STP_of (ks := 5) rfl hsi
  have hPL : PLP cy ((cW cy ad eb es mb mz tp os bits F G u nb ns T M id ft fo g dq ++ tl) ++ dy) (ad 6) g u := PLP_of (kp := 6) (kq := 7) rfl rfl hu4
  have hnb := hB.le
  have hns := hS1.le
  have hn40 : 40 ≤ n9 := (in0 hz0).1.1
  refine lv_iload_n hx hb dX11_inside_0 rfl (lv_at hl 1 rfl) ?_
  refine nv_if_lt (tgt := 15) hx hb dX11_inside_1 (by decide) (by omega) ?_
  refine lv_iload_n hx hb dX11_inside_4 rfl (lv_at hl 1 rfl) ?_
  refine lv_aload_n hx hb dX11_inside_5 rfl (lv_at hl 0 rfl) ?_
  refine va_get (ci := 8) (C := RX11) (T := TX11) (N := 8) hx hb ht iFX11 hown hK hP 0 rfl rfl 0 (by decide) (ht _ kw1_123) (fun _ h9 => h9) rfl dX11_inside_6 ?_
  refine ro_V S (c_X1_length (PK_of (ws := (cW cy ad eb es mb mz tp os bits F G u nb ns T M id ft fo g dq ++ tl) ++ dy) (kb := 1) (ka := 2) (N := 1600) rfl rfl (by omega) (by omega))) kw1_220 yv_X1_length ⟨Nat.le_of_ble_eq_true rfl, Nat.le_of_ble_eq_true rfl⟩ hK hP (va_recv hK hP (ci := 2) (q0 := 1) rfl rfl) rfl hl.1 rfl (Nat.le_of_ble_eq_true rfl) dX11_inside_9 ⟨(by show _ ≤ 5; omega), (by show _ ≤ 617; omega)⟩ ?_
  refine nv_icmp_le (tgt := 17) hx hb dX11_inside_12 (by decide) (by omega) (by omega) (fun h12 => ?_) (fun h12 => ?_)
  · skip
    refine lv_aload_n hx hb dX11_inside_17 rfl (lv_at hl 0 rfl) ?_
    refine va_get (ci := 8) (C := RX11) (T := TX11) (N := 8) hx hb ht iFX11 hown hK hP 0 rfl rfl 0 (by decide) (ht _ kw1_123) (fun _ h9 => h9) rfl dX11_inside_18 ?_
    refine lv_iload_n hx hb dX11_inside_21 rfl (lv_at hl 1 rfl) ?_
    refine wr_V S (c_X1_resize (ws := (cW cy ad eb es mb mz tp os bits F G u nb ns T M id ft fo g dq ++ tl) ++ dy) (kb := 1) (ka := 2) rfl rfl (by omega) (by omega) (x := n9) (by omega)) kw1_224 yv_X1_resize ⟨Nat.le_of_ble_eq_true rfl, Nat.le_of_ble_eq_true rfl⟩ hK hP hD hS hA (va_recv hK hP (ci := 2) (q0 := 1) rfl rfl) rfl hl.1 rfl (Nat.le_of_ble_eq_true rfl) dX11_inside_22 ⟨(by show _ ≤ 5; omega), (by show _ ≤ 617; omega)⟩ (fun g22 H locs hg22 hP hD hS => ?_)
    have hP : va_P D vwCl ((cW cy ad eb es mb mz n9 os bits F G u nb ns T M id ft fo g dq ++ tl) ++ dy) H := hP
    have hD : va_D A ((cW cy ad eb es mb mz n9 os bits F G u nb ns T M id ft fo g dq ++ tl) ++ dy) := hD
    refine W.eq (g2 := F0 m 25 ls []) rfl ?_
    refine lv_aload_n hx hb dX11_inside_25 rfl (lv_at hl 0 rfl) ?_
    refine lv_aload_n hx hb dX11_inside_26 rfl (lv_at hl 0 rfl) ?_
    refine wx_V S (c_X11_passFromInside3 (by omega) (by omega) hsi hu4 hDY hb_pt hb_ih hb_il hb_ip hb_pn hb_op hb_fa hb_fp hb_st hb_en eq0 eport efar efpt eev ehi elo hz0 hb_pn4 hfb hmay hnb0 hsa9 hid hpu hga hop9) kw2_3 yv_X11_passFromInside ⟨Nat.le_of_ble_eq_true rfl, Nat.le_of_ble_eq_true rfl⟩ hK hP hD hS hA hE (va_recv hK hP (ci := 8) (q0 := 0) rfl rfl) rfl hl.1 rfl (Nat.le_of_ble_eq_true rfl) dX11_inside_27 ⟨(by show _ ≤ 5; omega), (by show _ ≤ 617; omega)⟩ (fun z1 H locs hz1 hP hD hS => ?_)
    have hP : va_P D vwCl ((cW cy ad z1.2.1 z1.2.2.2.1 (mb + nI 1) (mz + nI 1) n9 (20 + (n9 - 40)) bits F G u (nb + 1) (ns + 1) T M (tg_id n9 id) ft (tg_four fo ft n9 q (if n9 - 20 ≤ 1260 then id else 0) sa9 far (tg_port pt pn op nb q (tg_best ih il pn nb u hi lo) port)) g dq ++ tl) ++ z1.2.2.2.2) H := hP
    have hD : va_D A ((cW cy ad z1.2.1 z1.2.2.2.1 (mb + nI 1) (mz + nI 1) n9 (20 + (n9 - 40)) bits F G u (nb + 1) (ns + 1) T M (tg_id n9 id) ft (tg_four fo ft n9 q (if n9 - 20 ≤ 1260 then id else 0) sa9 far (tg_port pt pn op nb q (tg_best ih il pn nb u hi lo) port)) g dq ++ tl) ++ z1.2.2.2.2) := hD
    refine W.eq (g2 := F0 m 30 ls [.int (nI 0), .ref (ad 0)]) rfl ?_
    refine wr_V S (c_X11_closePacketM (by omega) (by omega) hsi hu4) kw3_146 yv_X11_closePacket ⟨Nat.le_of_ble_eq_true rfl, Nat.le_of_ble_eq_true rfl⟩ hK hP hD hS hA (va_recv hK hP (ci := 8) (q0 := 0) rfl rfl) rfl hl.1 rfl (Nat.le_of_ble_eq_true rfl) dX11_inside_30 ⟨(by show _ ≤ 5; omega), (by show _ ≤ 617; omega)⟩ (fun u30 H locs hu30 hP hD hS => ?_)
    have hP : va_P D vwCl ((cW cy ad z1.2.1 z1.2.2.2.1 (mb + nI 1) (mz + nI 1) 0 (20 + (n9 - 40)) bits F G u (nb + 1) (ns + 1) T (M + 1) (tg_id n9 id) ft (tg_four fo ft n9 q (if n9 - 20 ≤ 1260 then id else 0) sa9 far (tg_port pt pn op nb q (tg_best ih il pn nb u hi lo) port)) g dq ++ tl) ++ z1.2.2.2.2) H := hP
    have hD : va_D A ((cW cy ad z1.2.1 z1.2.2.2.1 (mb + nI 1) (mz + nI 1) 0 (20 + (n9 - 40)) bits F G u (nb + 1) (ns + 1) T (M + 1) (tg_id n9 id) ft (tg_four fo ft n9 q (if n9 - 20 ≤ 1260 then id else 0) sa9 far (tg_port pt pn op nb q (tg_best ih il pn nb u hi lo) port)) g dq ++ tl) ++ z1.2.2.2.2) := hD
    refine W.eq (g2 := F0 m 33 ls [.int (nI (20 + (n9 - 40)))]) rfl ?_
    refine W.widen (k := 5) (n := 617) (by omega) (by omega) ?_
    exact hend z1 rfl hz1 hP hD hS dX11_inside_33
  exact absurd h12 (by omega)
set_option maxHeartbeats 4000000 in
set_option maxRecDepth 100000 in
theorem c_X11_insidea {l : Launch} {D : va_G} {cy : Nat → ClassId} {ad : Nat → Nat} {tl dy : va_W} {eb es tp os bits F G u nb ns T M id : Nat} {mb mz : Int32} {ft fo : Nat → UInt8} {g : Nat → Int32} {dq ba sa pt ih il ip pn op so fa fp st en : Nat → Nat} {e0 : Nat × Nat} (htp : tp ≤ 1600) (hos : os ≤ 1620) (hsi : SI bits F G) (hu4 : u ≤ 4) (hDY : DY cy e0.1 dy eb es nb ns ba sa pt ih il ip pn op so fa fp st en) (hb_pt : ∀ i, pt i < 2 ^ 31) (hb_ih : ∀ i, ih i < 2 ^ 64) (hb_il : ∀ i, il i < 2 ^ 64) (hb_ip : ∀ i, ip i < 2 ^ 31) (hb_pn : ∀ i, pn i < 2 ^ 31) (hb_op : ∀ i, op i < 2 ^ 31) (hb_fa : ∀ i, fa i < 2 ^ 32) (hb_fp : ∀ i, fp i < 2 ^ 31) (hb_st : ∀ i, st i ≤ 7) (hb_en : ∀ i, en i < 2 ^ 62) {n9 : Nat} (hn9 : n9 ≤ tp) {q port far fpt ev hi lo : Nat} (eq0 : q = if tg_rd ft n9 6 = 58 then 1 else tg_rd ft n9 6) (eport : port = tg_pr (tg_rd ft n9) (40 + tg_spa q)) (efar : far = tg_dr bits (tg_ei (tg_rd ft n9) 24) (tg_ei (tg_rd ft n9) 32)) (efpt : fpt = if q = 1 then 0 else tg_pr (tg_rd ft n9) (40 + tg_dpa q)) (eev : ev = tg_event (tg_rd ft n9) 40 q) (ehi : hi = tg_ei (tg_rd ft n9) 8) (elo : lo = tg_ei (tg_rd ft n9) 16) (hz0 : tg_in (tg_rd ft n9) n9 bits F G u = 0) (hb_pn4 : ∀ i, pn i < 4) {b : Nat} (hb9 : b < nb) (hfb : tg_first (fun k => decide (pt k = q ∧ ih k = hi ∧ il k = lo ∧ ip k = port)) nb = b) (hfj : ¬ tg_first (fun k => decide (so k = b ∧ fa k = far ∧ fp k = fpt)) ns < ns) (hmay : ¬ ((q ≠ 6 ∨ ev = 2) ∧ ns < 128)) : WR (S := va_W) l yX11_inside cX11_inside 2 (some .int) 6 1 6 145 [.ref (ad 0), .int (nI n9)] D cy ((cW cy ad eb es mb mz tp os bits F G u nb ns T M id ft fo g dq ++ tl) ++ dy) (fun u_ => some (.int (- nI 15))) (fun z9 => DY cy e0.1 z9 eb es nb ns ba sa pt ih il ip pn op so fa fp st en) (fun z9 => (cW cy ad eb es mb mz 0 os bits F G u nb ns T M id ft fo g (va_up dq 5 (dq 5 + 1)) ++ tl) ++ z9) := by
  refine WRi (by decide) (lv0 := [(0, .ref (ad 0)), (1, .int (nI n9))]) rfl (Nat.le_of_ble_eq_true rfl) ?_
  intro p e s m args below meth c ls A Q S hnm hP hK hD hS hA hend hl
  have hx := S.1
  have hb := S.2.1
  have hown : s.vm.findClass RX11 = some m.cls := S.2.2.2.1
  have ht : ∀ w ∈ lw_g, w.before args s = true := fun w h => S.2.2.2.2 w (List.mem_cons_of_mem _ h)
  have hP : va_P D vwCl ((cW cy ad eb es mb mz tp os bits F G u nb ns T M id ft fo g dq ++ tl) ++ dy) s.heap := hP
  have hT : ((cW cy ad eb es mb mz tp os bits F G u nb ns T M id ft fo g dq ++ tl) ++ dy)[8]? = some (tE (ad 8) (ad 9) (ad 10) T) := rfl
  have hLb : ((cW cy ad eb es mb mz tp os bits F G u nb ns T M id ft fo g dq ++ tl) ++ dy)[9]? = some (aL (ad 9) mb eb nb) := rfl
  have hLs : ((cW cy ad eb es mb mz tp os bits F G u nb ns T M id ft fo g dq ++ tl) ++ dy)[10]? = some (aL (ad 10) mz es ns) := rfl
  have hB : TB1 cy ((cW cy ad eb es mb mz tp os bits F G u nb ns T M id ft fo g dq ++ tl) ++ dy) e0.1 eb nb ba pt ih il ip pn op := hDY.1.app
  have hS1 : TS1 cy ((cW cy ad eb es mb mz tp os bits F G u nb ns T M id ft fo g dq ++ tl) ++ dy) e0.1 es ns nb ba sa so fa fp st en := hDY.2.1.app
  have hST : STP ((cW cy ad eb es mb mz tp os bits F G u nb ns T M id ft fo g dq ++ tl) ++ dy) (ad 5) bits F G := STP_of (ks := 5) rfl hsi
  have hPL : PLP cy ((cW cy ad eb es mb mz tp os bits F G u nb ns T M id ft fo g dq ++ tl) ++ dy) (ad 6) g u := PLP_of (kp := 6) (kq := 7) rfl rfl hu4
  have hnb := hB.le
  have hns := hS1.le
  have hn40 : 40 ≤ n9 := (in0 hz0).1.1
  refine lv_iload_n hx hb dX11_inside_0 rfl (lv_at hl 1 rfl) ?_
  refine nv_if_lt (tgt := 15) hx hb dX11_inside_1 (by decide) (by omega) ?_
  refine lv_iload_n hx hb dX11_inside_4 rfl (lv_at hl 1 rfl) ?_
  refine lv_aload_n hx hb dX11_inside_5 rfl (lv_at hl 0 rfl) ?_
  refine va_get (ci := 8) (C := RX11) (T := TX11) (N := 8) hx hb ht iFX11 hown hK hP 0 rfl rfl 0 (by decide) (ht _ kw1_123) (fun _ h9 => h9) rfl dX11_inside_6 ?_
  refine ro_V S (c_X1_length (PK_of (ws := (cW cy ad eb es mb mz tp os bits F G u nb ns T M id ft fo g dq ++ tl) ++ dy) (kb := 1) (ka := 2) (N := 1600) rfl rfl (by omega) (by omega))) kw1_220 yv_X1_length ⟨Nat.le_of_ble_eq_true rfl, Nat.le_of_ble_eq_true rfl⟩ hK hP (va_recv hK hP (ci := 2) (q0 := 1) rfl rfl) rfl hl.1 rfl (Nat.le_of_ble_eq_true rfl) dX11_inside_9 ⟨(by show _ ≤ 1; omega), (by show _ ≤ 6; omega)⟩ ?_
  refine nv_icmp_le (tgt := 17) hx hb dX11_inside_12 (by decide) (by omega) (by omega) (fun h12 => ?_) (fun h12 => ?_)
  · skip
    refine lv_aload_n hx hb dX11_inside_17 rfl (lv_at hl 0 rfl) ?_
    refine va_get (ci := 8) (C := RX11) (T := TX11) (N := 8) hx hb ht iFX11 hown hK hP 0 rfl rfl 0 (by decide) (ht _ kw1_123) (fun _ h9 => h9) rfl dX11_inside_18 ?_
    refine lv_iload_n hx hb dX11_inside_21 rfl (lv_at hl 1 rfl) ?_
    refine wr_V S (c_X1_resize (ws := (cW cy ad eb es mb mz tp os bits F G u nb ns T M id ft fo g dq ++ tl) ++ dy) (kb := 1) (ka := 2) rfl rfl (by omega) (by omega) (x := n9) (by omega)) kw1_224 yv_X1_resize ⟨Nat.le_of_ble_eq_true rfl, Nat.le_of_ble_eq_true rfl⟩ hK hP hD hS hA (va_recv hK hP (ci := 2) (q0 := 1) rfl rfl) rfl hl.1 rfl (Nat.le_of_ble_eq_true rfl) dX11_inside_22 ⟨(by show _ ≤ 1; omega), (by show _ ≤ 6; omega)⟩ (fun g22 H locs hg22 hP hD hS => ?_)
    have hP : va_P D vwCl ((cW cy ad eb es mb mz n9 os bits F G u nb ns T M id ft fo g dq ++ tl) ++ dy) H := hP
    have hD : va_D A ((cW cy ad eb es mb mz n9 os bits F G u nb ns T M id ft fo g dq ++ tl) ++ dy) := hD
    refine W.eq (g2 := F0 m 25 ls []) rfl ?_
    refine lv_aload_n hx hb dX11_inside_25 rfl (lv_at hl 0 rfl) ?_
    refine lv_aload_n hx hb dX11_inside_26 rfl (lv_at hl 0 rfl) ?_
    refine wr_V S (c_X11_passFromInsidea (by omega) (by omega) hsi hu4 hDY hb_pt hb_ih hb_il hb_ip hb_pn hb_op hb_fa hb_fp hb_st hb_en eq0 eport efar efpt eev ehi elo hz0 hb_pn4 hb9 hfb hfj hmay) kw2_3 yv_X11_passFromInside ⟨Nat.le_of_ble_eq_true rfl, Nat.le_of_ble_eq_true rfl⟩ hK hP hD hS hA (va_recv hK hP (ci := 8) (q0 := 0) rfl rfl) rfl hl.1 rfl (Nat.le_of_ble_eq_true rfl) dX11_inside_27 ⟨(by show _ ≤ 1; omega), (by show _ ≤ 6; omega)⟩ (fun z1 H locs hz1 hP hD hS => ?_)
    have hP : va_P D vwCl ((cW cy ad eb es mb mz n9 os bits F G u nb ns T M id ft fo g dq ++ tl) ++ z1) H := hP
    have hD : va_D A ((cW cy ad eb es mb mz n9 os bits F G u nb ns T M id ft fo g dq ++ tl) ++ z1) := hD
    refine W.eq (g2 := F0 m 30 ls [.int (nI 15), .ref (ad 0)]) rfl ?_
    refine wr_V S (c_X11_closePacketD (by omega) (by omega) hsi hu4 (x := 15) (by omega) (by omega)) kw3_146 yv_X11_closePacket ⟨Nat.le_of_ble_eq_true rfl, Nat.le_of_ble_eq_true rfl⟩ hK hP hD hS hA (va_recv hK hP (ci := 8) (q0 := 0) rfl rfl) rfl hl.1 rfl (Nat.le_of_ble_eq_true rfl) dX11_inside_30 ⟨(by show _ ≤ 1; omega), (by show _ ≤ 6; omega)⟩ (fun u30 H locs hu30 hP hD hS => ?_)
    have hP : va_P D vwCl ((cW cy ad eb es mb mz 0 os bits F G u nb ns T M id ft fo g (va_up dq (15 - 10) (dq (15 - 10) + 1)) ++ tl) ++ z1) H := hP
    have hD : va_D A ((cW cy ad eb es mb mz 0 os bits F G u nb ns T M id ft fo g (va_up dq (15 - 10) (dq (15 - 10) + 1)) ++ tl) ++ z1) := hD
    refine W.eq (g2 := F0 m 33 ls [.int (- nI 15)]) rfl ?_
    refine W.widen (k := 1) (n := 6) (by omega) (by omega) ?_
    exact hend z1 rfl hz1 hP hD hS dX11_inside_33
  exact absurd h12 (by omega)
set_option maxHeartbeats 4000000 in
set_option maxRecDepth 100000 in
theorem c_X11_insideb {l : Launch} {D : va_G} {cy : Nat → ClassId} {ad : Nat → Nat} {tl dy : va_W} {eb es tp os bits F G u nb ns T M id : Nat} {mb mz : Int32} {ft fo : Nat → UInt8} {g : Nat → Int32} {dq ba sa pt ih il ip pn op so fa fp st en : Nat → Nat} {e0 : Nat × Nat} (htp : tp ≤ 1600) (hos : os ≤ 1620) (hsi : SI bits F G) (hu4 : u ≤ 4) (hDY : DY cy e0.1 dy eb es nb ns ba sa pt ih il ip pn op so fa fp st en) (hb_pt : ∀ i, pt i < 2 ^ 31) (hb_ih : ∀ i, ih i < 2 ^ 64) (hb_il : ∀ i, il i < 2 ^ 64) (hb_ip : ∀ i, ip i < 2 ^ 31) (hb_pn : ∀ i, pn i < 2 ^ 31) (hb_op : ∀ i, op i < 2 ^ 31) (hb_fa : ∀ i, fa i < 2 ^ 32) (hb_fp : ∀ i, fp i < 2 ^ 31) (hb_st : ∀ i, st i ≤ 7) (hb_en : ∀ i, en i < 2 ^ 62) {n9 : Nat} (hn9 : n9 ≤ tp) {q port far fpt ev hi lo : Nat} (eq0 : q = if tg_rd ft n9 6 = 58 then 1 else tg_rd ft n9 6) (eport : port = tg_pr (tg_rd ft n9) (40 + tg_spa q)) (efar : far = tg_dr bits (tg_ei (tg_rd ft n9) 24) (tg_ei (tg_rd ft n9) 32)) (efpt : fpt = if q = 1 then 0 else tg_pr (tg_rd ft n9) (40 + tg_dpa q)) (eev : ev = tg_event (tg_rd ft n9) 40 q) (ehi : hi = tg_ei (tg_rd ft n9) 8) (elo : lo = tg_ei (tg_rd ft n9) 16) (hz0 : tg_in (tg_rd ft n9) n9 bits F G u = 0) (hb_pn4 : ∀ i, pn i < 4) (hfb : ¬ tg_first (fun k => decide (pt k = q ∧ ih k = hi ∧ il k = lo ∧ ip k = port)) nb < nb) (hno9 : 64 ≤ nb ∨ ¬ ((q ≠ 6 ∨ ev = 2) ∧ ns < 128)) : WR (S := va_W) l yX11_inside cX11_inside 2 (some .int) 6 1 6 145 [.ref (ad 0), .int (nI n9)] D cy ((cW cy ad eb es mb mz tp os bits F G u nb ns T M id ft fo g dq ++ tl) ++ dy) (fun u_ => some (.int (- nI 15))) (fun z9 => DY cy e0.1 z9 eb es nb ns ba sa pt ih il ip pn op so fa fp st en) (fun z9 => (cW cy ad eb es mb mz 0 os bits F G u nb ns T M id ft fo g (va_up dq 5 (dq 5 + 1)) ++ tl) ++ z9) := by
  refine WRi (by decide) (lv0 := [(0, .ref (ad 0)), (1, .int (nI n9))]) rfl (Nat.le_of_ble_eq_true rfl) ?_
  intro p e s m args below meth c ls A Q S hnm hP hK hD hS hA hend hl
  have hx := S.1
  have hb := S.2.1
  have hown : s.vm.findClass RX11 = some m.cls := S.2.2.2.1
  have ht : ∀ w ∈ lw_g, w.before args s = true := fun w h => S.2.2.2.2 w (List.mem_cons_of_mem _ h)
  have hP : va_P D vwCl ((cW cy ad eb es mb mz tp os bits F G u nb ns T M id ft fo g dq ++ tl) ++ dy) s.heap := hP
  have hT : ((cW cy ad eb es mb mz tp os bits F G u nb ns T M id ft fo g dq ++ tl) ++ dy)[8]? = some (tE (ad 8) (ad 9) (ad 10) T) := rfl
  have hLb : ((cW cy ad eb es mb mz tp os bits F G u nb ns T M id ft fo g dq ++ tl) ++ dy)[9]? = some (aL (ad 9) mb eb nb) := rfl
  have hLs : ((cW cy ad eb es mb mz tp os bits F G u nb ns T M id ft fo g dq ++ tl) ++ dy)[10]? = some (aL (ad 10) mz es ns) := rfl
  have hB : TB1 cy ((cW cy ad eb es mb mz tp os bits F G u nb ns T M id ft fo g dq ++ tl) ++ dy) e0.1 eb nb ba pt ih il ip pn op := hDY.1.app
  have hS1 : TS1 cy ((cW cy ad eb es mb mz tp os bits F G u nb ns T M id ft fo g dq ++ tl) ++ dy) e0.1 es ns nb ba sa so fa fp st en := hDY.2.1.app
  have hST : STP ((cW cy ad eb es mb mz tp os bits F G u nb ns T M id ft fo g dq ++ tl) ++ dy) (ad 5) bits F G := STP_of (ks := 5) rfl hsi
  have hPL : PLP cy ((cW cy ad eb es mb mz tp os bits F G u nb ns T M id ft fo g dq ++ tl) ++ dy) (ad 6) g u := PLP_of (kp := 6) (kq := 7) rfl rfl hu4
  have hnb := hB.le
  have hns := hS1.le
  have hn40 : 40 ≤ n9 := (in0 hz0).1.1
  refine lv_iload_n hx hb dX11_inside_0 rfl (lv_at hl 1 rfl) ?_
  refine nv_if_lt (tgt := 15) hx hb dX11_inside_1 (by decide) (by omega) ?_
  refine lv_iload_n hx hb dX11_inside_4 rfl (lv_at hl 1 rfl) ?_
  refine lv_aload_n hx hb dX11_inside_5 rfl (lv_at hl 0 rfl) ?_
  refine va_get (ci := 8) (C := RX11) (T := TX11) (N := 8) hx hb ht iFX11 hown hK hP 0 rfl rfl 0 (by decide) (ht _ kw1_123) (fun _ h9 => h9) rfl dX11_inside_6 ?_
  refine ro_V S (c_X1_length (PK_of (ws := (cW cy ad eb es mb mz tp os bits F G u nb ns T M id ft fo g dq ++ tl) ++ dy) (kb := 1) (ka := 2) (N := 1600) rfl rfl (by omega) (by omega))) kw1_220 yv_X1_length ⟨Nat.le_of_ble_eq_true rfl, Nat.le_of_ble_eq_true rfl⟩ hK hP (va_recv hK hP (ci := 2) (q0 := 1) rfl rfl) rfl hl.1 rfl (Nat.le_of_ble_eq_true rfl) dX11_inside_9 ⟨(by show _ ≤ 1; omega), (by show _ ≤ 6; omega)⟩ ?_
  refine nv_icmp_le (tgt := 17) hx hb dX11_inside_12 (by decide) (by omega) (by omega) (fun h12 => ?_) (fun h12 => ?_)
  · skip
    refine lv_aload_n hx hb dX11_inside_17 rfl (lv_at hl 0 rfl) ?_
    refine va_get (ci := 8) (C := RX11) (T := TX11) (N := 8) hx hb ht iFX11 hown hK hP 0 rfl rfl 0 (by decide) (ht _ kw1_123) (fun _ h9 => h9) rfl dX11_inside_18 ?_
    refine lv_iload_n hx hb dX11_inside_21 rfl (lv_at hl 1 rfl) ?_
    refine wr_V S (c_X1_resize (ws := (cW cy ad eb es mb mz tp os bits F G u nb ns T M id ft fo g dq ++ tl) ++ dy) (kb := 1) (ka := 2) rfl rfl (by omega) (by omega) (x := n9) (by omega)) kw1_224 yv_X1_resize ⟨Nat.le_of_ble_eq_true rfl, Nat.le_of_ble_eq_true rfl⟩ hK hP hD hS hA (va_recv hK hP (ci := 2) (q0 := 1) rfl rfl) rfl hl.1 rfl (Nat.le_of_ble_eq_true rfl) dX11_inside_22 ⟨(by show _ ≤ 1; omega), (by show _ ≤ 6; omega)⟩ (fun g22 H locs hg22 hP hD hS => ?_)
    have hP : va_P D vwCl ((cW cy ad eb es mb mz n9 os bits F G u nb ns T M id ft fo g dq ++ tl) ++ dy) H := hP
    have hD : va_D A ((cW cy ad eb es mb mz n9 os bits F G u nb ns T M id ft fo g dq ++ tl) ++ dy) := hD
    refine W.eq (g2 := F0 m 25 ls []) rfl ?_
    refine lv_aload_n hx hb dX11_inside_25 rfl (lv_at hl 0 rfl) ?_
    refine lv_aload_n hx hb dX11_inside_26 rfl (lv_at hl 0 rfl) ?_
    refine wr_V S (c_X11_passFromInsideb (by omega) (by omega) hsi hu4 hDY hb_pt hb_ih hb_il hb_ip hb_pn hb_op hb_fa hb_fp hb_st hb_en eq0 eport efar efpt eev ehi elo hz0 hb_pn4 hfb hno9) kw2_3 yv_X11_passFromInside ⟨Nat.le_of_ble_eq_true rfl, Nat.le_of_ble_eq_true rfl⟩ hK hP hD hS hA (va_recv hK hP (ci := 8) (q0 := 0) rfl rfl) rfl hl.1 rfl (Nat.le_of_ble_eq_true rfl) dX11_inside_27 ⟨(by show _ ≤ 1; omega), (by show _ ≤ 6; omega)⟩ (fun z1 H locs hz1 hP hD hS => ?_)
    have hP : va_P D vwCl ((cW cy ad eb es mb mz n9 os bits F G u nb ns T M id ft fo g dq ++ tl) ++ z1) H := hP
    have hD : va_D A ((cW cy ad eb es mb mz n9 os bits F G u nb ns T M id ft fo g dq ++ tl) ++ z1) := hD
    refine W.eq (g2 := F0 m 30 ls [.int (nI 15), .ref (ad 0)]) rfl ?_
    refine wr_V S (c_X11_closePacketD (by omega) (by omega) hsi hu4 (x := 15) (by omega) (by omega)) kw3_146 yv_X11_closePacket ⟨Nat.le_of_ble_eq_true rfl, Nat.le_of_ble_eq_true rfl⟩ hK hP hD hS hA (va_recv hK hP (ci := 8) (q0 := 0) rfl rfl) rfl hl.1 rfl (Nat.le_of_ble_eq_true rfl) dX11_inside_30 ⟨(by show _ ≤ 1; omega), (by show _ ≤ 6; omega)⟩ (fun u30 H locs hu30 hP hD hS => ?_)
    have hP : va_P D vwCl ((cW cy ad eb es mb mz 0 os bits F G u nb ns T M id ft fo g (va_up dq (15 - 10) (dq (15 - 10) + 1)) ++ tl) ++ z1) H := hP
    have hD : va_D A ((cW cy ad eb es mb mz 0 os bits F G u nb ns T M id ft fo g (va_up dq (15 - 10) (dq (15 - 10) + 1)) ++ tl) ++ z1) := hD
    refine W.eq (g2 := F0 m 33 ls [.int (- nI 15)]) rfl ?_
    refine W.widen (k := 1) (n := 6) (by omega) (by omega) ?_
    exact hend z1 rfl hz1 hP hD hS dX11_inside_33
  exact absurd h12 (by omega)
