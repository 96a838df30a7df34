theorem nI_m1 {n : Nat} (h : n < 2 ^ 31) : ¬ nI n = -1 := fun z => by
  have h8 := congrArg Int32.toInt z
  rw [nI_toInt h, show (-1 : Int32).toInt = -1 from by decide] at h8
  omega
theorem PK_app {cy : Nat → ClassId} {ws z : va_W} {b n : Nat} {f : Nat → UInt8} (h : PK cy ws b f n) : PK cy (ws ++ z) b f n := by
  obtain ⟨kb, ka, ar, N, hb0, ha0, hnN, hN⟩ := h
  exact ⟨kb, ka, ar, N, app_l hb0, app_l ha0, hnN, hN⟩
theorem dX2_init_0 : decode cX2_init 0 = .ok (.aload_n 0, 1) := by decide +kernel
theorem dX2_init_1 : decode cX2_init 1 = .ok (.invokespecial 3, 3) := by decide +kernel
theorem dX2_init_4 : decode cX2_init 4 = .ok (.aload_n 0, 1) := by decide +kernel
theorem dX2_init_5 : decode cX2_init 5 = .ok (.iload_n 1, 1) := by decide +kernel
theorem dX2_init_6 : decode cX2_init 6 = .ok (.putfield 9, 3) := by decide +kernel
theorem dX2_init_9 : decode cX2_init 9 = .ok (.aload_n 0, 1) := by decide +kernel
theorem dX2_init_10 : decode cX2_init 10 = .ok (.iload_n 2, 1) := by decide +kernel
theorem dX2_init_11 : decode cX2_init 11 = .ok (.putfield 15, 3) := by decide +kernel
theorem dX2_init_14 : decode cX2_init 14 = .ok (.aload_n 0, 1) := by decide +kernel
theorem dX2_init_15 : decode cX2_init 15 = .ok (.iload_n 3, 1) := by decide +kernel
theorem dX2_init_16 : decode cX2_init 16 = .ok (.putfield 19, 3) := by decide +kernel
theorem dX2_init_19 : decode cX2_init 19 = .ok (.aload_n 0, 1) := by decide +kernel
theorem dX2_init_20 : decode cX2_init 20 = .ok (.iload 4, 2) := by decide +kernel
theorem dX2_init_22 : decode cX2_init 22 = .ok (.putfield 22, 3) := by decide +kernel
theorem dX2_init_25 : decode cX2_init 25 = .ok (.aload_n 0, 1) := by decide +kernel
theorem dX2_init_26 : decode cX2_init 26 = .ok (.iload_n 2, 1) := by decide +kernel
theorem dX2_init_27 : decode cX2_init 27 = .ok (.iconst 1, 1) := by decide +kernel
theorem dX2_init_28 : decode cX2_init 28 = .ok (.if_icmp .ne 7, 3) := by decide +kernel
theorem dX2_init_31 : decode cX2_init 31 = .ok (.iconst 0, 1) := by decide +kernel
theorem dX2_init_32 : decode cX2_init 32 = .ok (.goto 5, 3) := by decide +kernel
theorem dX2_init_35 : decode cX2_init 35 = .ok (.iload 5, 2) := by decide +kernel
theorem dX2_init_37 : decode cX2_init 37 = .ok (.putfield 25, 3) := by decide +kernel
theorem dX2_init_40 : decode cX2_init 40 = .ok (.aload_n 0, 1) := by decide +kernel
theorem dX2_init_41 : decode cX2_init 41 = .ok (.iload 6, 2) := by decide +kernel
theorem dX2_init_43 : decode cX2_init 43 = .ok (.putfield 28, 3) := by decide +kernel
theorem dX2_init_46 : decode cX2_init 46 = .ok (.return_, 1) := by decide +kernel
theorem yv_X2_init : YI yX2_init cX2_init 7 6 := ⟨kw2_114, kw1_14, kw2_115, rfl, by decide +kernel⟩
set_option maxHeartbeats 4000000 in
set_option maxRecDepth 100000 in
theorem c_X2_init {l : Launch} {D : va_G} {cy : Nat → ClassId} {w0 : va_W} {x9 q port far far0 ev : Nat} {ins : Bool} (hq : q < 256) (hport : port < 65536) (hfar : far < 2 ^ 32) (hf9 : far0 < 65536) (hev : ev ≤ 3) : WR (S := Unit) l yX2_init cX2_init 7 none 1 0 0 12 [.ref x9, .int (bI (ins)), .int (nI q), .int (nI port), .int (nI far), .int (nI far0), .int (nI ev)] D cy (w0 ++ [(x9, .inr (3, [.int 0, .int 0, .int 0, .int 0, .int 0, .int 0]))]) (fun _ => none) (fun _ => True) (fun _ => w0 ++ [fE x9 ins q port far (if q = 1 then 0 else far0) ev]) := by
  refine WRv (by decide) (lv0 := [(0, .ref x9), (1, .int (bI (ins))), (2, .int (nI q)), (3, .int (nI port)), (4, .int (nI far)), (5, .int (nI far0)), (6, .int (nI ev))]) rfl (Nat.le_of_ble_eq_true rfl) ?_
  intro p e s m args below meth c ls A Q S hnm hP hK hD hS hA hend hl
  have hx := S.1
  have hb := S.2.1
  have hown : s.vm.findClass RX2 = some m.cls := S.2.2.2.1
  have ht : ∀ w ∈ lw_g, w.before args s = true := fun w h => S.2.2.2.2 w (List.mem_cons_of_mem _ h)
  have hP : va_P D vwCl (w0 ++ [(x9, .inr (3, [.int 0, .int 0, .int 0, .int 0, .int 0, .int 0]))]) s.heap := hP
  refine lv_aload_n hx hb dX2_init_0 rfl (lv_at hl 0 rfl) ?_
  refine W.objInit hx hb hown (ht _ kw2_116) (ht _ kw1_29) (ht _ kw1_30) rfl (hl.1.trans S.2.2.1.symm) rfl dX2_init_1 (Nat.le_of_ble_eq_true rfl) (Nat.le_of_ble_eq_true rfl) ?_
  refine W.eq (g2 := F0 m 4 ls []) rfl ?_
  refine lv_aload_n hx hb dX2_init_4 rfl (lv_at hl 0 rfl) ?_
  refine lv_iload_n hx hb dX2_init_5 rfl (lv_at hl 1 rfl) ?_
  refine va_putF (ci := 3) (C := RX2) (T := TX2) (N := 6) (ty := tyX2 0) hx hb ht iFX2 tyX2 tyX2_ok nmX2 hown hK hP hD hS w0.length app_e rfl 0 (by decide) (ht _ kw2_117) (fun _ h9 => h9) rfl hnm rfl (by decide +kernel) (bI_nar _) (by cases ins <;> decide) (Nat.le_of_ble_eq_true rfl) dX2_init_6 (fun H locs hP hD hS => ?_)
  rw [app_set] at hP hD
  have hP : va_P D vwCl (w0 ++ [(x9, .inr (3, [.int (bI (ins)), .int 0, .int 0, .int 0, .int 0, .int 0]))]) H := hP
  have hD : va_D A (w0 ++ [(x9, .inr (3, [.int (bI (ins)), .int 0, .int 0, .int 0, .int 0, .int 0]))]) := hD
  refine lv_aload_n hx hb dX2_init_9 rfl (lv_at hl 0 rfl) ?_
  refine lv_iload_n hx hb dX2_init_10 rfl (lv_at hl 2 rfl) ?_
  refine va_putF (ci := 3) (C := RX2) (T := TX2) (N := 6) (ty := tyX2 1) hx hb ht iFX2 tyX2 tyX2_ok nmX2 hown hK hP hD hS w0.length app_e rfl 1 (by decide) (ht _ kw2_120) (fun _ h9 => h9) rfl hnm rfl (by decide +kernel) (by first | rfl | decide) (by first | rfl | decide) (Nat.le_of_ble_eq_true rfl) dX2_init_11 (fun H locs hP hD hS => ?_)
  rw [app_set] at hP hD
  have hP : va_P D vwCl (w0 ++ [(x9, .inr (3, [.int (bI (ins)), .int (nI q), .int 0, .int 0, .int 0, .int 0]))]) H := hP
  have hD : va_D A (w0 ++ [(x9, .inr (3, [.int (bI (ins)), .int (nI q), .int 0, .int 0, .int 0, .int 0]))]) := hD
  refine lv_aload_n hx hb dX2_init_14 rfl (lv_at hl 0 rfl) ?_
  refine lv_iload_n hx hb dX2_init_15 rfl (lv_at hl 3 rfl) ?_
  refine va_putF (ci := 3) (C := RX2) (T := TX2) (N := 6) (ty := tyX2 2) hx hb ht iFX2 tyX2 tyX2_ok nmX2 hown hK hP hD hS w0.length app_e rfl 2 (by decide) (ht _ kw2_123) (fun _ h9 => h9) rfl hnm rfl (by decide +kernel) (by first | rfl | decide) (by first | rfl | decide) (Nat.le_of_ble_eq_true rfl) dX2_init_16 (fun H locs hP hD hS => ?_)
  rw [app_set] at hP hD
  have hP : va_P D vwCl (w0 ++ [(x9, .inr (3, [.int (bI (ins)), .int (nI q), .int (nI port), .int 0, .int 0, .int 0]))]) H := hP
  have hD : va_D A (w0 ++ [(x9, .inr (3, [.int (bI (ins)), .int (nI q), .int (nI port), .int 0, .int 0, .int 0]))]) := hD
  refine lv_aload_n hx hb dX2_init_19 rfl (lv_at hl 0 rfl) ?_
  refine lv_iload hx hb dX2_init_20 (lv_at hl 4 rfl) ?_
  refine va_putF (ci := 3) (C := RX2) (T := TX2) (N := 6) (ty := tyX2 3) hx hb ht iFX2 tyX2 tyX2_ok nmX2 hown hK hP hD hS w0.length app_e rfl 3 (by decide) (ht _ kw2_127) (fun _ h9 => h9) rfl hnm rfl (by decide +kernel) (by first | rfl | decide) (by first | rfl | decide) (Nat.le_of_ble_eq_true rfl) dX2_init_22 (fun H locs hP hD hS => ?_)
  rw [app_set] at hP hD
  have hP : va_P D vwCl (w0 ++ [(x9, .inr (3, [.int (bI (ins)), .int (nI q), .int (nI port), .int (nI far), .int 0, .int 0]))]) H := hP
  have hD : va_D A (w0 ++ [(x9, .inr (3, [.int (bI (ins)), .int (nI q), .int (nI port), .int (nI far), .int 0, .int 0]))]) := hD
  refine lv_aload_n hx hb dX2_init_25 rfl (lv_at hl 0 rfl) ?_
  refine lv_iload_n hx hb dX2_init_26 rfl (lv_at hl 2 rfl) ?_
  refine nv_iconst (k := 1) hx hb dX2_init_27 rfl ?_
  have J37 : ∀ v37 : Nat, v37 = (if q = 1 then 0 else far0) → ∀ ls : Array Slot, lv_has ls 7 [(0, .ref x9), (1, .int (bI (ins))), (2, .int (nI q)), (3, .int (nI port)), (4, .int (nI far)), (5, .int (nI far0)), (6, .int (nI ev))] → W p l e (rmw 1 0 0 12) s m args below meth c H locs 0 0 Q (F0 m 37 ls [.int (nI v37), .ref x9]) := by
    intro v37 hv37 ls hl
    refine va_putF (ci := 3) (C := RX2) (T := TX2) (N := 6) (ty := tyX2 4) hx hb ht iFX2 tyX2 tyX2_ok nmX2 hown hK hP hD hS w0.length app_e rfl 4 (by decide) (ht _ kw2_131) (fun _ h9 => h9) rfl hnm rfl (by decide +kernel) (by first | rfl | decide) (by first | rfl | decide) (Nat.le_of_ble_eq_true rfl) dX2_init_37 (fun H locs hP hD hS => ?_)
    rw [app_set] at hP hD
    have hP : va_P D vwCl (w0 ++ [(x9, .inr (3, [.int (bI (ins)), .int (nI q), .int (nI port), .int (nI far), .int (nI v37), .int 0]))]) H := hP
    have hD : va_D A (w0 ++ [(x9, .inr (3, [.int (bI (ins)), .int (nI q), .int (nI port), .int (nI far), .int (nI v37), .int 0]))]) := hD
    refine lv_aload_n hx hb dX2_init_40 rfl (lv_at hl 0 rfl) ?_
    refine lv_iload hx hb dX2_init_41 (lv_at hl 6 rfl) ?_
    refine va_putF (ci := 3) (C := RX2) (T := TX2) (N := 6) (ty := tyX2 5) hx hb ht iFX2 tyX2 tyX2_ok nmX2 hown hK hP hD hS w0.length app_e rfl 5 (by decide) (ht _ kw2_133) (fun _ h9 => h9) rfl hnm rfl (by decide +kernel) (by first | rfl | decide) (by first | rfl | decide) (Nat.le_of_ble_eq_true rfl) dX2_init_43 (fun H locs hP hD hS => ?_)
    rw [app_set] at hP hD
    have hP : va_P D vwCl (w0 ++ [(x9, .inr (3, [.int (bI (ins)), .int (nI q), .int (nI port), .int (nI far), .int (nI v37), .int (nI ev)]))]) H := hP
    have hD : va_D A (w0 ++ [(x9, .inr (3, [.int (bI (ins)), .int (nI q), .int (nI port), .int (nI far), .int (nI v37), .int (nI ev)]))]) := hD
    rw [hv37] at hP hD
    exact hend () trivial hP hD hS dX2_init_46
  refine nv_icmp_ne (tgt := 35) hx hb dX2_init_28 (by decide) (by omega) (by omega) (fun h28 => ?_) (fun h28 => ?_)
  · skip
    refine lv_iload hx hb dX2_init_35 (lv_at hl 5 rfl) ?_
    exact J37 (far0) (by split <;> omega) ls (lv_sub hl [0, 1, 2, 3, 4, 5, 6] rfl)
  refine nv_iconst (k := 0) hx hb dX2_init_31 rfl ?_
  refine lv_goto (tgt := 37) hx hb dX2_init_32 (by decide) ?_
  exact J37 (0) (by split <;> omega) ls (lv_sub hl [0, 1, 2, 3, 4, 5, 6] rfl)
theorem dX0_init_0 : decode cX0_init 0 = .ok (.aload_n 0, 1) := by decide +kernel
theorem dX0_init_1 : decode cX0_init 1 = .ok (.invokespecial 1, 3) := by decide +kernel
theorem dX0_init_4 : decode cX0_init 4 = .ok (.aload_n 0, 1) := by decide +kernel
theorem dX0_init_5 : decode cX0_init 5 = .ok (.aload_n 1, 1) := by decide +kernel
theorem dX0_init_6 : decode cX0_init 6 = .ok (.getfield 7, 3) := by decide +kernel
theorem dX0_init_9 : decode cX0_init 9 = .ok (.putfield 13, 3) := by decide +kernel
theorem dX0_init_12 : decode cX0_init 12 = .ok (.aload_n 0, 1) := by decide +kernel
theorem dX0_init_13 : decode cX0_init 13 = .ok (.lload_n 2, 1) := by decide +kernel
theorem dX0_init_14 : decode cX0_init 14 = .ok (.putfield 16, 3) := by decide +kernel
theorem dX0_init_17 : decode cX0_init 17 = .ok (.aload_n 0, 1) := by decide +kernel
theorem dX0_init_18 : decode cX0_init 18 = .ok (.lload 4, 2) := by decide +kernel
theorem dX0_init_20 : decode cX0_init 20 = .ok (.putfield 20, 3) := by decide +kernel
theorem dX0_init_23 : decode cX0_init 23 = .ok (.aload_n 0, 1) := by decide +kernel
theorem dX0_init_24 : decode cX0_init 24 = .ok (.aload_n 1, 1) := by decide +kernel
theorem dX0_init_25 : decode cX0_init 25 = .ok (.getfield 23, 3) := by decide +kernel
theorem dX0_init_28 : decode cX0_init 28 = .ok (.putfield 26, 3) := by decide +kernel
theorem dX0_init_31 : decode cX0_init 31 = .ok (.aload_n 0, 1) := by decide +kernel
theorem dX0_init_32 : decode cX0_init 32 = .ok (.iload 6, 2) := by decide +kernel
theorem dX0_init_34 : decode cX0_init 34 = .ok (.putfield 29, 3) := by decide +kernel
theorem dX0_init_37 : decode cX0_init 37 = .ok (.aload_n 0, 1) := by decide +kernel
theorem dX0_init_38 : decode cX0_init 38 = .ok (.iload 7, 2) := by decide +kernel
theorem dX0_init_40 : decode cX0_init 40 = .ok (.putfield 32, 3) := by decide +kernel
theorem dX0_init_43 : decode cX0_init 43 = .ok (.return_, 1) := by decide +kernel
theorem yv_X0_init : YI yX0_init cX0_init 8 5 := ⟨kw2_230, kw1_18, kw2_231, rfl, by decide +kernel⟩
set_option maxHeartbeats 4000000 in
set_option maxRecDepth 100000 in
theorem c_X0_init {l : Launch} {D : va_G} {cy : Nat → ClassId} {w0 : va_W} {x9 : Nat} {kf fl q port far fpt ev : Nat} {ins : Bool} (hf0 : w0[kf]? = some (fE fl ins q port far fpt ev)) (hq : q < 256) (hport : port < 65536) (hfar : far < 2 ^ 32) (hfpt : fpt < 65536) (hev : ev ≤ 3) {hi lo num v : Nat} : WR (S := Unit) l yX0_init cX0_init 8 none 1 0 0 12 [.ref x9, .ref fl, .long (lN (hi)), .long (lN (lo)), .int (nI num), .int (nI v)] D cy (w0 ++ [(x9, .inr (1, [.int 0, .long 0, .long 0, .int 0, .int 0, .int 0]))]) (fun _ => none) (fun _ => True) (fun _ => w0 ++ [bE x9 q hi lo port num v]) := by
  refine WRv (by decide) (lv0 := [(0, .ref x9), (1, .ref fl), (2, .long (lN (hi))), (4, .long (lN (lo))), (6, .int (nI num)), (7, .int (nI v))]) rfl (Nat.le_of_ble_eq_true rfl) ?_
  intro p e s m args below meth c ls A Q S hnm hP hK hD hS hA hend hl
  have hx := S.1
  have hb := S.2.1
  have hown : s.vm.findClass RX0 = some m.cls := S.2.2.2.1
  have ht : ∀ w ∈ lw_g, w.before args s = true := fun w h => S.2.2.2.2 w (List.mem_cons_of_mem _ h)
  have hP : va_P D vwCl (w0 ++ [(x9, .inr (1, [.int 0, .long 0, .long 0, .int 0, .int 0, .int 0]))]) s.heap := hP
  refine lv_aload_n hx hb dX0_init_0 rfl (lv_at hl 0 rfl) ?_
  refine W.objInit hx hb hown (ht _ kw2_232) (ht _ kw1_29) (ht _ kw1_30) rfl (hl.1.trans S.2.2.1.symm) rfl dX0_init_1 (Nat.le_of_ble_eq_true rfl) (Nat.le_of_ble_eq_true rfl) ?_
  refine W.eq (g2 := F0 m 4 ls []) rfl ?_
  refine lv_aload_n hx hb dX0_init_4 rfl (lv_at hl 0 rfl) ?_
  refine lv_aload_n hx hb dX0_init_5 rfl (lv_at hl 1 rfl) ?_
  refine va_get (ci := 3) (C := RX2) (T := TX2) (N := 6) hx hb ht iFX2 hown hK hP kf (app_l hf0) rfl 1 (by decide) (ht _ kw2_119) (fun _ h9 => h9) rfl dX0_init_6 ?_
  refine va_putF (ci := 1) (C := RX0) (T := TX0) (N := 6) (ty := tyX0 0) hx hb ht iFX0 tyX0 tyX0_ok nmX0 hown hK hP hD hS w0.length app_e rfl 0 (by decide) (ht _ kw2_233) (fun _ h9 => h9) rfl hnm rfl (by decide +kernel) (by first | rfl | decide) (by first | rfl | decide) (Nat.le_of_ble_eq_true rfl) dX0_init_9 (fun H locs hP hD hS => ?_)
  rw [app_set] at hP hD
  have hP : va_P D vwCl (w0 ++ [(x9, .inr (1, [.int (nI q), .long 0, .long 0, .int 0, .int 0, .int 0]))]) H := hP
  have hD : va_D A (w0 ++ [(x9, .inr (1, [.int (nI q), .long 0, .long 0, .int 0, .int 0, .int 0]))]) := hD
  refine lv_aload_n hx hb dX0_init_12 rfl (lv_at hl 0 rfl) ?_
  refine lv_lload_n hx hb dX0_init_13 rfl (lv_at hl 2 rfl) ?_
  refine va_putF (ci := 1) (C := RX0) (T := TX0) (N := 6) (ty := tyX0 1) hx hb ht iFX0 tyX0 tyX0_ok nmX0 hown hK hP hD hS w0.length app_e rfl 1 (by decide) (ht _ kw2_237) (fun _ h9 => h9) rfl hnm rfl (by decide +kernel) (by first | rfl | decide) (by first | rfl | decide) (Nat.le_of_ble_eq_true rfl) dX0_init_14 (fun H locs hP hD hS => ?_)
  rw [app_set] at hP hD
  have hP : va_P D vwCl (w0 ++ [(x9, .inr (1, [.int (nI q), .long (lN (hi)), .long 0, .int 0, .int 0, .int 0]))]) H := hP
  have hD : va_D A (w0 ++ [(x9, .inr (1, [.int (nI q), .long (lN (hi)), .long 0, .int 0, .int 0, .int 0]))]) := hD
  refine lv_aload_n hx hb dX0_init_17 rfl (lv_at hl 0 rfl) ?_
  refine lv_lload hx hb dX0_init_18 (lv_at hl 3 rfl) ?_
  refine va_putF (ci := 1) (C := RX0) (T := TX0) (N := 6) (ty := tyX0 2) hx hb ht iFX0 tyX0 tyX0_ok nmX0 hown hK hP hD hS w0.length app_e rfl 2 (by decide) (ht _ kw3_0) (fun _ h9 => h9) rfl hnm rfl (by decide +kernel) (by first | rfl | decide) (by first | rfl | decide) (Nat.le_of_ble_eq_true rfl) dX0_init_20 (fun H locs hP hD hS => ?_)
  rw [app_set] at hP hD
  have hP : va_P D vwCl (w0 ++ [(x9, .inr (1, [.int (nI q), .long (lN (hi)), .long (lN (lo)), .int 0, .int 0, .int 0]))]) H := hP
  have hD : va_D A (w0 ++ [(x9, .inr (1, [.int (nI q), .long (lN (hi)), .long (lN (lo)), .int 0, .int 0, .int 0]))]) := hD
  refine lv_aload_n hx hb dX0_init_23 rfl (lv_at hl 0 rfl) ?_
  refine lv_aload_n hx hb dX0_init_24 rfl (lv_at hl 1 rfl) ?_
  refine va_get (ci := 3) (C := RX2) (T := TX2) (N := 6) hx hb ht iFX2 hown hK hP kf (app_l hf0) rfl 2 (by decide) (ht _ kw2_124) (fun _ h9 => h9) rfl dX0_init_25 ?_
  refine va_putF (ci := 1) (C := RX0) (T := TX0) (N := 6) (ty := tyX0 3) hx hb ht iFX0 tyX0 tyX0_ok nmX0 hown hK hP hD hS w0.length app_e rfl 3 (by decide) (ht _ kw3_3) (fun _ h9 => h9) rfl hnm rfl (by decide +kernel) (by first | rfl | decide) (by first | rfl | decide) (Nat.le_of_ble_eq_true rfl) dX0_init_28 (fun H locs hP hD hS => ?_)
  rw [app_set] at hP hD
  have hP : va_P D vwCl (w0 ++ [(x9, .inr (1, [.int (nI q), .long (lN (hi)), .long (lN (lo)), .int (nI port), .int 0, .int 0]))]) H := hP
  have hD : va_D A (w0 ++ [(x9, .inr (1, [.int (nI q), .long (lN (hi)), .long (lN (lo)), .int (nI port), .int 0, .int 0]))]) := hD
  refine lv_aload_n hx hb dX0_init_31 rfl (lv_at hl 0 rfl) ?_
  refine lv_iload hx hb dX0_init_32 (lv_at hl 4 rfl) ?_
  refine va_putF (ci := 1) (C := RX0) (T := TX0) (N := 6) (ty := tyX0 4) hx hb ht iFX0 tyX0 tyX0_ok nmX0 hown hK hP hD hS w0.length app_e rfl 4 (by decide) (ht _ kw3_7) (fun _ h9 => h9) rfl hnm rfl (by decide +kernel) (by first | rfl | decide) (by first | rfl | decide) (Nat.le_of_ble_eq_true rfl) dX0_init_34 (fun H locs hP hD hS => ?_)
  rw [app_set] at hP hD
  have hP : va_P D vwCl (w0 ++ [(x9, .inr (1, [.int (nI q), .long (lN (hi)), .long (lN (lo)), .int (nI port), .int (nI num), .int 0]))]) H := hP
  have hD : va_D A (w0 ++ [(x9, .inr (1, [.int (nI q), .long (lN (hi)), .long (lN (lo)), .int (nI port), .int (nI num), .int 0]))]) := hD
  refine lv_aload_n hx hb dX0_init_37 rfl (lv_at hl 0 rfl) ?_
  refine lv_iload hx hb dX0_init_38 (lv_at hl 5 rfl) ?_
  refine va_putF (ci := 1) (C := RX0) (T := TX0) (N := 6) (ty := tyX0 5) hx hb ht iFX0 tyX0 tyX0_ok nmX0 hown hK hP hD hS w0.length app_e rfl 5 (by decide) (ht _ kw3_10) (fun _ h9 => h9) rfl hnm rfl (by decide +kernel) (by first | rfl | decide) (by first | rfl | decide) (Nat.le_of_ble_eq_true rfl) dX0_init_40 (fun H locs hP hD hS => ?_)
  rw [app_set] at hP hD
  have hP : va_P D vwCl (w0 ++ [(x9, .inr (1, [.int (nI q), .long (lN (hi)), .long (lN (lo)), .int (nI port), .int (nI num), .int (nI v)]))]) H := hP
  have hD : va_D A (w0 ++ [(x9, .inr (1, [.int (nI q), .long (lN (hi)), .long (lN (lo)), .int (nI port), .int (nI num), .int (nI v)]))]) := hD
  exact hend () trivial hP hD hS dX0_init_43
theorem dX7_init_0 : decode cX7_init 0 = .ok (.aload_n 0, 1) := by decide +kernel
theorem dX7_init_1 : decode cX7_init 1 = .ok (.invokespecial 3, 3) := by decide +kernel
theorem dX7_init_4 : decode cX7_init 4 = .ok (.aload_n 0, 1) := by decide +kernel
theorem dX7_init_5 : decode cX7_init 5 = .ok (.aload_n 1, 1) := by decide +kernel
theorem dX7_init_6 : decode cX7_init 6 = .ok (.putfield 9, 3) := by decide +kernel
theorem dX7_init_9 : decode cX7_init 9 = .ok (.aload_n 0, 1) := by decide +kernel
theorem dX7_init_10 : decode cX7_init 10 = .ok (.aload_n 2, 1) := by decide +kernel
theorem dX7_init_11 : decode cX7_init 11 = .ok (.getfield 15, 3) := by decide +kernel
theorem dX7_init_14 : decode cX7_init 14 = .ok (.putfield 21, 3) := by decide +kernel
theorem dX7_init_17 : decode cX7_init 17 = .ok (.aload_n 0, 1) := by decide +kernel
theorem dX7_init_18 : decode cX7_init 18 = .ok (.aload_n 2, 1) := by decide +kernel
theorem dX7_init_19 : decode cX7_init 19 = .ok (.getfield 22, 3) := by decide +kernel
theorem dX7_init_22 : decode cX7_init 22 = .ok (.putfield 25, 3) := by decide +kernel
theorem dX7_init_25 : decode cX7_init 25 = .ok (.aload_n 0, 1) := by decide +kernel
theorem dX7_init_26 : decode cX7_init 26 = .ok (.aload_n 2, 1) := by decide +kernel
theorem dX7_init_27 : decode cX7_init 27 = .ok (.invokestatic 26, 3) := by decide +kernel
theorem dX7_init_30 : decode cX7_init 30 = .ok (.putfield 30, 3) := by decide +kernel
theorem dX7_init_33 : decode cX7_init 33 = .ok (.aload_n 0, 1) := by decide +kernel
theorem dX7_init_34 : decode cX7_init 34 = .ok (.lload_n 3, 1) := by decide +kernel
theorem dX7_init_35 : decode cX7_init 35 = .ok (.aload_n 0, 1) := by decide +kernel
theorem dX7_init_36 : decode cX7_init 36 = .ok (.getfield 30, 3) := by decide +kernel
theorem dX7_init_39 : decode cX7_init 39 = .ok (.aload_n 2, 1) := by decide +kernel
theorem dX7_init_40 : decode cX7_init 40 = .ok (.getfield 33, 3) := by decide +kernel
theorem dX7_init_43 : decode cX7_init 43 = .ok (.invokestatic 36, 3) := by decide +kernel
theorem dX7_init_46 : decode cX7_init 46 = .ok (.i2l, 1) := by decide +kernel
theorem dX7_init_47 : decode cX7_init 47 = .ok (.ladd, 1) := by decide +kernel
theorem dX7_init_48 : decode cX7_init 48 = .ok (.putfield 40, 3) := by decide +kernel
theorem dX7_init_51 : decode cX7_init 51 = .ok (.return_, 1) := by decide +kernel
theorem yv_X7_init : YI yX7_init cX7_init 5 3 := ⟨kw3_81, kw1_17, kw3_82, rfl, by decide +kernel⟩
set_option maxHeartbeats 4000000 in
set_option maxRecDepth 100000 in
theorem c_X7_init {l : Launch} {D : va_G} {cy : Nat → ClassId} {w0 : va_W} {x9 : Nat} {kf fl q port far fpt ev : Nat} {ins : Bool} (hf0 : w0[kf]? = some (fE fl ins q port far fpt ev)) (hq : q < 256) (hport : port < 65536) (hfar : far < 2 ^ 32) (hfpt : fpt < 65536) (hev : ev ≤ 3) {ow T : Nat} : WR (S := Unit) l yX7_init cX7_init 5 none 1 0 0 21 [.ref x9, .ref ow, .ref fl, .long (lN (T))] D cy (w0 ++ [(x9, .inr (5, [.null, .int 0, .int 0, .int 0, .long 0]))]) (fun _ => none) (fun _ => True) (fun _ => w0 ++ [sE x9 ow far fpt (tg_first_st q ins) (T + tg_life (tg_first_st q ins) q)]) := by
  refine WRv (by decide) (lv0 := [(0, .ref x9), (1, .ref ow), (2, .ref fl), (3, .long (lN (T)))]) rfl (Nat.le_of_ble_eq_true rfl) ?_
  intro p e s m args below meth c ls A Q S hnm hP hK hD hS hA hend hl
  have hx := S.1
  have hb := S.2.1
  have hown : s.vm.findClass RX7 = some m.cls := S.2.2.2.1
  have ht : ∀ w ∈ lw_g, w.before args s = true := fun w h => S.2.2.2.2 w (List.mem_cons_of_mem _ h)
  have hP : va_P D vwCl (w0 ++ [(x9, .inr (5, [.null, .int 0, .int 0, .int 0, .long 0]))]) s.heap := hP
  refine lv_aload_n hx hb dX7_init_0 rfl (lv_at hl 0 rfl) ?_
  refine W.objInit hx hb hown (ht _ kw3_83) (ht _ kw1_29) (ht _ kw1_30) rfl (hl.1.trans S.2.2.1.symm) rfl dX7_init_1 (Nat.le_of_ble_eq_true rfl) (Nat.le_of_ble_eq_true rfl) ?_
  refine W.eq (g2 := F0 m 4 ls []) rfl ?_
  refine lv_aload_n hx hb dX7_init_4 rfl (lv_at hl 0 rfl) ?_
  refine lv_aload_n hx hb dX7_init_5 rfl (lv_at hl 1 rfl) ?_
  refine va_putF (ci := 5) (C := RX7) (T := TX7) (N := 5) (ty := tyX7 0) hx hb ht iFX7 tyX7 tyX7_ok nmX7 hown hK hP hD hS w0.length app_e rfl 0 (by decide) (ht _ kw3_87) (fun _ h9 => h9) rfl hnm rfl (by decide +kernel) (by first | rfl | decide) (by first | rfl | decide) (Nat.le_of_ble_eq_true rfl) dX7_init_6 (fun H locs hP hD hS => ?_)
  rw [app_set] at hP hD
  have hP : va_P D vwCl (w0 ++ [(x9, .inr (5, [.ref ow, .int 0, .int 0, .int 0, .long 0]))]) H := hP
  have hD : va_D A (w0 ++ [(x9, .inr (5, [.ref ow, .int 0, .int 0, .int 0, .long 0]))]) := hD
  refine lv_aload_n hx hb dX7_init_9 rfl (lv_at hl 0 rfl) ?_
  refine lv_aload_n hx hb dX7_init_10 rfl (lv_at hl 2 rfl) ?_
  refine va_get (ci := 3) (C := RX2) (T := TX2) (N := 6) hx hb ht iFX2 hown hK hP kf (app_l hf0) rfl 3 (by decide) (ht _ kw2_126) (fun _ h9 => h9) rfl dX7_init_11 ?_
  refine va_putF (ci := 5) (C := RX7) (T := TX7) (N := 5) (ty := tyX7 1) hx hb ht iFX7 tyX7 tyX7_ok nmX7 hown hK hP hD hS w0.length app_e rfl 1 (by decide) (ht _ kw3_90) (fun _ h9 => h9) rfl hnm rfl (by decide +kernel) (by first | rfl | decide) (by first | rfl | decide) (Nat.le_of_ble_eq_true rfl) dX7_init_14 (fun H locs hP hD hS => ?_)
  rw [app_set] at hP hD
  have hP : va_P D vwCl (w0 ++ [(x9, .inr (5, [.ref ow, .int (nI far), .int 0, .int 0, .long 0]))]) H := hP
  have hD : va_D A (w0 ++ [(x9, .inr (5, [.ref ow, .int (nI far), .int 0, .int 0, .long 0]))]) := hD
  refine lv_aload_n hx hb dX7_init_17 rfl (lv_at hl 0 rfl) ?_
  refine lv_aload_n hx hb dX7_init_18 rfl (lv_at hl 2 rfl) ?_
  refine va_get (ci := 3) (C := RX2) (T := TX2) (N := 6) hx hb ht iFX2 hown hK hP kf (app_l hf0) rfl 4 (by decide) (ht _ kw2_130) (fun _ h9 => h9) rfl dX7_init_19 ?_
  refine va_putF (ci := 5) (C := RX7) (T := TX7) (N := 5) (ty := tyX7 2) hx hb ht iFX7 tyX7 tyX7_ok nmX7 hown hK hP hD hS w0.length app_e rfl 2 (by decide) (ht _ kw3_93) (fun _ h9 => h9) rfl hnm rfl (by decide +kernel) (by first | rfl | decide) (by first | rfl | decide) (Nat.le_of_ble_eq_true rfl) dX7_init_22 (fun H locs hP hD hS => ?_)
  rw [app_set] at hP hD
  have hP : va_P D vwCl (w0 ++ [(x9, .inr (5, [.ref ow, .int (nI far), .int (nI fpt), .int 0, .long 0]))]) H := hP
  have hD : va_D A (w0 ++ [(x9, .inr (5, [.ref ow, .int (nI far), .int (nI fpt), .int 0, .long 0]))]) := hD
  refine lv_aload_n hx hb dX7_init_25 rfl (lv_at hl 0 rfl) ?_
  refine lv_aload_n hx hb dX7_init_26 rfl (lv_at hl 2 rfl) ?_
  refine ro_S S (c_X7_firstState (app_l hf0) hq hport hev) kw3_84 yv_X7_firstState ⟨Nat.le_of_ble_eq_true rfl, Nat.le_of_ble_eq_true rfl⟩ hK hP rfl hl.1 rfl (Nat.le_of_ble_eq_true rfl) dX7_init_27 ⟨(Nat.zero_le _), (Nat.zero_le _)⟩ ?_
  have hfs9 : tg_first_st q ins ≤ 2 := by unfold tg_first_st; (repeat' split) <;> omega
  refine va_put (ci := 5) (C := RX7) (T := TX7) (N := 5) (ty := tyX7 3) hx hb ht iFX7 tyX7 tyX7_ok nmX7 hown hK hP hD hS w0.length app_e rfl 3 (by decide) (ht _ kw3_96) (fun _ h9 => h9) rfl (by decide +kernel) (by first | rfl | decide) (by first | rfl | decide) (Nat.le_of_ble_eq_true rfl) dX7_init_30 (fun H locs hP hD hS => ?_)
  rw [app_set] at hP hD
  have hP : va_P D vwCl (w0 ++ [(x9, .inr (5, [.ref ow, .int (nI far), .int (nI fpt), .int (nI (tg_first_st q ins)), .long 0]))]) H := hP
  have hD : va_D A (w0 ++ [(x9, .inr (5, [.ref ow, .int (nI far), .int (nI fpt), .int (nI (tg_first_st q ins)), .long 0]))]) := hD
  refine lv_aload_n hx hb dX7_init_33 rfl (lv_at hl 0 rfl) ?_
  refine lv_lload_n hx hb dX7_init_34 rfl (lv_at hl 3 rfl) ?_
  refine lv_aload_n hx hb dX7_init_35 rfl (lv_at hl 0 rfl) ?_
  refine va_get (ci := 5) (C := RX7) (T := TX7) (N := 5) hx hb ht iFX7 hown hK hP w0.length app_e rfl 3 (by decide) (ht _ kw3_96) (fun _ h9 => h9) rfl dX7_init_36 ?_
  refine lv_aload_n hx hb dX7_init_39 rfl (lv_at hl 2 rfl) ?_
  refine va_get (ci := 3) (C := RX2) (T := TX2) (N := 6) hx hb ht iFX2 hown hK hP kf (app_l hf0) rfl 1 (by decide) (ht _ kw2_121) (fun _ h9 => h9) rfl dX7_init_40 ?_
  refine ro_S S (c_X7_lifetime (s9 := tg_first_st q ins) (q := q) (by omega) (by omega) (by omega)) kw2_194 yv_X7_lifetime ⟨Nat.le_of_ble_eq_true rfl, Nat.le_of_ble_eq_true rfl⟩ hK hP rfl hl.1 rfl (Nat.le_of_ble_eq_true rfl) dX7_init_43 ⟨(Nat.zero_le _), (Nat.zero_le _)⟩ ?_
  have hq43 := tg_life_le (tg_first_st q ins) q
  refine nv_i2l hx hb (by omega) dX7_init_46 ?_
  refine nv_ladd hx hb dX7_init_47 ?_
  refine va_put (ci := 5) (C := RX7) (T := TX7) (N := 5) (ty := tyX7 4) hx hb ht iFX7 tyX7 tyX7_ok nmX7 hown hK hP hD hS w0.length app_e rfl 4 (by decide) (ht _ kw3_98) (fun _ h9 => h9) rfl (by decide +kernel) (by first | rfl | decide) (by first | rfl | decide) (Nat.le_of_ble_eq_true rfl) dX7_init_48 (fun H locs hP hD hS => ?_)
  rw [app_set] at hP hD
  have hP : va_P D vwCl (w0 ++ [(x9, .inr (5, [.ref ow, .int (nI far), .int (nI fpt), .int (nI (tg_first_st q ins)), .long (lN (T + (tg_life (tg_first_st q ins) q)))]))]) H := hP
  have hD : va_D A (w0 ++ [(x9, .inr (5, [.ref ow, .int (nI far), .int (nI fpt), .int (nI (tg_first_st q ins)), .long (lN (T + (tg_life (tg_first_st q ins) q)))]))]) := hD
  exact hend () trivial hP hD hS dX7_init_51
theorem dX7_meet_0 : decode cX7_meet 0 = .ok (.aload_n 0, 1) := by decide +kernel
theorem dX7_meet_1 : decode cX7_meet 1 = .ok (.aload_n 1, 1) := by decide +kernel
theorem dX7_meet_2 : decode cX7_meet 2 = .ok (.getfield 44, 3) := by decide +kernel
theorem dX7_meet_5 : decode cX7_meet 5 = .ok (.aload_n 1, 1) := by decide +kernel
theorem dX7_meet_6 : decode cX7_meet 6 = .ok (.getfield 47, 3) := by decide +kernel
theorem dX7_meet_9 : decode cX7_meet 9 = .ok (.invokevirtual 51, 3) := by decide +kernel
theorem dX7_meet_12 : decode cX7_meet 12 = .ok (.istore 4, 2) := by decide +kernel
theorem dX7_meet_14 : decode cX7_meet 14 = .ok (.iload 4, 2) := by decide +kernel
theorem dX7_meet_16 : decode cX7_meet 16 = .ok (.iconst (-1), 1) := by decide +kernel
theorem dX7_meet_17 : decode cX7_meet 17 = .ok (.if_icmp .eq 25, 3) := by decide +kernel
theorem dX7_meet_20 : decode cX7_meet 20 = .ok (.aload_n 0, 1) := by decide +kernel
theorem dX7_meet_21 : decode cX7_meet 21 = .ok (.iload 4, 2) := by decide +kernel
theorem dX7_meet_23 : decode cX7_meet 23 = .ok (.putfield 30, 3) := by decide +kernel
theorem dX7_meet_26 : decode cX7_meet 26 = .ok (.aload_n 0, 1) := by decide +kernel
theorem dX7_meet_27 : decode cX7_meet 27 = .ok (.lload_n 2, 1) := by decide +kernel
theorem dX7_meet_28 : decode cX7_meet 28 = .ok (.iload 4, 2) := by decide +kernel
theorem dX7_meet_30 : decode cX7_meet 30 = .ok (.aload_n 1, 1) := by decide +kernel
theorem dX7_meet_31 : decode cX7_meet 31 = .ok (.getfield 33, 3) := by decide +kernel
theorem dX7_meet_34 : decode cX7_meet 34 = .ok (.invokestatic 36, 3) := by decide +kernel
theorem dX7_meet_37 : decode cX7_meet 37 = .ok (.i2l, 1) := by decide +kernel
theorem dX7_meet_38 : decode cX7_meet 38 = .ok (.ladd, 1) := by decide +kernel
theorem dX7_meet_39 : decode cX7_meet 39 = .ok (.putfield 40, 3) := by decide +kernel
theorem dX7_meet_42 : decode cX7_meet 42 = .ok (.return_, 1) := by decide +kernel
theorem yv_X7_meet : YV RX7 yX7_meet cX7_meet 5 none 2 := ⟨kw2_186, kw2_187, kw1_17, kw2_188, by decide +kernel⟩
set_option maxHeartbeats 4000000 in
set_option maxRecDepth 100000 in
theorem c_X7_meet {l : Launch} {D : va_G} {cy : Nat → ClassId} {ws : va_W} {kss ss ow fa fp st en : Nat} (hss : ws[kss]? = some (sE ss ow fa fp st en)) (hst7 : st ≤ 7) {kf fl q port far fpt ev : Nat} {ins : Bool} (hf0 : ws[kf]? = some (fE fl ins q port far fpt ev)) (hq : q < 256) (hport : port < 65536) (hfar : far < 2 ^ 32) (hfpt : fpt < 65536) (hev : ev ≤ 3) {T : Nat} : WR (S := Unit) l yX7_meet cX7_meet 5 none 1 0 0 22 [.ref ss, .ref fl, .long (lN (T))] D cy ws (fun _ => none) (fun _ => True) (fun _ => ws.set kss (sE ss ow fa fp (if tg_nxt st ev ins = 8 then st else tg_nxt st ev ins) (if tg_nxt st ev ins = 8 then en else T + tg_life (tg_nxt st ev ins) q))) := by
  refine WRv (by decide) (lv0 := [(0, .ref ss), (1, .ref fl), (2, .long (lN (T)))]) rfl (Nat.le_of_ble_eq_true rfl) ?_
  intro p e s m args below meth c ls A Q S hnm hP hK hD hS hA hend hl
  have hx := S.1
  have hb := S.2.1
  have hown : s.vm.findClass RX7 = some m.cls := S.2.2.2.1
  have ht : ∀ w ∈ lw_g, w.before args s = true := fun w h => S.2.2.2.2 w (List.mem_cons_of_mem _ h)
  have hP : va_P D vwCl (ws.set kss (sE ss ow fa fp st en)) s.heap := by rw [lst_same hss]; exact hP
  have hD : va_D A (ws.set kss (sE ss ow fa fp st en)) := by rw [lst_same hss]; exact hD
  refine lv_aload_n hx hb dX7_meet_0 rfl (lv_at hl 0 rfl) ?_
  refine lv_aload_n hx hb dX7_meet_1 rfl (lv_at hl 1 rfl) ?_
  refine va_get (ci := 3) (C := RX2) (T := TX2) (N := 6) hx hb ht iFX2 hown hK hP kf ((List.getElem?_set_ne (lst_ne hss hf0 (by intro h9; injection h9 with _ h8; injection h8 with h7; injection h7 with h6; cases h6))).trans hf0) rfl 5 (by decide) (ht _ kw2_134) (fun _ h9 => h9) rfl dX7_meet_2 ?_
  refine lv_aload_n hx hb dX7_meet_5 rfl (lv_at hl 1 rfl) ?_
  refine va_get (ci := 3) (C := RX2) (T := TX2) (N := 6) hx hb ht iFX2 hown hK hP kf ((List.getElem?_set_ne (lst_ne hss hf0 (by intro h9; injection h9 with _ h8; injection h8 with h7; injection h7 with h6; cases h6))).trans hf0) rfl 0 (by decide) (ht _ kw2_118) (fun _ h9 => h9) rfl dX7_meet_6 ?_
  refine ro_V S (c_X7_stateAfter (kss := kss) (List.getElem?_set_self (lst_lt hss)) (by omega) (ev := ev) (ins := ins) hev) kw2_189 yv_X7_stateAfter ⟨Nat.le_of_ble_eq_true rfl, Nat.le_of_ble_eq_true rfl⟩ hK hP (va_recv hK hP (ci := 5) (q0 := kss) rfl (List.getElem?_set_self (lst_lt hss))) rfl hl.1 rfl (Nat.le_of_ble_eq_true rfl) dX7_meet_9 ⟨(Nat.zero_le _), (Nat.zero_le _)⟩ ?_
  obtain ⟨nx, hnx⟩ : ∃ z, z = tg_nxt st ev ins := ⟨_, rfl⟩
  rw [← hnx]
  have hn8 : nx ≤ 8 := by rw [hnx]; unfold tg_nxt; (repeat' split) <;> omega
  by_cases hx8 : nx = 8
  · have e8 : tg_nr nx = -1 := if_pos hx8
    rw [e8]
    have hlft : True := trivial
    refine lv_istore (lv' := [(4, .int (-1)), (0, .ref ss), (1, .ref fl), (2, .long (lN (T)))]) hx hb dX7_meet_12 hl (by decide) rfl (fun ls hl => ?_)
    refine lv_iload hx hb dX7_meet_14 (lv_at hl 0 rfl) ?_
    refine lv_iconst (v := -1) hx hb dX7_meet_16 (by decide) ?_
    refine lv_icmp_eq (tgt := 42) hx hb dX7_meet_17 (by decide) (fun _ => ?_) (fun h9 => absurd rfl h9)
    exact hend () trivial (by rw [← hnx, if_pos hx8, if_pos hx8]; exact hP) (by rw [← hnx, if_pos hx8, if_pos hx8]; exact hD) hS dX7_meet_42
  have e8 : tg_nr nx = nI nx := if_neg hx8
  rw [e8]
  refine lv_istore (lv' := [(4, .int (nI nx)), (0, .ref ss), (1, .ref fl), (2, .long (lN (T)))]) hx hb dX7_meet_12 hl (by decide) rfl (fun ls hl => ?_)
  refine lv_iload hx hb dX7_meet_14 (lv_at hl 0 rfl) ?_
  refine lv_iconst (v := -1) hx hb dX7_meet_16 (by decide) ?_
  refine lv_icmp_eq (tgt := 42) hx hb dX7_meet_17 (by decide) (fun h9 => absurd h9 (nI_m1 (by omega))) (fun _ => ?_)
  refine lv_aload_n hx hb dX7_meet_20 rfl (lv_at hl 1 rfl) ?_
  refine lv_iload hx hb dX7_meet_21 (lv_at hl 0 rfl) ?_
  refine va_put (ci := 5) (C := RX7) (T := TX7) (N := 5) (ty := tyX7 3) hx hb ht iFX7 tyX7 tyX7_ok nmX7 hown hK hP hD hS kss (List.getElem?_set_self (lst_lt hss)) rfl 3 (by decide) (ht _ kw3_96) (fun _ h9 => h9) rfl (by decide +kernel) (by first | rfl | decide) (by first | rfl | decide) (Nat.le_of_ble_eq_true rfl) dX7_meet_23 (fun H locs hP hD hS => ?_)
  rw [List.set_set] at hP hD
  have hP : va_P D vwCl (ws.set kss (ss, .inr (5, [.ref ow, .int (nI fa), .int (nI fp), .int (nI nx), .long (lN (en))]))) H := hP
  have hD : va_D A (ws.set kss (ss, .inr (5, [.ref ow, .int (nI fa), .int (nI fp), .int (nI nx), .long (lN (en))]))) := hD
  refine lv_aload_n hx hb dX7_meet_26 rfl (lv_at hl 1 rfl) ?_
  refine lv_lload_n hx hb dX7_meet_27 rfl (lv_at hl 3 rfl) ?_
  refine lv_iload hx hb dX7_meet_28 (lv_at hl 0 rfl) ?_
  refine lv_aload_n hx hb dX7_meet_30 rfl (lv_at hl 2 rfl) ?_
  refine va_get (ci := 3) (C := RX2) (T := TX2) (N := 6) hx hb ht iFX2 hown hK hP kf ((List.getElem?_set_ne (lst_ne hss hf0 (by intro h9; injection h9 with _ h8; injection h8 with h7; injection h7 with h6; cases h6))).trans hf0) rfl 1 (by decide) (ht _ kw2_121) (fun _ h9 => h9) rfl dX7_meet_31 ?_
  refine ro_S S (c_X7_lifetime (s9 := nx) (q := q) (by omega) (by omega) (by omega)) kw2_194 yv_X7_lifetime ⟨Nat.le_of_ble_eq_true rfl, Nat.le_of_ble_eq_true rfl⟩ hK hP rfl hl.1 rfl (Nat.le_of_ble_eq_true rfl) dX7_meet_34 ⟨(Nat.zero_le _), (Nat.zero_le _)⟩ ?_
  have hq34 := tg_life_le nx q
  refine nv_i2l hx hb (by omega) dX7_meet_37 ?_
  refine nv_ladd hx hb dX7_meet_38 ?_
  refine va_put (ci := 5) (C := RX7) (T := TX7) (N := 5) (ty := tyX7 4) hx hb ht iFX7 tyX7 tyX7_ok nmX7 hown hK hP hD hS kss (List.getElem?_set_self (lst_lt hss)) rfl 4 (by decide) (ht _ kw3_98) (fun _ h9 => h9) rfl (by decide +kernel) (by first | rfl | decide) (by first | rfl | decide) (Nat.le_of_ble_eq_true rfl) dX7_meet_39 (fun H locs hP hD hS => ?_)
  rw [List.set_set] at hP hD
  have hP : va_P D vwCl (ws.set kss (ss, .inr (5, [.ref ow, .int (nI fa), .int (nI fp), .int (nI nx), .long (lN (T + (tg_life nx q)))]))) H := hP
  have hD : va_D A (ws.set kss (ss, .inr (5, [.ref ow, .int (nI fa), .int (nI fp), .int (nI nx), .long (lN (T + (tg_life nx q)))]))) := hD
  exact hend () trivial (by rw [← hnx, if_neg hx8, if_neg hx8]; exact hP) (by rw [← hnx, if_neg hx8, if_neg hx8]; exact hD) hS dX7_meet_42
theorem dX2_fromInside_0 : decode cX2_fromInside 0 = .ok (.aload_n 0, 1) := by decide +kernel
theorem dX2_fromInside_1 : decode cX2_fromInside 1 = .ok (.bipush 6, 2) := by decide +kernel
theorem dX2_fromInside_3 : decode cX2_fromInside 3 = .ok (.invokevirtual 31, 3) := by decide +kernel
theorem dX2_fromInside_6 : decode cX2_fromInside 6 = .ok (.istore_n 2, 1) := by decide +kernel
theorem dX2_fromInside_7 : decode cX2_fromInside 7 = .ok (.iload_n 2, 1) := by decide +kernel
theorem dX2_fromInside_8 : decode cX2_fromInside 8 = .ok (.bipush 58, 2) := by decide +kernel
theorem dX2_fromInside_10 : decode cX2_fromInside 10 = .ok (.if_icmp .ne 7, 3) := by decide +kernel
theorem dX2_fromInside_13 : decode cX2_fromInside 13 = .ok (.iconst 1, 1) := by decide +kernel
theorem dX2_fromInside_14 : decode cX2_fromInside 14 = .ok (.goto 4, 3) := by decide +kernel
theorem dX2_fromInside_17 : decode cX2_fromInside 17 = .ok (.iload_n 2, 1) := by decide +kernel
theorem dX2_fromInside_18 : decode cX2_fromInside 18 = .ok (.istore_n 3, 1) := by decide +kernel
theorem dX2_fromInside_19 : decode cX2_fromInside 19 = .ok (.aload_n 0, 1) := by decide +kernel
theorem dX2_fromInside_20 : decode cX2_fromInside 20 = .ok (.bipush 40, 2) := by decide +kernel
theorem dX2_fromInside_22 : decode cX2_fromInside 22 = .ok (.iload_n 3, 1) := by decide +kernel
theorem dX2_fromInside_23 : decode cX2_fromInside 23 = .ok (.invokestatic 37, 3) := by decide +kernel
theorem dX2_fromInside_26 : decode cX2_fromInside 26 = .ok (.istore 4, 2) := by decide +kernel
theorem dX2_fromInside_28 : decode cX2_fromInside 28 = .ok (.aload_n 0, 1) := by decide +kernel
theorem dX2_fromInside_29 : decode cX2_fromInside 29 = .ok (.bipush 40, 2) := by decide +kernel
theorem dX2_fromInside_31 : decode cX2_fromInside 31 = .ok (.iload_n 3, 1) := by decide +kernel
theorem dX2_fromInside_32 : decode cX2_fromInside 32 = .ok (.invokestatic 43, 3) := by decide +kernel
theorem dX2_fromInside_35 : decode cX2_fromInside 35 = .ok (.istore 5, 2) := by decide +kernel
theorem dX2_fromInside_37 : decode cX2_fromInside 37 = .ok (.aload_n 0, 1) := by decide +kernel
theorem dX2_fromInside_38 : decode cX2_fromInside 38 = .ok (.bipush 40, 2) := by decide +kernel
theorem dX2_fromInside_40 : decode cX2_fromInside 40 = .ok (.iload_n 3, 1) := by decide +kernel
theorem dX2_fromInside_41 : decode cX2_fromInside 41 = .ok (.invokestatic 46, 3) := by decide +kernel
theorem dX2_fromInside_44 : decode cX2_fromInside 44 = .ok (.istore 6, 2) := by decide +kernel
theorem dX2_fromInside_46 : decode cX2_fromInside 46 = .ok (.new 10, 3) := by decide +kernel
theorem dX2_fromInside_49 : decode cX2_fromInside 49 = .ok (.dup, 1) := by decide +kernel
theorem dX2_fromInside_50 : decode cX2_fromInside 50 = .ok (.iconst 1, 1) := by decide +kernel
theorem dX2_fromInside_51 : decode cX2_fromInside 51 = .ok (.iload_n 3, 1) := by decide +kernel
theorem dX2_fromInside_52 : decode cX2_fromInside 52 = .ok (.iload 4, 2) := by decide +kernel
theorem dX2_fromInside_54 : decode cX2_fromInside 54 = .ok (.iload_n 1, 1) := by decide +kernel
theorem dX2_fromInside_55 : decode cX2_fromInside 55 = .ok (.iload 5, 2) := by decide +kernel
theorem dX2_fromInside_57 : decode cX2_fromInside 57 = .ok (.iload 6, 2) := by decide +kernel
theorem dX2_fromInside_59 : decode cX2_fromInside 59 = .ok (.invokespecial 49, 3) := by decide +kernel
theorem dX2_fromInside_62 : decode cX2_fromInside 62 = .ok (.areturn, 1) := by decide +kernel
theorem yv_X2_fromInside : YS yX2_fromInside cX2_fromInside 7 (some (.object "TransitGate$Flow")) 2 := ⟨kw2_90, kw1_14, kw2_91, by decide +kernel⟩
set_option maxHeartbeats 4000000 in
set_option maxRecDepth 100000 in
theorem c_X2_fromInside {l : Launch} {D : va_G} {cy : Nat → ClassId} {ws : va_W} {b n : Nat} {f : Nat → UInt8} (hB : PK cy ws b f n) {far : Nat} (hfar : far < 2 ^ 32) : WR (S := Nat) l yX2_fromInside cX2_fromInside 7 (some (.object "TransitGate$Flow")) 3 1 6 69 [.ref b, .int (nI far)] D cy ws (fun u_ => some (va_rf (some u_))) (fun u => ∀ x ∈ ws, x.1 ≠ u) (fun u => ws ++ [fE u true (if tg_rd f n 6 = 58 then 1 else tg_rd f n 6) (tg_pr (tg_rd f n) (40 + tg_spa (if tg_rd f n 6 = 58 then 1 else tg_rd f n 6))) far (if (if tg_rd f n 6 = 58 then 1 else tg_rd f n 6) = 1 then 0 else tg_pr (tg_rd f n) (40 + tg_dpa (if tg_rd f n 6 = 58 then 1 else tg_rd f n 6))) (tg_event (tg_rd f n) 40 (if tg_rd f n 6 = 58 then 1 else tg_rd f n 6))]) := by
  refine WRr (by first | exact Or.inl ⟨_, rfl⟩ | exact Or.inr ⟨_, rfl⟩) (by decide) (lv0 := [(0, .ref b), (1, .int (nI far))]) rfl (Nat.le_of_ble_eq_true rfl) ?_
  intro p e s m args below meth c ls A Q S hnm hP hK hD hS hA hend hl
  have hx := S.1
  have hb := S.2.1
  have hown : s.vm.findClass RX2 = some m.cls := S.2.2.2.1
  have ht : ∀ w ∈ lw_g, w.before args s = true := fun w h => S.2.2.2.2 w (List.mem_cons_of_mem _ h)
  obtain ⟨kb, ka, ar, N, hb0, ha0, hnN, hN⟩ := id hB
  refine lv_aload_n hx hb dX2_fromInside_0 rfl (lv_at hl 0 rfl) ?_
  refine nv_bipush (k := 6) hx hb dX2_fromInside_1 (by decide) ?_
  refine ro_V S (c_X1_octet hB (k := 6) (by omega)) kw2_92 yv_X1_octet ⟨Nat.le_of_ble_eq_true rfl, Nat.le_of_ble_eq_true rfl⟩ hK hP (va_recv hK hP (ci := 2) (q0 := kb) rfl hb0) rfl hl.1 rfl (Nat.le_of_ble_eq_true rfl) dX2_fromInside_3 ⟨(by show _ ≤ 1; omega), (by show _ ≤ 6; omega)⟩ ?_
  have hq3 := tg_rd_lt f n 6
  refine lv_istore_n (lv' := [(2, .int (nI (tg_rd f n 6))), (0, .ref b), (1, .int (nI far))]) hx hb dX2_fromInside_6 rfl hl (by decide) rfl (fun ls hl => ?_)
  refine lv_iload_n hx hb dX2_fromInside_7 rfl (lv_at hl 0 rfl) ?_
  refine nv_bipush (k := 58) hx hb dX2_fromInside_8 (by decide) ?_
  have J18 : ∀ v18 : Nat, v18 = (if tg_rd f n 6 = 58 then 1 else tg_rd f n 6) → ∀ ls : Array Slot, lv_has ls 7 [(2, .int (nI (tg_rd f n 6))), (0, .ref b), (1, .int (nI far))] → W p l e (rmw 3 1 6 69) s m args below meth c s.heap [] 0 0 Q (F0 m 18 ls [.int (nI v18)]) := by
    intro v18 hv18 ls hl
    have hv8 : v18 < 256 := by rw [hv18]; split <;> omega
    refine lv_istore_n (lv' := [(3, .int (nI v18)), (2, .int (nI (tg_rd f n 6))), (0, .ref b), (1, .int (nI far))]) hx hb dX2_fromInside_18 rfl hl (by decide) rfl (fun ls hl => ?_)
    refine lv_aload_n hx hb dX2_fromInside_19 rfl (lv_at hl 2 rfl) ?_
    refine nv_bipush (k := 40) hx hb dX2_fromInside_20 (by decide) ?_
    refine lv_iload_n hx hb dX2_fromInside_22 rfl (lv_at hl 0 rfl) ?_
    refine ro_S S (c_X4_sourcePort hB (a := 40) (q := v18) (by omega) (by omega)) kw2_93 yv_X4_sourcePort ⟨Nat.le_of_ble_eq_true rfl, Nat.le_of_ble_eq_true rfl⟩ hK hP rfl hl.1 rfl (Nat.le_of_ble_eq_true rfl) dX2_fromInside_23 ⟨(by show _ ≤ 1; omega), (by show _ ≤ 6; omega)⟩ ?_
    have hq23 := tg_pr_lt f n (40 + tg_spa v18)
    refine lv_istore (lv' := [(4, .int (nI (tg_pr (tg_rd f n) (40 + tg_spa v18)))), (3, .int (nI v18)), (2, .int (nI (tg_rd f n 6))), (0, .ref b), (1, .int (nI far))]) hx hb dX2_fromInside_26 hl (by decide) rfl (fun ls hl => ?_)
    refine lv_aload_n hx hb dX2_fromInside_28 rfl (lv_at hl 3 rfl) ?_
    refine nv_bipush (k := 40) hx hb dX2_fromInside_29 (by decide) ?_
    refine lv_iload_n hx hb dX2_fromInside_31 rfl (lv_at hl 1 rfl) ?_
    refine ro_S S (c_X4_destinationPort hB (a := 40) (q := v18) (by omega) (by omega)) kw2_102 yv_X4_destinationPort ⟨Nat.le_of_ble_eq_true rfl, Nat.le_of_ble_eq_true rfl⟩ hK hP rfl hl.1 rfl (Nat.le_of_ble_eq_true rfl) dX2_fromInside_32 ⟨(by show _ ≤ 1; omega), (by show _ ≤ 6; omega)⟩ ?_
    have hq32 := tg_pr_lt f n (40 + tg_dpa v18)
    refine lv_istore (lv' := [(5, .int (nI (tg_pr (tg_rd f n) (40 + tg_dpa v18)))), (4, .int (nI (tg_pr (tg_rd f n) (40 + tg_spa v18)))), (3, .int (nI v18)), (2, .int (nI (tg_rd f n 6))), (0, .ref b), (1, .int (nI far))]) hx hb dX2_fromInside_35 hl (by decide) rfl (fun ls hl => ?_)
    refine lv_aload_n hx hb dX2_fromInside_37 rfl (lv_at hl 4 rfl) ?_
    refine nv_bipush (k := 40) hx hb dX2_fromInside_38 (by decide) ?_
    refine lv_iload_n hx hb dX2_fromInside_40 rfl (lv_at hl 2 rfl) ?_
    refine ro_S S (c_X4_eventOf hB (hd := 40) (q := v18) (by omega) (by omega)) kw2_108 yv_X4_eventOf ⟨Nat.le_of_ble_eq_true rfl, Nat.le_of_ble_eq_true rfl⟩ hK hP rfl hl.1 rfl (Nat.le_of_ble_eq_true rfl) dX2_fromInside_41 ⟨(by show _ ≤ 1; omega), (by show _ ≤ 6; omega)⟩ ?_
    have hq41 := tg_event_le (tg_rd f n) 40 v18
    refine lv_istore (lv' := [(6, .int (nI (tg_event (tg_rd f n) 40 v18))), (5, .int (nI (tg_pr (tg_rd f n) (40 + tg_dpa v18)))), (4, .int (nI (tg_pr (tg_rd f n) (40 + tg_spa v18)))), (3, .int (nI v18)), (2, .int (nI (tg_rd f n 6))), (0, .ref b), (1, .int (nI far))]) hx hb dX2_fromInside_44 hl (by decide) rfl (fun ls hl => ?_)
    refine va_new (ci := 3) (fs := [.int 0, .int 0, .int 0, .int 0, .int 0, .int 0]) (C := RX2) (T := TX2) (N := 6) hx hb ht iFX2 tyX2 tyX2_ok hown (ht _ kw2_111) (ht _ kw2_112) (ht _ kw1_14) hK hP hD hS hA rfl (fun j hj => by rcases (show j = 0 ∨ j = 1 ∨ j = 2 ∨ j = 3 ∨ j = 4 ∨ j = 5 by omega) with rfl | rfl | rfl | rfl | rfl | rfl <;> rfl) (by show _ ≤ 1; omega) (by show _ ≤ 6; omega) dX2_fromInside_46 (fun o_1 H hP hD hS => ?_)
    have app_new9 := app_new hD
    refine lv_dup hx hb dX2_fromInside_49 rfl ?_
    refine nv_iconst (k := 1) hx hb dX2_fromInside_50 rfl ?_
    refine lv_iload_n hx hb dX2_fromInside_51 rfl (lv_at hl 3 rfl) ?_
    refine lv_iload hx hb dX2_fromInside_52 (lv_at hl 2 rfl) ?_
    refine lv_iload_n hx hb dX2_fromInside_54 rfl (lv_at hl 6 rfl) ?_
    refine lv_iload hx hb dX2_fromInside_55 (lv_at hl 1 rfl) ?_
    refine lv_iload hx hb dX2_fromInside_57 (lv_at hl 0 rfl) ?_
    refine wr_I S (c_X2_init (x9 := o_1) (ins := true) (q := v18) (port := tg_pr (tg_rd f n) (40 + tg_spa v18)) (far := far) (far0 := tg_pr (tg_rd f n) (40 + tg_dpa v18)) (ev := tg_event (tg_rd f n) 40 v18) (by omega) (by omega) (by omega) (by omega) (by omega)) kw2_113 yv_X2_init ⟨Nat.le_of_ble_eq_true rfl, Nat.le_of_ble_eq_true rfl⟩ hK hP hD hS hA rfl hl.1 rfl (Nat.le_of_ble_eq_true rfl) dX2_fromInside_59 ⟨(by show _ ≤ 1; omega), (by show _ ≤ 6; omega)⟩ (fun u1 H locs hu1 hP hD hS => ?_)
    refine W.eq (g2 := F0 m 62 ls [.ref o_1]) rfl ?_
    refine W.widen (k := 1) (n := 6) (by omega) (by omega) ?_
    exact hend o_1 rfl (app_new9) (by rw [← hv18]; exact hP) (by rw [← hv18]; exact hD) hS dX2_fromInside_62
  refine nv_icmp_ne (tgt := 17) hx hb dX2_fromInside_10 (by decide) (by omega) (by omega) (fun h10 => ?_) (fun h10 => ?_)
  · skip
    refine lv_iload_n hx hb dX2_fromInside_17 rfl (lv_at hl 0 rfl) ?_
    exact J18 (tg_rd f n 6) (by split <;> omega) ls (lv_sub hl [0, 1, 2] rfl)
  refine nv_iconst (k := 1) hx hb dX2_fromInside_13 rfl ?_
  refine lv_goto (tgt := 18) hx hb dX2_fromInside_14 (by decide) ?_
  exact J18 (1) (by split <;> omega) ls (lv_sub hl [0, 1, 2] rfl)
theorem dX2_fromOutside_0 : decode cX2_fromOutside 0 = .ok (.aload_n 0, 1) := by decide +kernel
theorem dX2_fromOutside_1 : decode cX2_fromOutside 1 = .ok (.bipush 9, 2) := by decide +kernel
theorem dX2_fromOutside_3 : decode cX2_fromOutside 3 = .ok (.invokevirtual 31, 3) := by decide +kernel
theorem dX2_fromOutside_6 : decode cX2_fromOutside 6 = .ok (.istore_n 1, 1) := by decide +kernel
theorem dX2_fromOutside_7 : decode cX2_fromOutside 7 = .ok (.aload_n 0, 1) := by decide +kernel
theorem dX2_fromOutside_8 : decode cX2_fromOutside 8 = .ok (.bipush 20, 2) := by decide +kernel
theorem dX2_fromOutside_10 : decode cX2_fromOutside 10 = .ok (.iload_n 1, 1) := by decide +kernel
theorem dX2_fromOutside_11 : decode cX2_fromOutside 11 = .ok (.invokestatic 43, 3) := by decide +kernel
theorem dX2_fromOutside_14 : decode cX2_fromOutside 14 = .ok (.istore_n 2, 1) := by decide +kernel
theorem dX2_fromOutside_15 : decode cX2_fromOutside 15 = .ok (.aload_n 0, 1) := by decide +kernel
theorem dX2_fromOutside_16 : decode cX2_fromOutside 16 = .ok (.bipush 20, 2) := by decide +kernel
theorem dX2_fromOutside_18 : decode cX2_fromOutside 18 = .ok (.iload_n 1, 1) := by decide +kernel
theorem dX2_fromOutside_19 : decode cX2_fromOutside 19 = .ok (.invokestatic 37, 3) := by decide +kernel
theorem dX2_fromOutside_22 : decode cX2_fromOutside 22 = .ok (.istore_n 3, 1) := by decide +kernel
theorem dX2_fromOutside_23 : decode cX2_fromOutside 23 = .ok (.aload_n 0, 1) := by decide +kernel
theorem dX2_fromOutside_24 : decode cX2_fromOutside 24 = .ok (.bipush 20, 2) := by decide +kernel
theorem dX2_fromOutside_26 : decode cX2_fromOutside 26 = .ok (.iload_n 1, 1) := by decide +kernel
theorem dX2_fromOutside_27 : decode cX2_fromOutside 27 = .ok (.invokestatic 46, 3) := by decide +kernel
theorem dX2_fromOutside_30 : decode cX2_fromOutside 30 = .ok (.istore 4, 2) := by decide +kernel
theorem dX2_fromOutside_32 : decode cX2_fromOutside 32 = .ok (.new 10, 3) := by decide +kernel
theorem dX2_fromOutside_35 : decode cX2_fromOutside 35 = .ok (.dup, 1) := by decide +kernel
theorem dX2_fromOutside_36 : decode cX2_fromOutside 36 = .ok (.iconst 0, 1) := by decide +kernel
theorem dX2_fromOutside_37 : decode cX2_fromOutside 37 = .ok (.iload_n 1, 1) := by decide +kernel
theorem dX2_fromOutside_38 : decode cX2_fromOutside 38 = .ok (.iload_n 2, 1) := by decide +kernel
theorem dX2_fromOutside_39 : decode cX2_fromOutside 39 = .ok (.aload_n 0, 1) := by decide +kernel
theorem dX2_fromOutside_40 : decode cX2_fromOutside 40 = .ok (.bipush 12, 2) := by decide +kernel
theorem dX2_fromOutside_42 : decode cX2_fromOutside 42 = .ok (.invokevirtual 52, 3) := by decide +kernel
theorem dX2_fromOutside_45 : decode cX2_fromOutside 45 = .ok (.iload_n 3, 1) := by decide +kernel
theorem dX2_fromOutside_46 : decode cX2_fromOutside 46 = .ok (.iload 4, 2) := by decide +kernel
theorem dX2_fromOutside_48 : decode cX2_fromOutside 48 = .ok (.invokespecial 49, 3) := by decide +kernel
theorem dX2_fromOutside_51 : decode cX2_fromOutside 51 = .ok (.areturn, 1) := by decide +kernel
theorem yv_X2_fromOutside : YS yX2_fromOutside cX2_fromOutside 5 (some (.object "TransitGate$Flow")) 1 := ⟨kw3_231, kw1_14, kw3_232, by decide +kernel⟩
set_option maxHeartbeats 4000000 in
set_option maxRecDepth 100000 in
theorem c_X2_fromOutside {l : Launch} {D : va_G} {cy : Nat → ClassId} {ws : va_W} {b n : Nat} {f : Nat → UInt8} (hB : PK cy ws b f n) : WR (S := Nat) l yX2_fromOutside cX2_fromOutside 5 (some (.object "TransitGate$Flow")) 3 1 6 69 [.ref b] D cy ws (fun u_ => some (va_rf (some u_))) (fun u => ∀ x ∈ ws, x.1 ≠ u) (fun u => ws ++ [fE u false (tg_rd f n 9) (tg_pr (tg_rd f n) (20 + tg_dpa (tg_rd f n 9))) (tg_qd (tg_rd f n) 12) (if (tg_rd f n 9) = 1 then 0 else tg_pr (tg_rd f n) (20 + tg_spa (tg_rd f n 9))) (tg_event (tg_rd f n) 20 (tg_rd f n 9))]) := by
  refine WRr (by first | exact Or.inl ⟨_, rfl⟩ | exact Or.inr ⟨_, rfl⟩) (by decide) (lv0 := [(0, .ref b)]) rfl (Nat.le_of_ble_eq_true rfl) ?_
  intro p e s m args below meth c ls A Q S hnm hP hK hD hS hA hend hl
  have hx := S.1
  have hb := S.2.1
  have hown : s.vm.findClass RX2 = some m.cls := S.2.2.2.1
  have ht : ∀ w ∈ lw_g, w.before args s = true := fun w h => S.2.2.2.2 w (List.mem_cons_of_mem _ h)
  obtain ⟨kb, ka, ar, N, hb0, ha0, hnN, hN⟩ := id hB
  refine lv_aload_n hx hb dX2_fromOutside_0 rfl (lv_at hl 0 rfl) ?_
  refine nv_bipush (k := 9) hx hb dX2_fromOutside_1 (by decide) ?_
  refine ro_V S (c_X1_octet hB (k := 9) (by omega)) kw2_92 yv_X1_octet ⟨Nat.le_of_ble_eq_true rfl, Nat.le_of_ble_eq_true rfl⟩ hK hP (va_recv hK hP (ci := 2) (q0 := kb) rfl hb0) rfl hl.1 rfl (Nat.le_of_ble_eq_true rfl) dX2_fromOutside_3 ⟨(by show _ ≤ 1; omega), (by show _ ≤ 6; omega)⟩ ?_
  have hq3 := tg_rd_lt f n 9
  refine lv_istore_n (lv' := [(1, .int (nI (tg_rd f n 9))), (0, .ref b)]) hx hb dX2_fromOutside_6 rfl hl (by decide) rfl (fun ls hl => ?_)
  refine lv_aload_n hx hb dX2_fromOutside_7 rfl (lv_at hl 1 rfl) ?_
  refine nv_bipush (k := 20) hx hb dX2_fromOutside_8 (by decide) ?_
  refine lv_iload_n hx hb dX2_fromOutside_10 rfl (lv_at hl 0 rfl) ?_
  refine ro_S S (c_X4_destinationPort hB (a := 20) (q := tg_rd f n 9) (by omega) (by omega)) kw2_102 yv_X4_destinationPort ⟨Nat.le_of_ble_eq_true rfl, Nat.le_of_ble_eq_true rfl⟩ hK hP rfl hl.1 rfl (Nat.le_of_ble_eq_true rfl) dX2_fromOutside_11 ⟨(by show _ ≤ 1; omega), (by show _ ≤ 6; omega)⟩ ?_
  have hq11 := tg_pr_lt f n (20 + tg_dpa (tg_rd f n 9))
  refine lv_istore_n (lv' := [(2, .int (nI (tg_pr (tg_rd f n) (20 + tg_dpa (tg_rd f n 9))))), (1, .int (nI (tg_rd f n 9))), (0, .ref b)]) hx hb dX2_fromOutside_14 rfl hl (by decide) rfl (fun ls hl => ?_)
  refine lv_aload_n hx hb dX2_fromOutside_15 rfl (lv_at hl 2 rfl) ?_
  refine nv_bipush (k := 20) hx hb dX2_fromOutside_16 (by decide) ?_
  refine lv_iload_n hx hb dX2_fromOutside_18 rfl (lv_at hl 1 rfl) ?_
  refine ro_S S (c_X4_sourcePort hB (a := 20) (q := tg_rd f n 9) (by omega) (by omega)) kw2_93 yv_X4_sourcePort ⟨Nat.le_of_ble_eq_true rfl, Nat.le_of_ble_eq_true rfl⟩ hK hP rfl hl.1 rfl (Nat.le_of_ble_eq_true rfl) dX2_fromOutside_19 ⟨(by show _ ≤ 1; omega), (by show _ ≤ 6; omega)⟩ ?_
  have hq19 := tg_pr_lt f n (20 + tg_spa (tg_rd f n 9))
  refine lv_istore_n (lv' := [(3, .int (nI (tg_pr (tg_rd f n) (20 + tg_spa (tg_rd f n 9))))), (2, .int (nI (tg_pr (tg_rd f n) (20 + tg_dpa (tg_rd f n 9))))), (1, .int (nI (tg_rd f n 9))), (0, .ref b)]) hx hb dX2_fromOutside_22 rfl hl (by decide) rfl (fun ls hl => ?_)
  refine lv_aload_n hx hb dX2_fromOutside_23 rfl (lv_at hl 3 rfl) ?_
  refine nv_bipush (k := 20) hx hb dX2_fromOutside_24 (by decide) ?_
  refine lv_iload_n hx hb dX2_fromOutside_26 rfl (lv_at hl 2 rfl) ?_
  refine ro_S S (c_X4_eventOf hB (hd := 20) (q := tg_rd f n 9) (by omega) (by omega)) kw2_108 yv_X4_eventOf ⟨Nat.le_of_ble_eq_true rfl, Nat.le_of_ble_eq_true rfl⟩ hK hP rfl hl.1 rfl (Nat.le_of_ble_eq_true rfl) dX2_fromOutside_27 ⟨(by show _ ≤ 1; omega), (by show _ ≤ 6; omega)⟩ ?_
  have hq27 := tg_event_le (tg_rd f n) 20 (tg_rd f n 9)
  refine lv_istore (lv' := [(4, .int (nI (tg_event (tg_rd f n) 20 (tg_rd f n 9)))), (3, .int (nI (tg_pr (tg_rd f n) (20 + tg_spa (tg_rd f n 9))))), (2, .int (nI (tg_pr (tg_rd f n) (20 + tg_dpa (tg_rd f n 9))))), (1, .int (nI (tg_rd f n 9))), (0, .ref b)]) hx hb dX2_fromOutside_30 hl (by decide) rfl (fun ls hl => ?_)
  refine va_new (ci := 3) (fs := [.int 0, .int 0, .int 0, .int 0, .int 0, .int 0]) (C := RX2) (T := TX2) (N := 6) hx hb ht iFX2 tyX2 tyX2_ok hown (ht _ kw2_111) (ht _ kw2_112) (ht _ kw1_14) hK hP hD hS hA rfl (fun j hj => by rcases (show j = 0 ∨ j = 1 ∨ j = 2 ∨ j = 3 ∨ j = 4 ∨ j = 5 by omega) with rfl | rfl | rfl | rfl | rfl | rfl <;> rfl) (by show _ ≤ 1; omega) (by show _ ≤ 6; omega) dX2_fromOutside_32 (fun o_1 H hP hD hS => ?_)
  have app_new9 := app_new hD
  refine lv_dup hx hb dX2_fromOutside_35 rfl ?_
  refine nv_iconst (k := 0) hx hb dX2_fromOutside_36 rfl ?_
  refine lv_iload_n hx hb dX2_fromOutside_37 rfl (lv_at hl 3 rfl) ?_
  refine lv_iload_n hx hb dX2_fromOutside_38 rfl (lv_at hl 2 rfl) ?_
  refine lv_aload_n hx hb dX2_fromOutside_39 rfl (lv_at hl 4 rfl) ?_
  refine nv_bipush (k := 12) hx hb dX2_fromOutside_40 (by decide) ?_
  refine ro_V S (c_X1_quad (PK_app hB) (a := 12) (by omega)) kw3_233 yv_X1_quad ⟨Nat.le_of_ble_eq_true rfl, Nat.le_of_ble_eq_true rfl⟩ hK hP (va_recv hK hP (ci := 2) (q0 := kb) rfl (app_l hb0)) rfl hl.1 rfl (Nat.le_of_ble_eq_true rfl) dX2_fromOutside_42 ⟨(by show _ ≤ 1; omega), (by show _ ≤ 6; omega)⟩ ?_
  have hq42 := tg_qd_lt f n 12
  refine lv_iload_n hx hb dX2_fromOutside_45 rfl (lv_at hl 1 rfl) ?_
  refine lv_iload hx hb dX2_fromOutside_46 (lv_at hl 0 rfl) ?_
  refine wr_I S (c_X2_init (x9 := o_1) (ins := false) (q := tg_rd f n 9) (port := tg_pr (tg_rd f n) (20 + tg_dpa (tg_rd f n 9))) (far := tg_qd (tg_rd f n) 12) (far0 := tg_pr (tg_rd f n) (20 + tg_spa (tg_rd f n 9))) (ev := tg_event (tg_rd f n) 20 (tg_rd f n 9)) (by omega) (by omega) (by omega) (by omega) (by omega)) kw2_113 yv_X2_init ⟨Nat.le_of_ble_eq_true rfl, Nat.le_of_ble_eq_true rfl⟩ hK hP hD hS hA rfl hl.1 rfl (Nat.le_of_ble_eq_true rfl) dX2_fromOutside_48 ⟨(by show _ ≤ 1; omega), (by show _ ≤ 6; omega)⟩ (fun u1 H locs hu1 hP hD hS => ?_)
  refine W.eq (g2 := F0 m 51 ls [.ref o_1]) rfl ?_
  refine W.widen (k := 1) (n := 6) (by omega) (by omega) ?_
  exact hend o_1 rfl (app_new9) hP hD hS dX2_fromOutside_51
