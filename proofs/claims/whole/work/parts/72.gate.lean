theorem dX11_high_0 : decode cX11_high 0 = .ok (.aload_n 0, 1) := by decide +kernel
theorem dX11_high_1 : decode cX11_high 1 = .ok (.getfield 24, 3) := by decide +kernel
theorem dX11_high_4 : decode cX11_high 4 = .ok (.iload_n 1, 1) := by decide +kernel
theorem dX11_high_5 : decode cX11_high 5 = .ok (.invokevirtual 64, 3) := by decide +kernel
theorem dX11_high_8 : decode cX11_high 8 = .ok (.lreturn, 1) := by decide +kernel
theorem yv_X11_high : YV RX11 yX11_high cX11_high 2 (some .long) 1 := ⟨kw1_189, kw1_190, kw1_1, kw1_191, by decide +kernel⟩
set_option maxHeartbeats 4000000 in
set_option maxRecDepth 100000 in
theorem c_X11_high {l : Launch} {D : va_G} {cy : Nat → ClassId} {ad : Nat → Nat} {tl dy : va_W} {eb es tp os bits F G u nb ns T M id : Nat} {mb mz : Int32} {ft fo : Nat → UInt8} {g : Nat → Int32} {dq : Nat → Nat} (htp : tp ≤ 1600) (hos : os ≤ 1620) (hsi : SI bits F G) (hu4 : u ≤ 4) {x : Nat} (hx0 : x < 2 ^ 32) : RO l yX11_high cX11_high 2 (some .long) 1 21 [.ref (ad 0), .int (nI x)] D cy ((cW cy ad eb es mb mz tp os bits F G u nb ns T M id ft fo g dq ++ tl) ++ dy) (.long (lN (tg_eh bits F x))) := by
  refine ROl (by decide) (lv0 := [(0, .ref (ad 0)), (1, .int (nI x))]) rfl (Nat.le_of_ble_eq_true rfl) ?_
  intro p e s m args below meth c ls Q S hP hK hend hl
  have hx := S.1
  have hb := S.2.1
  have hown : s.vm.findClass RX11 = some m.cls := S.2.2.2.1
  have ht : ∀ w ∈ lw_g, w.before args s = true := fun w h => S.2.2.2.2 w (List.mem_cons_of_mem _ h)
  have hP : va_P D vwCl ((cW cy ad eb es mb mz tp os bits F G u nb ns T M id ft fo g dq ++ tl) ++ dy) s.heap := hP
  have hT : ((cW cy ad eb es mb mz tp os bits F G u nb ns T M id ft fo g dq ++ tl) ++ dy)[8]? = some (tE (ad 8) (ad 9) (ad 10) T) := rfl
  have hLb : ((cW cy ad eb es mb mz tp os bits F G u nb ns T M id ft fo g dq ++ tl) ++ dy)[9]? = some (aL (ad 9) mb eb nb) := rfl
  have hLs : ((cW cy ad eb es mb mz tp os bits F G u nb ns T M id ft fo g dq ++ tl) ++ dy)[10]? = some (aL (ad 10) mz es ns) := rfl
  have hST : STP ((cW cy ad eb es mb mz tp os bits F G u nb ns T M id ft fo g dq ++ tl) ++ dy) (ad 5) bits F G := STP_of (ks := 5) rfl hsi
  have hPL : PLP cy ((cW cy ad eb es mb mz tp os bits F G u nb ns T M id ft fo g dq ++ tl) ++ dy) (ad 6) g u := PLP_of (kp := 6) (kq := 7) rfl rfl hu4
  refine lv_aload_n hx hb dX11_high_0 rfl (lv_at hl 0 rfl) ?_
  refine va_get (ci := 8) (C := RX11) (T := TX11) (N := 8) hx hb ht iFX11 hown hK hP 0 rfl rfl 2 (by decide) (ht _ kw1_125) (fun _ h9 => h9) rfl dX11_high_1 ?_
  refine lv_iload_n hx hb dX11_high_4 rfl (lv_at hl 1 rfl) ?_
  refine ro_V S (c_X8_embedHigh hST (x := x) (by omega)) kw1_192 yv_X8_embedHigh ⟨Nat.le_of_ble_eq_true rfl, Nat.le_of_ble_eq_true rfl⟩ hK hP (va_recv hK hP (ci := 6) (q0 := 5) rfl rfl) rfl hl.1 rfl (Nat.le_of_ble_eq_true rfl) dX11_high_5 ⟨(Nat.zero_le _), (Nat.zero_le _)⟩ ?_
  exact hend (rfl) dX11_high_8
theorem dX11_low_0 : decode cX11_low 0 = .ok (.aload_n 0, 1) := by decide +kernel
theorem dX11_low_1 : decode cX11_low 1 = .ok (.getfield 24, 3) := by decide +kernel
theorem dX11_low_4 : decode cX11_low 4 = .ok (.iload_n 1, 1) := by decide +kernel
theorem dX11_low_5 : decode cX11_low 5 = .ok (.invokevirtual 68, 3) := by decide +kernel
theorem dX11_low_8 : decode cX11_low 8 = .ok (.lreturn, 1) := by decide +kernel
theorem yv_X11_low : YV RX11 yX11_low cX11_low 2 (some .long) 1 := ⟨kw1_198, kw1_199, kw1_1, kw1_200, by decide +kernel⟩
set_option maxHeartbeats 4000000 in
set_option maxRecDepth 100000 in
theorem c_X11_low {l : Launch} {D : va_G} {cy : Nat → ClassId} {ad : Nat → Nat} {tl dy : va_W} {eb es tp os bits F G u nb ns T M id : Nat} {mb mz : Int32} {ft fo : Nat → UInt8} {g : Nat → Int32} {dq : Nat → Nat} (htp : tp ≤ 1600) (hos : os ≤ 1620) (hsi : SI bits F G) (hu4 : u ≤ 4) {x : Nat} (hx0 : x < 2 ^ 32) : RO l yX11_low cX11_low 2 (some .long) 2 43 [.ref (ad 0), .int (nI x)] D cy ((cW cy ad eb es mb mz tp os bits F G u nb ns T M id ft fo g dq ++ tl) ++ dy) (.long (lN (tg_el bits G x))) := by
  refine ROl (by decide) (lv0 := [(0, .ref (ad 0)), (1, .int (nI x))]) rfl (Nat.le_of_ble_eq_true rfl) ?_
  intro p e s m args below meth c ls Q S hP hK hend hl
  have hx := S.1
  have hb := S.2.1
  have hown : s.vm.findClass RX11 = some m.cls := S.2.2.2.1
  have ht : ∀ w ∈ lw_g, w.before args s = true := fun w h => S.2.2.2.2 w (List.mem_cons_of_mem _ h)
  have hP : va_P D vwCl ((cW cy ad eb es mb mz tp os bits F G u nb ns T M id ft fo g dq ++ tl) ++ dy) s.heap := hP
  have hT : ((cW cy ad eb es mb mz tp os bits F G u nb ns T M id ft fo g dq ++ tl) ++ dy)[8]? = some (tE (ad 8) (ad 9) (ad 10) T) := rfl
  have hLb : ((cW cy ad eb es mb mz tp os bits F G u nb ns T M id ft fo g dq ++ tl) ++ dy)[9]? = some (aL (ad 9) mb eb nb) := rfl
  have hLs : ((cW cy ad eb es mb mz tp os bits F G u nb ns T M id ft fo g dq ++ tl) ++ dy)[10]? = some (aL (ad 10) mz es ns) := rfl
  have hST : STP ((cW cy ad eb es mb mz tp os bits F G u nb ns T M id ft fo g dq ++ tl) ++ dy) (ad 5) bits F G := STP_of (ks := 5) rfl hsi
  have hPL : PLP cy ((cW cy ad eb es mb mz tp os bits F G u nb ns T M id ft fo g dq ++ tl) ++ dy) (ad 6) g u := PLP_of (kp := 6) (kq := 7) rfl rfl hu4
  refine lv_aload_n hx hb dX11_low_0 rfl (lv_at hl 0 rfl) ?_
  refine va_get (ci := 8) (C := RX11) (T := TX11) (N := 8) hx hb ht iFX11 hown hK hP 0 rfl rfl 2 (by decide) (ht _ kw1_125) (fun _ h9 => h9) rfl dX11_low_1 ?_
  refine lv_iload_n hx hb dX11_low_4 rfl (lv_at hl 1 rfl) ?_
  refine ro_V S (c_X8_embedLow hST (x := x) (by omega)) kw1_201 yv_X8_embedLow ⟨Nat.le_of_ble_eq_true rfl, Nat.le_of_ble_eq_true rfl⟩ hK hP (va_recv hK hP (ci := 6) (q0 := 5) rfl rfl) rfl hl.1 rfl (Nat.le_of_ble_eq_true rfl) dX11_low_5 ⟨(Nat.zero_le _), (Nat.zero_le _)⟩ ?_
  exact hend (rfl) dX11_low_8
theorem dX11_drawn_0 : decode cX11_drawn 0 = .ok (.aload_n 0, 1) := by decide +kernel
theorem dX11_drawn_1 : decode cX11_drawn 1 = .ok (.getfield 24, 3) := by decide +kernel
theorem dX11_drawn_4 : decode cX11_drawn 4 = .ok (.lload_n 1, 1) := by decide +kernel
theorem dX11_drawn_5 : decode cX11_drawn 5 = .ok (.lload_n 3, 1) := by decide +kernel
theorem dX11_drawn_6 : decode cX11_drawn 6 = .ok (.invokevirtual 71, 3) := by decide +kernel
theorem dX11_drawn_9 : decode cX11_drawn 9 = .ok (.lreturn, 1) := by decide +kernel
theorem yv_X11_drawn : YV RX11 yX11_drawn cX11_drawn 5 (some .long) 2 := ⟨kw1_209, kw1_210, kw1_1, kw1_211, by decide +kernel⟩
set_option maxHeartbeats 4000000 in
set_option maxRecDepth 100000 in
theorem c_X11_drawn {l : Launch} {D : va_G} {cy : Nat → ClassId} {ad : Nat → Nat} {tl dy : va_W} {eb es tp os bits F G u nb ns T M id : Nat} {mb mz : Int32} {ft fo : Nat → UInt8} {g : Nat → Int32} {dq : Nat → Nat} (htp : tp ≤ 1600) (hos : os ≤ 1620) (hsi : SI bits F G) (hu4 : u ≤ 4) {hi lo : Nat} (hhi : hi < 2 ^ 64) (hlo : lo < 2 ^ 64) : RO l yX11_drawn cX11_drawn 5 (some .long) 2 48 [.ref (ad 0), .long (lN (hi)), .long (lN (lo))] D cy ((cW cy ad eb es mb mz tp os bits F G u nb ns T M id ft fo g dq ++ tl) ++ dy) (.long (tg_draw bits F G hi lo)) := by
  refine ROl (by decide) (lv0 := [(0, .ref (ad 0)), (1, .long (lN (hi))), (3, .long (lN (lo)))]) rfl (Nat.le_of_ble_eq_true rfl) ?_
  intro p e s m args below meth c ls Q S hP hK hend hl
  have hx := S.1
  have hb := S.2.1
  have hown : s.vm.findClass RX11 = some m.cls := S.2.2.2.1
  have ht : ∀ w ∈ lw_g, w.before args s = true := fun w h => S.2.2.2.2 w (List.mem_cons_of_mem _ h)
  have hP : va_P D vwCl ((cW cy ad eb es mb mz tp os bits F G u nb ns T M id ft fo g dq ++ tl) ++ dy) s.heap := hP
  have hT : ((cW cy ad eb es mb mz tp os bits F G u nb ns T M id ft fo g dq ++ tl) ++ dy)[8]? = some (tE (ad 8) (ad 9) (ad 10) T) := rfl
  have hLb : ((cW cy ad eb es mb mz tp os bits F G u nb ns T M id ft fo g dq ++ tl) ++ dy)[9]? = some (aL (ad 9) mb eb nb) := rfl
  have hLs : ((cW cy ad eb es mb mz tp os bits F G u nb ns T M id ft fo g dq ++ tl) ++ dy)[10]? = some (aL (ad 10) mz es ns) := rfl
  have hST : STP ((cW cy ad eb es mb mz tp os bits F G u nb ns T M id ft fo g dq ++ tl) ++ dy) (ad 5) bits F G := STP_of (ks := 5) rfl hsi
  have hPL : PLP cy ((cW cy ad eb es mb mz tp os bits F G u nb ns T M id ft fo g dq ++ tl) ++ dy) (ad 6) g u := PLP_of (kp := 6) (kq := 7) rfl rfl hu4
  refine lv_aload_n hx hb dX11_drawn_0 rfl (lv_at hl 0 rfl) ?_
  refine va_get (ci := 8) (C := RX11) (T := TX11) (N := 8) hx hb ht iFX11 hown hK hP 0 rfl rfl 2 (by decide) (ht _ kw1_125) (fun _ h9 => h9) rfl dX11_drawn_1 ?_
  refine lv_lload_n hx hb dX11_drawn_4 rfl (lv_at hl 1 rfl) ?_
  refine lv_lload_n hx hb dX11_drawn_5 rfl (lv_at hl 2 rfl) ?_
  refine ro_V S (c_X8_draw hST (hi := hi) (lo := lo) (by omega) (by omega)) kw1_212 yv_X8_draw ⟨Nat.le_of_ble_eq_true rfl, Nat.le_of_ble_eq_true rfl⟩ hK hP (va_recv hK hP (ci := 6) (q0 := 5) rfl rfl) rfl hl.1 rfl (Nat.le_of_ble_eq_true rfl) dX11_drawn_6 ⟨(Nat.zero_le _), (Nat.zero_le _)⟩ ?_
  exact hend (rfl) dX11_drawn_9
theorem dX11_word_0 : decode cX11_word 0 = .ok (.iload_n 1, 1) := by decide +kernel
theorem dX11_word_1 : decode cX11_word 1 = .ok (.ifCond .lt 10, 3) := by decide +kernel
theorem dX11_word_4 : decode cX11_word 4 = .ok (.iload_n 1, 1) := by decide +kernel
theorem dX11_word_5 : decode cX11_word 5 = .ok (.sipush 1620, 3) := by decide +kernel
theorem dX11_word_8 : decode cX11_word 8 = .ok (.if_icmp .lt 5, 3) := by decide +kernel
theorem dX11_word_11 : decode cX11_word 11 = .ok (.iconst 0, 1) := by decide +kernel
theorem dX11_word_12 : decode cX11_word 12 = .ok (.ireturn, 1) := by decide +kernel
theorem dX11_word_13 : decode cX11_word 13 = .ok (.aload_n 0, 1) := by decide +kernel
theorem dX11_word_14 : decode cX11_word 14 = .ok (.getfield 18, 3) := by decide +kernel
theorem dX11_word_17 : decode cX11_word 17 = .ok (.iconst 4, 1) := by decide +kernel
theorem dX11_word_18 : decode cX11_word 18 = .ok (.iload_n 1, 1) := by decide +kernel
theorem dX11_word_19 : decode cX11_word 19 = .ok (.imul, 1) := by decide +kernel
theorem dX11_word_20 : decode cX11_word 20 = .ok (.invokevirtual 95, 3) := by decide +kernel
theorem dX11_word_23 : decode cX11_word 23 = .ok (.ireturn, 1) := by decide +kernel
theorem yv_X11_word : YV RX11 yX11_word cX11_word 2 (some .int) 1 := ⟨kw4_3, kw4_4, kw1_1, kw4_5, by decide +kernel⟩
set_option maxHeartbeats 4000000 in
set_option maxRecDepth 100000 in
theorem c_X11_word {l : Launch} {D : va_G} {cy : Nat → ClassId} {ad : Nat → Nat} {tl dy : va_W} {eb es tp os bits F G u nb ns T M id : Nat} {mb mz : Int32} {ft fo : Nat → UInt8} {g : Nat → Int32} {dq : Nat → Nat} (htp : tp ≤ 1600) (hos : os ≤ 1620) (hsi : SI bits F G) (hu4 : u ≤ 4) {i : Nat} (hi : i < 2 ^ 31) : RO l yX11_word cX11_word 2 (some .int) 2 47 [.ref (ad 0), .int (nI i)] D cy ((cW cy ad eb es mb mz tp os bits F G u nb ns T M id ft fo g dq ++ tl) ++ dy) (.int (nI (tg_qd (tg_rd fo os) (4 * i)))) := by
  refine ROi (by decide) (lv0 := [(0, .ref (ad 0)), (1, .int (nI i))]) rfl (Nat.le_of_ble_eq_true rfl) ?_
  intro p e s m args below meth c ls Q S hP hK hend hl
  have hx := S.1
  have hb := S.2.1
  have hown : s.vm.findClass RX11 = some m.cls := S.2.2.2.1
  have ht : ∀ w ∈ lw_g, w.before args s = true := fun w h => S.2.2.2.2 w (List.mem_cons_of_mem _ h)
  have hP : va_P D vwCl ((cW cy ad eb es mb mz tp os bits F G u nb ns T M id ft fo g dq ++ tl) ++ dy) s.heap := hP
  have hT : ((cW cy ad eb es mb mz tp os bits F G u nb ns T M id ft fo g dq ++ tl) ++ dy)[8]? = some (tE (ad 8) (ad 9) (ad 10) T) := rfl
  have hLb : ((cW cy ad eb es mb mz tp os bits F G u nb ns T M id ft fo g dq ++ tl) ++ dy)[9]? = some (aL (ad 9) mb eb nb) := rfl
  have hLs : ((cW cy ad eb es mb mz tp os bits F G u nb ns T M id ft fo g dq ++ tl) ++ dy)[10]? = some (aL (ad 10) mz es ns) := rfl
  have hST : STP ((cW cy ad eb es mb mz tp os bits F G u nb ns T M id ft fo g dq ++ tl) ++ dy) (ad 5) bits F G := STP_of (ks := 5) rfl hsi
  have hPL : PLP cy ((cW cy ad eb es mb mz tp os bits F G u nb ns T M id ft fo g dq ++ tl) ++ dy) (ad 6) g u := PLP_of (kp := 6) (kq := 7) rfl rfl hu4
  refine lv_iload_n hx hb dX11_word_0 rfl (lv_at hl 1 rfl) ?_
  refine nv_if_lt (tgt := 11) hx hb dX11_word_1 (by decide) (by omega) ?_
  refine lv_iload_n hx hb dX11_word_4 rfl (lv_at hl 1 rfl) ?_
  refine nv_sipush (k := 1620) hx hb dX11_word_5 (by decide) ?_
  refine nv_icmp_lt (tgt := 13) hx hb dX11_word_8 (by decide) (by omega) (by omega) (fun h8 => ?_) (fun h8 => ?_)
  · skip
    refine lv_aload_n hx hb dX11_word_13 rfl (lv_at hl 0 rfl) ?_
    refine va_get (ci := 8) (C := RX11) (T := TX11) (N := 8) hx hb ht iFX11 hown hK hP 0 rfl rfl 1 (by decide) (ht _ kw1_124) (fun _ h9 => h9) rfl dX11_word_14 ?_
    refine nv_iconst (k := 4) hx hb dX11_word_17 rfl ?_
    refine lv_iload_n hx hb dX11_word_18 rfl (lv_at hl 1 rfl) ?_
    refine nv_imul hx hb dX11_word_19 ?_
    refine ro_V S (c_X1_quad (PK_of (ws := (cW cy ad eb es mb mz tp os bits F G u nb ns T M id ft fo g dq ++ tl) ++ dy) (kb := 3) (ka := 4) (N := 1620) rfl rfl (by omega) (by omega)) (a := 4 * i) (by omega)) kw3_195 yv_X1_quad ⟨Nat.le_of_ble_eq_true rfl, Nat.le_of_ble_eq_true rfl⟩ hK hP (va_recv hK hP (ci := 2) (q0 := 3) rfl rfl) rfl hl.1 rfl (Nat.le_of_ble_eq_true rfl) dX11_word_20 ⟨(Nat.zero_le _), (Nat.zero_le _)⟩ ?_
    have hq20 := tg_qd_lt fo os (4 * i)
    exact hend (rfl) dX11_word_23
  refine nv_iconst (k := 0) hx hb dX11_word_11 rfl ?_
  exact hend ((congrArg nI (tg_qd_out (by omega)).symm)) dX11_word_12
set_option maxHeartbeats 4000000 in
set_option maxRecDepth 100000 in
theorem c_X11_wordN {l : Launch} {D : va_G} {cy : Nat → ClassId} {ad : Nat → Nat} {tl dy : va_W} {eb es tp os bits F G u nb ns T M id : Nat} {mb mz : Int32} {ft fo : Nat → UInt8} {g : Nat → Int32} {dq : Nat → Nat} (htp : tp ≤ 1600) (hos : os ≤ 1620) (hsi : SI bits F G) (hu4 : u ≤ 4) {i : Int32} (hneg : i < 0) : RO l yX11_word cX11_word 2 (some .int) 0 0 [.ref (ad 0), .int i] D cy ((cW cy ad eb es mb mz tp os bits F G u nb ns T M id ft fo g dq ++ tl) ++ dy) (.int (nI 0)) := by
  refine ROi (by decide) (lv0 := [(0, .ref (ad 0)), (1, .int i)]) rfl (Nat.le_of_ble_eq_true rfl) ?_
  intro p e s m args below meth c ls Q S hP hK hend hl
  have hx := S.1
  have hb := S.2.1
  have hown : s.vm.findClass RX11 = some m.cls := S.2.2.2.1
  have ht : ∀ w ∈ lw_g, w.before args s = true := fun w h => S.2.2.2.2 w (List.mem_cons_of_mem _ h)
  have hP : va_P D vwCl ((cW cy ad eb es mb mz tp os bits F G u nb ns T M id ft fo g dq ++ tl) ++ dy) s.heap := hP
  have hT : ((cW cy ad eb es mb mz tp os bits F G u nb ns T M id ft fo g dq ++ tl) ++ dy)[8]? = some (tE (ad 8) (ad 9) (ad 10) T) := rfl
  have hLb : ((cW cy ad eb es mb mz tp os bits F G u nb ns T M id ft fo g dq ++ tl) ++ dy)[9]? = some (aL (ad 9) mb eb nb) := rfl
  have hLs : ((cW cy ad eb es mb mz tp os bits F G u nb ns T M id ft fo g dq ++ tl) ++ dy)[10]? = some (aL (ad 10) mz es ns) := rfl
  have hST : STP ((cW cy ad eb es mb mz tp os bits F G u nb ns T M id ft fo g dq ++ tl) ++ dy) (ad 5) bits F G := STP_of (ks := 5) rfl hsi
  have hPL : PLP cy ((cW cy ad eb es mb mz tp os bits F G u nb ns T M id ft fo g dq ++ tl) ++ dy) (ad 6) g u := PLP_of (kp := 6) (kq := 7) rfl rfl hu4
  refine lv_iload_n hx hb dX11_word_0 rfl (lv_at hl 1 rfl) ?_
  refine lv_if_lt (tgt := 11) hx hb dX11_word_1 (by decide) (fun h1 => ?_) (fun h1 => ?_)
  · skip
    refine nv_iconst (k := 0) hx hb dX11_word_11 rfl ?_
    exact hend (rfl) dX11_word_12
  exact absurd hneg h1
theorem dX11_take_0 : decode cX11_take 0 = .ok (.aload_n 0, 1) := by decide +kernel
theorem dX11_take_1 : decode cX11_take 1 = .ok (.getfield 18, 3) := by decide +kernel
theorem dX11_take_4 : decode cX11_take 4 = .ok (.invokevirtual 75, 3) := by decide +kernel
theorem dX11_take_7 : decode cX11_take 7 = .ok (.istore_n 1, 1) := by decide +kernel
theorem dX11_take_8 : decode cX11_take 8 = .ok (.iload_n 1, 1) := by decide +kernel
theorem dX11_take_9 : decode cX11_take 9 = .ok (.sipush 1600, 3) := by decide +kernel
theorem dX11_take_12 : decode cX11_take 12 = .ok (.if_icmp .le 5, 3) := by decide +kernel
theorem dX11_take_15 : decode cX11_take 15 = .ok (.iconst (-1), 1) := by decide +kernel
theorem dX11_take_16 : decode cX11_take 16 = .ok (.ireturn, 1) := by decide +kernel
theorem dX11_take_17 : decode cX11_take 17 = .ok (.aload_n 0, 1) := by decide +kernel
theorem dX11_take_18 : decode cX11_take 18 = .ok (.getfield 14, 3) := by decide +kernel
theorem dX11_take_21 : decode cX11_take 21 = .ok (.iload_n 1, 1) := by decide +kernel
theorem dX11_take_22 : decode cX11_take 22 = .ok (.invokevirtual 79, 3) := by decide +kernel
theorem dX11_take_25 : decode cX11_take 25 = .ok (.aload_n 0, 1) := by decide +kernel
theorem dX11_take_26 : decode cX11_take 26 = .ok (.getfield 14, 3) := by decide +kernel
theorem dX11_take_29 : decode cX11_take 29 = .ok (.aload_n 0, 1) := by decide +kernel
theorem dX11_take_30 : decode cX11_take 30 = .ok (.getfield 18, 3) := by decide +kernel
theorem dX11_take_33 : decode cX11_take 33 = .ok (.iconst 0, 1) := by decide +kernel
theorem dX11_take_34 : decode cX11_take 34 = .ok (.iconst 0, 1) := by decide +kernel
theorem dX11_take_35 : decode cX11_take 35 = .ok (.iload_n 1, 1) := by decide +kernel
theorem dX11_take_36 : decode cX11_take 36 = .ok (.invokevirtual 98, 3) := by decide +kernel
theorem dX11_take_39 : decode cX11_take 39 = .ok (.iload_n 1, 1) := by decide +kernel
theorem dX11_take_40 : decode cX11_take 40 = .ok (.ireturn, 1) := by decide +kernel
theorem yv_X11_take : YV RX11 yX11_take cX11_take 2 (some .int) 0 := ⟨kw4_7, kw4_8, kw1_1, kw4_9, by decide +kernel⟩
set_option maxHeartbeats 4000000 in
set_option maxRecDepth 100000 in
theorem c_X11_takeG {l : Launch} {D : va_G} {cy : Nat → ClassId} {ad : Nat → Nat} {tl dy : va_W} {eb es tp os bits F G u nb ns T M id : Nat} {mb mz : Int32} {ft fo : Nat → UInt8} {g : Nat → Int32} {dq : Nat → Nat} (htp : tp ≤ 1600) (hos : os ≤ 1620) (hsi : SI bits F G) (hu4 : u ≤ 4) (hbig : 1600 < os) : RO l yX11_take cX11_take 2 (some .int) 1 20 [.ref (ad 0)] D cy ((cW cy ad eb es mb mz tp os bits F G u nb ns T M id ft fo g dq ++ tl) ++ dy) (.int (-1)) := by
  refine ROi (by decide) (lv0 := [(0, .ref (ad 0))]) rfl (Nat.le_of_ble_eq_true rfl) ?_
  intro p e s m args below meth c ls Q S hP hK hend hl
  have hx := S.1
  have hb := S.2.1
  have hown : s.vm.findClass RX11 = some m.cls := S.2.2.2.1
  have ht : ∀ w ∈ lw_g, w.before args s = true := fun w h => S.2.2.2.2 w (List.mem_cons_of_mem _ h)
  have hP : va_P D vwCl ((cW cy ad eb es mb mz tp os bits F G u nb ns T M id ft fo g dq ++ tl) ++ dy) s.heap := hP
  have hT : ((cW cy ad eb es mb mz tp os bits F G u nb ns T M id ft fo g dq ++ tl) ++ dy)[8]? = some (tE (ad 8) (ad 9) (ad 10) T) := rfl
  have hLb : ((cW cy ad eb es mb mz tp os bits F G u nb ns T M id ft fo g dq ++ tl) ++ dy)[9]? = some (aL (ad 9) mb eb nb) := rfl
  have hLs : ((cW cy ad eb es mb mz tp os bits F G u nb ns T M id ft fo g dq ++ tl) ++ dy)[10]? = some (aL (ad 10) mz es ns) := rfl
  have hST : STP ((cW cy ad eb es mb mz tp os bits F G u nb ns T M id ft fo g dq ++ tl) ++ dy) (ad 5) bits F G := STP_of (ks := 5) rfl hsi
  have hPL : PLP cy ((cW cy ad eb es mb mz tp os bits F G u nb ns T M id ft fo g dq ++ tl) ++ dy) (ad 6) g u := PLP_of (kp := 6) (kq := 7) rfl rfl hu4
  refine lv_aload_n hx hb dX11_take_0 rfl (lv_at hl 0 rfl) ?_
  refine va_get (ci := 8) (C := RX11) (T := TX11) (N := 8) hx hb ht iFX11 hown hK hP 0 rfl rfl 1 (by decide) (ht _ kw1_124) (fun _ h9 => h9) rfl dX11_take_1 ?_
  refine ro_V S (c_X1_length (PK_of (ws := (cW cy ad eb es mb mz tp os bits F G u nb ns T M id ft fo g dq ++ tl) ++ dy) (kb := 3) (ka := 4) (N := 1620) rfl rfl (by omega) (by omega))) kw1_220 yv_X1_length ⟨Nat.le_of_ble_eq_true rfl, Nat.le_of_ble_eq_true rfl⟩ hK hP (va_recv hK hP (ci := 2) (q0 := 3) rfl rfl) rfl hl.1 rfl (Nat.le_of_ble_eq_true rfl) dX11_take_4 ⟨(Nat.zero_le _), (Nat.zero_le _)⟩ ?_
  refine lv_istore_n (lv' := [(1, .int (nI os)), (0, .ref (ad 0))]) hx hb dX11_take_7 rfl hl (by decide) rfl (fun ls hl => ?_)
  refine lv_iload_n hx hb dX11_take_8 rfl (lv_at hl 0 rfl) ?_
  refine nv_sipush (k := 1600) hx hb dX11_take_9 (by decide) ?_
  refine nv_icmp_le (tgt := 17) hx hb dX11_take_12 (by decide) (by omega) (by omega) (fun h12 => ?_) (fun h12 => ?_)
  · skip
    exact absurd h12 (by omega)
  refine lv_iconst (v := -1) hx hb dX11_take_15 (by decide) ?_
  exact hend (rfl) dX11_take_16
set_option maxHeartbeats 4000000 in
set_option maxRecDepth 100000 in
theorem c_X11_take {l : Launch} {D : va_G} {cy : Nat → ClassId} {ad : Nat → Nat} {tl dy : va_W} {eb es tp os bits F G u nb ns T M id : Nat} {mb mz : Int32} {ft fo : Nat → UInt8} {g : Nat → Int32} {dq : Nat → Nat} (htp : tp ≤ 1600) (hos : os ≤ 1620) (hsi : SI bits F G) (hu4 : u ≤ 4) (hbig : os ≤ 1600) : WR (S := Unit) l yX11_take cX11_take 2 (some .int) 2 0 0 65 [.ref (ad 0)] D cy ((cW cy ad eb es mb mz tp os bits F G u nb ns T M id ft fo g dq ++ tl) ++ dy) (fun u_ => some (.int (nI os))) (fun _ => True) (fun _ => (cW cy ad eb es mb mz os os bits F G u nb ns T M id (va_cpy fo ft 0 0 os) fo g dq ++ tl) ++ dy) := by
  refine WRi (by decide) (lv0 := [(0, .ref (ad 0))]) rfl (Nat.le_of_ble_eq_true rfl) ?_
  intro p e s m args below meth c ls A Q S hnm hP hK hD hS hA hend hl
  have hx := S.1
  have hb := S.2.1
  have hown : s.vm.findClass RX11 = some m.cls := S.2.2.2.1
  have ht : ∀ w ∈ lw_g, w.before args s = true := fun w h => S.2.2.2.2 w (List.mem_cons_of_mem _ h)
  have hP : va_P D vwCl ((cW cy ad eb es mb mz tp os bits F G u nb ns T M id ft fo g dq ++ tl) ++ dy) s.heap := hP
  have hT : ((cW cy ad eb es mb mz tp os bits F G u nb ns T M id ft fo g dq ++ tl) ++ dy)[8]? = some (tE (ad 8) (ad 9) (ad 10) T) := rfl
  have hLb : ((cW cy ad eb es mb mz tp os bits F G u nb ns T M id ft fo g dq ++ tl) ++ dy)[9]? = some (aL (ad 9) mb eb nb) := rfl
  have hLs : ((cW cy ad eb es mb mz tp os bits F G u nb ns T M id ft fo g dq ++ tl) ++ dy)[10]? = some (aL (ad 10) mz es ns) := rfl
  have hST : STP ((cW cy ad eb es mb mz tp os bits F G u nb ns T M id ft fo g dq ++ tl) ++ dy) (ad 5) bits F G := STP_of (ks := 5) rfl hsi
  have hPL : PLP cy ((cW cy ad eb es mb mz tp os bits F G u nb ns T M id ft fo g dq ++ tl) ++ dy) (ad 6) g u := PLP_of (kp := 6) (kq := 7) rfl rfl hu4
  refine lv_aload_n hx hb dX11_take_0 rfl (lv_at hl 0 rfl) ?_
  refine va_get (ci := 8) (C := RX11) (T := TX11) (N := 8) hx hb ht iFX11 hown hK hP 0 rfl rfl 1 (by decide) (ht _ kw1_124) (fun _ h9 => h9) rfl dX11_take_1 ?_
  refine ro_V S (c_X1_length (PK_of (ws := (cW cy ad eb es mb mz tp os bits F G u nb ns T M id ft fo g dq ++ tl) ++ dy) (kb := 3) (ka := 4) (N := 1620) rfl rfl (by omega) (by omega))) kw1_220 yv_X1_length ⟨Nat.le_of_ble_eq_true rfl, Nat.le_of_ble_eq_true rfl⟩ hK hP (va_recv hK hP (ci := 2) (q0 := 3) rfl rfl) rfl hl.1 rfl (Nat.le_of_ble_eq_true rfl) dX11_take_4 ⟨(Nat.zero_le _), (Nat.zero_le _)⟩ ?_
  refine lv_istore_n (lv' := [(1, .int (nI os)), (0, .ref (ad 0))]) hx hb dX11_take_7 rfl hl (by decide) rfl (fun ls hl => ?_)
  refine lv_iload_n hx hb dX11_take_8 rfl (lv_at hl 0 rfl) ?_
  refine nv_sipush (k := 1600) hx hb dX11_take_9 (by decide) ?_
  refine nv_icmp_le (tgt := 17) hx hb dX11_take_12 (by decide) (by omega) (by omega) (fun h12 => ?_) (fun h12 => ?_)
  · skip
    refine lv_aload_n hx hb dX11_take_17 rfl (lv_at hl 1 rfl) ?_
    refine va_get (ci := 8) (C := RX11) (T := TX11) (N := 8) hx hb ht iFX11 hown hK hP 0 rfl rfl 0 (by decide) (ht _ kw1_123) (fun _ h9 => h9) rfl dX11_take_18 ?_
    refine lv_iload_n hx hb dX11_take_21 rfl (lv_at hl 0 rfl) ?_
    refine wr_V S (c_X1_resize (ws := (cW cy ad eb es mb mz tp os bits F G u nb ns T M id ft fo g dq ++ tl) ++ dy) (kb := 1) (ka := 2) rfl rfl (by omega) (by omega) (x := os) (by omega)) kw1_224 yv_X1_resize ⟨Nat.le_of_ble_eq_true rfl, Nat.le_of_ble_eq_true rfl⟩ hK hP hD hS hA (va_recv hK hP (ci := 2) (q0 := 1) rfl rfl) rfl hl.1 rfl (Nat.le_of_ble_eq_true rfl) dX11_take_22 ⟨(Nat.zero_le _), (Nat.zero_le _)⟩ (fun g22 H locs hg22 hP hD hS => ?_)
    have hP : va_P D vwCl ((cW cy ad eb es mb mz os os bits F G u nb ns T M id ft fo g dq ++ tl) ++ dy) H := hP
    have hD : va_D A ((cW cy ad eb es mb mz os os bits F G u nb ns T M id ft fo g dq ++ tl) ++ dy) := hD
    refine W.eq (g2 := F0 m 25 ls []) rfl ?_
    refine lv_aload_n hx hb dX11_take_25 rfl (lv_at hl 1 rfl) ?_
    refine va_get (ci := 8) (C := RX11) (T := TX11) (N := 8) hx hb ht iFX11 hown hK hP 0 rfl rfl 0 (by decide) (ht _ kw1_123) (fun _ h9 => h9) rfl dX11_take_26 ?_
    refine lv_aload_n hx hb dX11_take_29 rfl (lv_at hl 1 rfl) ?_
    refine va_get (ci := 8) (C := RX11) (T := TX11) (N := 8) hx hb ht iFX11 hown hK hP 0 rfl rfl 1 (by decide) (ht _ kw1_124) (fun _ h9 => h9) rfl dX11_take_30 ?_
    refine nv_iconst (k := 0) hx hb dX11_take_33 rfl ?_
    refine nv_iconst (k := 0) hx hb dX11_take_34 rfl ?_
    refine lv_iload_n hx hb dX11_take_35 rfl (lv_at hl 0 rfl) ?_
    refine wr_V S (c_X1_copy (ws := (cW cy ad eb es mb mz os os bits F G u nb ns T M id ft fo g dq ++ tl) ++ dy) (kb := 1) (ka := 2) rfl rfl (by omega) (by omega) (kb2 := 3) (ka2 := 4) rfl rfl (by omega) (by omega) (by decide) (by decide) (by decide) (by decide) (a := 0) (z := 0) (k := os) (by omega) (by omega)) kw4_10 yv_X1_copy ⟨Nat.le_of_ble_eq_true rfl, Nat.le_of_ble_eq_true rfl⟩ hK hP hD hS hA (va_recv hK hP (ci := 2) (q0 := 1) rfl rfl) rfl hl.1 rfl (Nat.le_of_ble_eq_true rfl) dX11_take_36 ⟨(Nat.zero_le _), (Nat.zero_le _)⟩ (fun g36 H locs hg36 hP hD hS => ?_)
    have hP : va_P D vwCl ((cW cy ad eb es mb mz os os bits F G u nb ns T M id g36 fo g dq ++ tl) ++ dy) H := hP
    have hD : va_D A ((cW cy ad eb es mb mz os os bits F G u nb ns T M id g36 fo g dq ++ tl) ++ dy) := hD
    refine W.eq (g2 := F0 m 39 ls []) rfl ?_
    refine lv_iload_n hx hb dX11_take_39 rfl (lv_at hl 0 rfl) ?_
    rw [hg36] at hP hD
    exact hend () rfl trivial hP hD hS dX11_take_40
  exact absurd h12 (by omega)
theorem dX11_bend_0 : decode cX11_bend 0 = .ok (.iload_n 1, 1) := by decide +kernel
theorem dX11_bend_1 : decode cX11_bend 1 = .ok (.ifCond .lt 14, 3) := by decide +kernel
theorem dX11_bend_4 : decode cX11_bend 4 = .ok (.iload_n 1, 1) := by decide +kernel
theorem dX11_bend_5 : decode cX11_bend 5 = .ok (.aload_n 0, 1) := by decide +kernel
theorem dX11_bend_6 : decode cX11_bend 6 = .ok (.getfield 14, 3) := by decide +kernel
theorem dX11_bend_9 : decode cX11_bend 9 = .ok (.invokevirtual 75, 3) := by decide +kernel
theorem dX11_bend_12 : decode cX11_bend 12 = .ok (.if_icmp .lt 5, 3) := by decide +kernel
theorem dX11_bend_15 : decode cX11_bend 15 = .ok (.iconst (-1), 1) := by decide +kernel
theorem dX11_bend_16 : decode cX11_bend 16 = .ok (.ireturn, 1) := by decide +kernel
theorem dX11_bend_17 : decode cX11_bend 17 = .ok (.aload_n 0, 1) := by decide +kernel
theorem dX11_bend_18 : decode cX11_bend 18 = .ok (.getfield 14, 3) := by decide +kernel
theorem dX11_bend_21 : decode cX11_bend 21 = .ok (.iload_n 1, 1) := by decide +kernel
theorem dX11_bend_22 : decode cX11_bend 22 = .ok (.invokevirtual 102, 3) := by decide +kernel
theorem dX11_bend_25 : decode cX11_bend 25 = .ok (.istore_n 3, 1) := by decide +kernel
theorem dX11_bend_26 : decode cX11_bend 26 = .ok (.aload_n 0, 1) := by decide +kernel
theorem dX11_bend_27 : decode cX11_bend 27 = .ok (.getfield 14, 3) := by decide +kernel
theorem dX11_bend_30 : decode cX11_bend 30 = .ok (.iload_n 1, 1) := by decide +kernel
theorem dX11_bend_31 : decode cX11_bend 31 = .ok (.iload_n 3, 1) := by decide +kernel
theorem dX11_bend_32 : decode cX11_bend 32 = .ok (.iload_n 2, 1) := by decide +kernel
theorem dX11_bend_33 : decode cX11_bend 33 = .ok (.ixor, 1) := by decide +kernel
theorem dX11_bend_34 : decode cX11_bend 34 = .ok (.invokevirtual 105, 3) := by decide +kernel
theorem dX11_bend_37 : decode cX11_bend 37 = .ok (.iload_n 3, 1) := by decide +kernel
theorem dX11_bend_38 : decode cX11_bend 38 = .ok (.ireturn, 1) := by decide +kernel
theorem yv_X11_bend : YV RX11 yX11_bend cX11_bend 4 (some .int) 2 := ⟨kw4_12, kw4_13, kw1_1, kw4_14, by decide +kernel⟩
set_option maxHeartbeats 4000000 in
set_option maxRecDepth 100000 in
theorem c_X11_bendG {l : Launch} {D : va_G} {cy : Nat → ClassId} {ad : Nat → Nat} {tl dy : va_W} {eb es tp os bits F G u nb ns T M id : Nat} {mb mz : Int32} {ft fo : Nat → UInt8} {g : Nat → Int32} {dq : Nat → Nat} (htp : tp ≤ 1600) (hos : os ≤ 1620) (hsi : SI bits F G) (hu4 : u ≤ 4) {i : Nat} {mk : Int32} (hi : i < 2 ^ 31) (hi2 : tp ≤ i) : RO l yX11_bend cX11_bend 4 (some .int) 1 20 [.ref (ad 0), .int (nI i), .int mk] D cy ((cW cy ad eb es mb mz tp os bits F G u nb ns T M id ft fo g dq ++ tl) ++ dy) (.int (-1)) := by
  refine ROi (by decide) (lv0 := [(0, .ref (ad 0)), (1, .int (nI i)), (2, .int mk)]) rfl (Nat.le_of_ble_eq_true rfl) ?_
  intro p e s m args below meth c ls Q S hP hK hend hl
  have hx := S.1
  have hb := S.2.1
  have hown : s.vm.findClass RX11 = some m.cls := S.2.2.2.1
  have ht : ∀ w ∈ lw_g, w.before args s = true := fun w h => S.2.2.2.2 w (List.mem_cons_of_mem _ h)
  have hP : va_P D vwCl ((cW cy ad eb es mb mz tp os bits F G u nb ns T M id ft fo g dq ++ tl) ++ dy) s.heap := hP
  have hT : ((cW cy ad eb es mb mz tp os bits F G u nb ns T M id ft fo g dq ++ tl) ++ dy)[8]? = some (tE (ad 8) (ad 9) (ad 10) T) := rfl
  have hLb : ((cW cy ad eb es mb mz tp os bits F G u nb ns T M id ft fo g dq ++ tl) ++ dy)[9]? = some (aL (ad 9) mb eb nb) := rfl
  have hLs : ((cW cy ad eb es mb mz tp os bits F G u nb ns T M id ft fo g dq ++ tl) ++ dy)[10]? = some (aL (ad 10) mz es ns) := rfl
  have hST : STP ((cW cy ad eb es mb mz tp os bits F G u nb ns T M id ft fo g dq ++ tl) ++ dy) (ad 5) bits F G := STP_of (ks := 5) rfl hsi
  have hPL : PLP cy ((cW cy ad eb es mb mz tp os bits F G u nb ns T M id ft fo g dq ++ tl) ++ dy) (ad 6) g u := PLP_of (kp := 6) (kq := 7) rfl rfl hu4
  refine lv_iload_n hx hb dX11_bend_0 rfl (lv_at hl 1 rfl) ?_
  refine nv_if_lt (tgt := 15) hx hb dX11_bend_1 (by decide) (by omega) ?_
  refine lv_iload_n hx hb dX11_bend_4 rfl (lv_at hl 1 rfl) ?_
  refine lv_aload_n hx hb dX11_bend_5 rfl (lv_at hl 0 rfl) ?_
  refine va_get (ci := 8) (C := RX11) (T := TX11) (N := 8) hx hb ht iFX11 hown hK hP 0 rfl rfl 0 (by decide) (ht _ kw1_123) (fun _ h9 => h9) rfl dX11_bend_6 ?_
  refine ro_V S (c_X1_length (PK_of (ws := (cW cy ad eb es mb mz tp os bits F G u nb ns T M id ft fo g dq ++ tl) ++ dy) (kb := 1) (ka := 2) (N := 1600) rfl rfl (by omega) (by omega))) kw1_220 yv_X1_length ⟨Nat.le_of_ble_eq_true rfl, Nat.le_of_ble_eq_true rfl⟩ hK hP (va_recv hK hP (ci := 2) (q0 := 1) rfl rfl) rfl hl.1 rfl (Nat.le_of_ble_eq_true rfl) dX11_bend_9 ⟨(Nat.zero_le _), (Nat.zero_le _)⟩ ?_
  refine nv_icmp_lt (tgt := 17) hx hb dX11_bend_12 (by decide) (by omega) (by omega) (fun h12 => ?_) (fun h12 => ?_)
  · skip
    exact absurd h12 (by omega)
  refine lv_iconst (v := -1) hx hb dX11_bend_15 (by decide) ?_
  exact hend (rfl) dX11_bend_16
set_option maxHeartbeats 4000000 in
set_option maxRecDepth 100000 in
theorem c_X11_bendN {l : Launch} {D : va_G} {cy : Nat → ClassId} {ad : Nat → Nat} {tl dy : va_W} {eb es tp os bits F G u nb ns T M id : Nat} {mb mz : Int32} {ft fo : Nat → UInt8} {g : Nat → Int32} {dq : Nat → Nat} (htp : tp ≤ 1600) (hos : os ≤ 1620) (hsi : SI bits F G) (hu4 : u ≤ 4) {i mk : Int32} (hneg : i < 0) : RO l yX11_bend cX11_bend 4 (some .int) 0 0 [.ref (ad 0), .int i, .int mk] D cy ((cW cy ad eb es mb mz tp os bits F G u nb ns T M id ft fo g dq ++ tl) ++ dy) (.int (-1)) := by
  refine ROi (by decide) (lv0 := [(0, .ref (ad 0)), (1, .int i), (2, .int mk)]) rfl (Nat.le_of_ble_eq_true rfl) ?_
  intro p e s m args below meth c ls Q S hP hK hend hl
  have hx := S.1
  have hb := S.2.1
  have hown : s.vm.findClass RX11 = some m.cls := S.2.2.2.1
  have ht : ∀ w ∈ lw_g, w.before args s = true := fun w h => S.2.2.2.2 w (List.mem_cons_of_mem _ h)
  have hP : va_P D vwCl ((cW cy ad eb es mb mz tp os bits F G u nb ns T M id ft fo g dq ++ tl) ++ dy) s.heap := hP
  have hT : ((cW cy ad eb es mb mz tp os bits F G u nb ns T M id ft fo g dq ++ tl) ++ dy)[8]? = some (tE (ad 8) (ad 9) (ad 10) T) := rfl
  have hLb : ((cW cy ad eb es mb mz tp os bits F G u nb ns T M id ft fo g dq ++ tl) ++ dy)[9]? = some (aL (ad 9) mb eb nb) := rfl
  have hLs : ((cW cy ad eb es mb mz tp os bits F G u nb ns T M id ft fo g dq ++ tl) ++ dy)[10]? = some (aL (ad 10) mz es ns) := rfl
  have hST : STP ((cW cy ad eb es mb mz tp os bits F G u nb ns T M id ft fo g dq ++ tl) ++ dy) (ad 5) bits F G := STP_of (ks := 5) rfl hsi
  have hPL : PLP cy ((cW cy ad eb es mb mz tp os bits F G u nb ns T M id ft fo g dq ++ tl) ++ dy) (ad 6) g u := PLP_of (kp := 6) (kq := 7) rfl rfl hu4
  refine lv_iload_n hx hb dX11_bend_0 rfl (lv_at hl 1 rfl) ?_
  refine lv_if_lt (tgt := 15) hx hb dX11_bend_1 (by decide) (fun h1 => ?_) (fun h1 => ?_)
  · skip
    refine lv_iconst (v := -1) hx hb dX11_bend_15 (by decide) ?_
    exact hend (rfl) dX11_bend_16
  exact absurd hneg h1
set_option maxHeartbeats 4000000 in
set_option maxRecDepth 100000 in
theorem c_X11_bend {l : Launch} {D : va_G} {cy : Nat → ClassId} {ad : Nat → Nat} {tl dy : va_W} {eb es tp os bits F G u nb ns T M id : Nat} {mb mz : Int32} {ft fo : Nat → UInt8} {g : Nat → Int32} {dq : Nat → Nat} (htp : tp ≤ 1600) (hos : os ≤ 1620) (hsi : SI bits F G) (hu4 : u ≤ 4) {i : Nat} {mk : Int32} (hi : i < tp) : WR (S := Unit) l yX11_bend cX11_bend 4 (some .int) 1 0 0 22 [.ref (ad 0), .int (nI i), .int mk] D cy ((cW cy ad eb es mb mz tp os bits F G u nb ns T M id ft fo g dq ++ tl) ++ dy) (fun u_ => some (.int (nI (tg_rd ft tp i)))) (fun _ => True) (fun _ => (cW cy ad eb es mb mz tp os bits F G u nb ns T M id (va_up ft i (by8 (nI (tg_rd ft tp i) ^^^ mk))) fo g dq ++ tl) ++ dy) := by
  refine WRi (by decide) (lv0 := [(0, .ref (ad 0)), (1, .int (nI i)), (2, .int mk)]) rfl (Nat.le_of_ble_eq_true rfl) ?_
  intro p e s m args below meth c ls A Q S hnm hP hK hD hS hA hend hl
  have hx := S.1
  have hb := S.2.1
  have hown : s.vm.findClass RX11 = some m.cls := S.2.2.2.1
  have ht : ∀ w ∈ lw_g, w.before args s = true := fun w h => S.2.2.2.2 w (List.mem_cons_of_mem _ h)
  have hP : va_P D vwCl ((cW cy ad eb es mb mz tp os bits F G u nb ns T M id ft fo g dq ++ tl) ++ dy) s.heap := hP
  have hT : ((cW cy ad eb es mb mz tp os bits F G u nb ns T M id ft fo g dq ++ tl) ++ dy)[8]? = some (tE (ad 8) (ad 9) (ad 10) T) := rfl
  have hLb : ((cW cy ad eb es mb mz tp os bits F G u nb ns T M id ft fo g dq ++ tl) ++ dy)[9]? = some (aL (ad 9) mb eb nb) := rfl
  have hLs : ((cW cy ad eb es mb mz tp os bits F G u nb ns T M id ft fo g dq ++ tl) ++ dy)[10]? = some (aL (ad 10) mz es ns) := rfl
  have hST : STP ((cW cy ad eb es mb mz tp os bits F G u nb ns T M id ft fo g dq ++ tl) ++ dy) (ad 5) bits F G := STP_of (ks := 5) rfl hsi
  have hPL : PLP cy ((cW cy ad eb es mb mz tp os bits F G u nb ns T M id ft fo g dq ++ tl) ++ dy) (ad 6) g u := PLP_of (kp := 6) (kq := 7) rfl rfl hu4
  refine lv_iload_n hx hb dX11_bend_0 rfl (lv_at hl 1 rfl) ?_
  refine nv_if_lt (tgt := 15) hx hb dX11_bend_1 (by decide) (by omega) ?_
  refine lv_iload_n hx hb dX11_bend_4 rfl (lv_at hl 1 rfl) ?_
  refine lv_aload_n hx hb dX11_bend_5 rfl (lv_at hl 0 rfl) ?_
  refine va_get (ci := 8) (C := RX11) (T := TX11) (N := 8) hx hb ht iFX11 hown hK hP 0 rfl rfl 0 (by decide) (ht _ kw1_123) (fun _ h9 => h9) rfl dX11_bend_6 ?_
  refine ro_V S (c_X1_length (PK_of (ws := (cW cy ad eb es mb mz tp os bits F G u nb ns T M id ft fo g dq ++ tl) ++ dy) (kb := 1) (ka := 2) (N := 1600) rfl rfl (by omega) (by omega))) kw1_220 yv_X1_length ⟨Nat.le_of_ble_eq_true rfl, Nat.le_of_ble_eq_true rfl⟩ hK hP (va_recv hK hP (ci := 2) (q0 := 1) rfl rfl) rfl hl.1 rfl (Nat.le_of_ble_eq_true rfl) dX11_bend_9 ⟨(Nat.zero_le _), (Nat.zero_le _)⟩ ?_
  refine nv_icmp_lt (tgt := 17) hx hb dX11_bend_12 (by decide) (by omega) (by omega) (fun h12 => ?_) (fun h12 => ?_)
  · skip
    refine lv_aload_n hx hb dX11_bend_17 rfl (lv_at hl 0 rfl) ?_
    refine va_get (ci := 8) (C := RX11) (T := TX11) (N := 8) hx hb ht iFX11 hown hK hP 0 rfl rfl 0 (by decide) (ht _ kw1_123) (fun _ h9 => h9) rfl dX11_bend_18 ?_
    refine lv_iload_n hx hb dX11_bend_21 rfl (lv_at hl 1 rfl) ?_
    refine ro_V S (c_X1_octet (PK_of (ws := (cW cy ad eb es mb mz tp os bits F G u nb ns T M id ft fo g dq ++ tl) ++ dy) (kb := 1) (ka := 2) (N := 1600) rfl rfl (by omega) (by omega)) (k := i) (by omega)) kw3_194 yv_X1_octet ⟨Nat.le_of_ble_eq_true rfl, Nat.le_of_ble_eq_true rfl⟩ hK hP (va_recv hK hP (ci := 2) (q0 := 1) rfl rfl) rfl hl.1 rfl (Nat.le_of_ble_eq_true rfl) dX11_bend_22 ⟨(Nat.zero_le _), (Nat.zero_le _)⟩ ?_
    have hq22 := tg_rd_lt ft tp i
    refine lv_istore_n (lv' := [(3, .int (nI (tg_rd ft tp i))), (0, .ref (ad 0)), (1, .int (nI i)), (2, .int mk)]) hx hb dX11_bend_25 rfl hl (by decide) rfl (fun ls hl => ?_)
    refine lv_aload_n hx hb dX11_bend_26 rfl (lv_at hl 1 rfl) ?_
    refine va_get (ci := 8) (C := RX11) (T := TX11) (N := 8) hx hb ht iFX11 hown hK hP 0 rfl rfl 0 (by decide) (ht _ kw1_123) (fun _ h9 => h9) rfl dX11_bend_27 ?_
    refine lv_iload_n hx hb dX11_bend_30 rfl (lv_at hl 2 rfl) ?_
    refine lv_iload_n hx hb dX11_bend_31 rfl (lv_at hl 0 rfl) ?_
    refine lv_iload_n hx hb dX11_bend_32 rfl (lv_at hl 3 rfl) ?_
    refine lv_ixor hx hb dX11_bend_33 ?_
    refine wr_V S (c_X1_put (ws := (cW cy ad eb es mb mz tp os bits F G u nb ns T M id ft fo g dq ++ tl) ++ dy) (kb := 1) (ka := 2) rfl rfl (by omega) (by omega) (k := i) (x := (nI (tg_rd ft tp i) ^^^ (mk))) (by omega)) kw4_15 yv_X1_put ⟨Nat.le_of_ble_eq_true rfl, Nat.le_of_ble_eq_true rfl⟩ hK hP hD hS hA (va_recv hK hP (ci := 2) (q0 := 1) rfl rfl) rfl hl.1 rfl (Nat.le_of_ble_eq_true rfl) dX11_bend_34 ⟨(Nat.zero_le _), (Nat.zero_le _)⟩ (fun g34 H locs hg34 hP hD hS => ?_)
    have hP : va_P D vwCl ((cW cy ad eb es mb mz tp os bits F G u nb ns T M id g34 fo g dq ++ tl) ++ dy) H := hP
    have hD : va_D A ((cW cy ad eb es mb mz tp os bits F G u nb ns T M id g34 fo g dq ++ tl) ++ dy) := hD
    refine W.eq (g2 := F0 m 37 ls []) rfl ?_
    refine lv_iload_n hx hb dX11_bend_37 rfl (lv_at hl 0 rfl) ?_
    rw [hg34] at hP hD
    exact hend () rfl trivial hP hD hS dX11_bend_38
  exact absurd h12 (by omega)
theorem dX11_signHead_0 : decode cX11_signHead 0 = .ok (.aload_n 0, 1) := by decide +kernel
theorem dX11_signHead_1 : decode cX11_signHead 1 = .ok (.getfield 14, 3) := by decide +kernel
theorem dX11_signHead_4 : decode cX11_signHead 4 = .ok (.invokevirtual 75, 3) := by decide +kernel
theorem dX11_signHead_7 : decode cX11_signHead 7 = .ok (.bipush 20, 2) := by decide +kernel
theorem dX11_signHead_9 : decode cX11_signHead 9 = .ok (.if_icmp .ge 5, 3) := by decide +kernel
theorem dX11_signHead_12 : decode cX11_signHead 12 = .ok (.iconst (-1), 1) := by decide +kernel
theorem dX11_signHead_13 : decode cX11_signHead 13 = .ok (.ireturn, 1) := by decide +kernel
theorem dX11_signHead_14 : decode cX11_signHead 14 = .ok (.aload_n 0, 1) := by decide +kernel
theorem dX11_signHead_15 : decode cX11_signHead 15 = .ok (.getfield 14, 3) := by decide +kernel
theorem dX11_signHead_18 : decode cX11_signHead 18 = .ok (.invokestatic 123, 3) := by decide +kernel
theorem dX11_signHead_21 : decode cX11_signHead 21 = .ok (.istore_n 1, 1) := by decide +kernel
theorem dX11_signHead_22 : decode cX11_signHead 22 = .ok (.aload_n 0, 1) := by decide +kernel
theorem dX11_signHead_23 : decode cX11_signHead 23 = .ok (.getfield 14, 3) := by decide +kernel
theorem dX11_signHead_26 : decode cX11_signHead 26 = .ok (.bipush 10, 2) := by decide +kernel
theorem dX11_signHead_28 : decode cX11_signHead 28 = .ok (.iload_n 1, 1) := by decide +kernel
theorem dX11_signHead_29 : decode cX11_signHead 29 = .ok (.invokevirtual 120, 3) := by decide +kernel
theorem dX11_signHead_32 : decode cX11_signHead 32 = .ok (.iload_n 1, 1) := by decide +kernel
theorem dX11_signHead_33 : decode cX11_signHead 33 = .ok (.ireturn, 1) := by decide +kernel
theorem yv_X11_signHead : YV RX11 yX11_signHead cX11_signHead 2 (some .int) 0 := ⟨kw4_26, kw4_27, kw1_1, kw4_28, by decide +kernel⟩
set_option maxHeartbeats 4000000 in
set_option maxRecDepth 100000 in
theorem c_X11_signHeadG {l : Launch} {D : va_G} {cy : Nat → ClassId} {ad : Nat → Nat} {tl dy : va_W} {eb es tp os bits F G u nb ns T M id : Nat} {mb mz : Int32} {ft fo : Nat → UInt8} {g : Nat → Int32} {dq : Nat → Nat} (htp : tp ≤ 1600) (hos : os ≤ 1620) (hsi : SI bits F G) (hu4 : u ≤ 4) (hsm : tp < 20) : RO l yX11_signHead cX11_signHead 2 (some .int) 1 20 [.ref (ad 0)] D cy ((cW cy ad eb es mb mz tp os bits F G u nb ns T M id ft fo g dq ++ tl) ++ dy) (.int (-1)) := by
  refine ROi (by decide) (lv0 := [(0, .ref (ad 0))]) rfl (Nat.le_of_ble_eq_true rfl) ?_
  intro p e s m args below meth c ls Q S hP hK hend hl
  have hx := S.1
  have hb := S.2.1
  have hown : s.vm.findClass RX11 = some m.cls := S.2.2.2.1
  have ht : ∀ w ∈ lw_g, w.before args s = true := fun w h => S.2.2.2.2 w (List.mem_cons_of_mem _ h)
  have hP : va_P D vwCl ((cW cy ad eb es mb mz tp os bits F G u nb ns T M id ft fo g dq ++ tl) ++ dy) s.heap := hP
  have hT : ((cW cy ad eb es mb mz tp os bits F G u nb ns T M id ft fo g dq ++ tl) ++ dy)[8]? = some (tE (ad 8) (ad 9) (ad 10) T) := rfl
  have hLb : ((cW cy ad eb es mb mz tp os bits F G u nb ns T M id ft fo g dq ++ tl) ++ dy)[9]? = some (aL (ad 9) mb eb nb) := rfl
  have hLs : ((cW cy ad eb es mb mz tp os bits F G u nb ns T M id ft fo g dq ++ tl) ++ dy)[10]? = some (aL (ad 10) mz es ns) := rfl
  have hST : STP ((cW cy ad eb es mb mz tp os bits F G u nb ns T M id ft fo g dq ++ tl) ++ dy) (ad 5) bits F G := STP_of (ks := 5) rfl hsi
  have hPL : PLP cy ((cW cy ad eb es mb mz tp os bits F G u nb ns T M id ft fo g dq ++ tl) ++ dy) (ad 6) g u := PLP_of (kp := 6) (kq := 7) rfl rfl hu4
  refine lv_aload_n hx hb dX11_signHead_0 rfl (lv_at hl 0 rfl) ?_
  refine va_get (ci := 8) (C := RX11) (T := TX11) (N := 8) hx hb ht iFX11 hown hK hP 0 rfl rfl 0 (by decide) (ht _ kw1_123) (fun _ h9 => h9) rfl dX11_signHead_1 ?_
  refine ro_V S (c_X1_length (PK_of (ws := (cW cy ad eb es mb mz tp os bits F G u nb ns T M id ft fo g dq ++ tl) ++ dy) (kb := 1) (ka := 2) (N := 1600) rfl rfl (by omega) (by omega))) kw1_220 yv_X1_length ⟨Nat.le_of_ble_eq_true rfl, Nat.le_of_ble_eq_true rfl⟩ hK hP (va_recv hK hP (ci := 2) (q0 := 1) rfl rfl) rfl hl.1 rfl (Nat.le_of_ble_eq_true rfl) dX11_signHead_4 ⟨(Nat.zero_le _), (Nat.zero_le _)⟩ ?_
  refine nv_bipush (k := 20) hx hb dX11_signHead_7 (by decide) ?_
  refine nv_icmp_ge (tgt := 14) hx hb dX11_signHead_9 (by decide) (by omega) (by omega) (fun h9 => ?_) (fun h9 => ?_)
  · skip
    exact absurd h9 (by omega)
  refine lv_iconst (v := -1) hx hb dX11_signHead_12 (by decide) ?_
  exact hend (rfl) dX11_signHead_13
set_option maxHeartbeats 4000000 in
set_option maxRecDepth 100000 in
theorem c_X11_signHead {l : Launch} {D : va_G} {cy : Nat → ClassId} {ad : Nat → Nat} {tl dy : va_W} {eb es tp os bits F G u nb ns T M id : Nat} {mb mz : Int32} {ft fo : Nat → UInt8} {g : Nat → Int32} {dq : Nat → Nat} (htp : tp ≤ 1600) (hos : os ≤ 1620) (hsi : SI bits F G) (hu4 : u ≤ 4) (hsm : 20 ≤ tp) : WR (S := Unit) l yX11_signHead cX11_signHead 2 (some .int) 3 0 0 66 [.ref (ad 0)] D cy ((cW cy ad eb es mb mz tp os bits F G u nb ns T M id ft fo g dq ++ tl) ++ dy) (fun u_ => some (.int (nI (tg_cl (tg_ws (tg_rd ft tp) 0 10 20))))) (fun _ => True) (fun _ => (cW cy ad eb es mb mz tp os bits F G u nb ns T M id (tg_put ft 10 2 (tg_cl (tg_ws (tg_rd ft tp) 0 10 20))) fo g dq ++ tl) ++ dy) := by
  refine WRi (by decide) (lv0 := [(0, .ref (ad 0))]) rfl (Nat.le_of_ble_eq_true rfl) ?_
  intro p e s m args below meth c ls A Q S hnm hP hK hD hS hA hend hl
  have hx := S.1
  have hb := S.2.1
  have hown : s.vm.findClass RX11 = some m.cls := S.2.2.2.1
  have ht : ∀ w ∈ lw_g, w.before args s = true := fun w h => S.2.2.2.2 w (List.mem_cons_of_mem _ h)
  have hP : va_P D vwCl ((cW cy ad eb es mb mz tp os bits F G u nb ns T M id ft fo g dq ++ tl) ++ dy) s.heap := hP
  have hT : ((cW cy ad eb es mb mz tp os bits F G u nb ns T M id ft fo g dq ++ tl) ++ dy)[8]? = some (tE (ad 8) (ad 9) (ad 10) T) := rfl
  have hLb : ((cW cy ad eb es mb mz tp os bits F G u nb ns T M id ft fo g dq ++ tl) ++ dy)[9]? = some (aL (ad 9) mb eb nb) := rfl
  have hLs : ((cW cy ad eb es mb mz tp os bits F G u nb ns T M id ft fo g dq ++ tl) ++ dy)[10]? = some (aL (ad 10) mz es ns) := rfl
  have hST : STP ((cW cy ad eb es mb mz tp os bits F G u nb ns T M id ft fo g dq ++ tl) ++ dy) (ad 5) bits F G := STP_of (ks := 5) rfl hsi
  have hPL : PLP cy ((cW cy ad eb es mb mz tp os bits F G u nb ns T M id ft fo g dq ++ tl) ++ dy) (ad 6) g u := PLP_of (kp := 6) (kq := 7) rfl rfl hu4
  have hcl := tg_cl_le (tg_ws (tg_rd ft tp) 0 10 20)
  refine lv_aload_n hx hb dX11_signHead_0 rfl (lv_at hl 0 rfl) ?_
  refine va_get (ci := 8) (C := RX11) (T := TX11) (N := 8) hx hb ht iFX11 hown hK hP 0 rfl rfl 0 (by decide) (ht _ kw1_123) (fun _ h9 => h9) rfl dX11_signHead_1 ?_
  refine ro_V S (c_X1_length (PK_of (ws := (cW cy ad eb es mb mz tp os bits F G u nb ns T M id ft fo g dq ++ tl) ++ dy) (kb := 1) (ka := 2) (N := 1600) rfl rfl (by omega) (by omega))) kw1_220 yv_X1_length ⟨Nat.le_of_ble_eq_true rfl, Nat.le_of_ble_eq_true rfl⟩ hK hP (va_recv hK hP (ci := 2) (q0 := 1) rfl rfl) rfl hl.1 rfl (Nat.le_of_ble_eq_true rfl) dX11_signHead_4 ⟨(Nat.zero_le _), (Nat.zero_le _)⟩ ?_
  refine nv_bipush (k := 20) hx hb dX11_signHead_7 (by decide) ?_
  refine nv_icmp_ge (tgt := 14) hx hb dX11_signHead_9 (by decide) (by omega) (by omega) (fun h9 => ?_) (fun h9 => ?_)
  · skip
    refine lv_aload_n hx hb dX11_signHead_14 rfl (lv_at hl 0 rfl) ?_
    refine va_get (ci := 8) (C := RX11) (T := TX11) (N := 8) hx hb ht iFX11 hown hK hP 0 rfl rfl 0 (by decide) (ht _ kw1_123) (fun _ h9 => h9) rfl dX11_signHead_15 ?_
    refine ro_S S (c_X9_ofHead (PK_of (ws := (cW cy ad eb es mb mz tp os bits F G u nb ns T M id ft fo g dq ++ tl) ++ dy) (kb := 1) (ka := 2) (N := 1600) rfl rfl (by omega) (by omega))) kw4_29 yv_X9_ofHead ⟨Nat.le_of_ble_eq_true rfl, Nat.le_of_ble_eq_true rfl⟩ hK hP rfl hl.1 rfl (Nat.le_of_ble_eq_true rfl) dX11_signHead_18 ⟨(Nat.zero_le _), (Nat.zero_le _)⟩ ?_
    have hq18 := tg_cl_le (tg_ws (tg_rd ft tp) 0 10 20)
    refine lv_istore_n (lv' := [(1, .int (nI (tg_cl (tg_ws (tg_rd ft tp) 0 10 20)))), (0, .ref (ad 0))]) hx hb dX11_signHead_21 rfl hl (by decide) rfl (fun ls hl => ?_)
    refine lv_aload_n hx hb dX11_signHead_22 rfl (lv_at hl 1 rfl) ?_
    refine va_get (ci := 8) (C := RX11) (T := TX11) (N := 8) hx hb ht iFX11 hown hK hP 0 rfl rfl 0 (by decide) (ht _ kw1_123) (fun _ h9 => h9) rfl dX11_signHead_23 ?_
    refine nv_bipush (k := 10) hx hb dX11_signHead_26 (by decide) ?_
    refine lv_iload_n hx hb dX11_signHead_28 rfl (lv_at hl 0 rfl) ?_
    refine wr_V S (c_X1_putPair (ws := (cW cy ad eb es mb mz tp os bits F G u nb ns T M id ft fo g dq ++ tl) ++ dy) (kb := 1) (ka := 2) rfl rfl (by omega) (by omega) (a := 10) (x := tg_cl (tg_ws (tg_rd ft tp) 0 10 20)) (by omega) (by omega)) kw4_24 yv_X1_putPair ⟨Nat.le_of_ble_eq_true rfl, Nat.le_of_ble_eq_true rfl⟩ hK hP hD hS hA (va_recv hK hP (ci := 2) (q0 := 1) rfl rfl) rfl hl.1 rfl (Nat.le_of_ble_eq_true rfl) dX11_signHead_29 ⟨(Nat.zero_le _), (Nat.zero_le _)⟩ (fun g29 H locs hg29 hP hD hS => ?_)
    have hP : va_P D vwCl ((cW cy ad eb es mb mz tp os bits F G u nb ns T M id g29 fo g dq ++ tl) ++ dy) H := hP
    have hD : va_D A ((cW cy ad eb es mb mz tp os bits F G u nb ns T M id g29 fo g dq ++ tl) ++ dy) := hD
    refine W.eq (g2 := F0 m 32 ls []) rfl ?_
    refine lv_iload_n hx hb dX11_signHead_32 rfl (lv_at hl 0 rfl) ?_
    rw [hg29] at hP hD
    exact hend () rfl trivial hP hD hS dX11_signHead_33
  exact absurd h9 (by omega)
theorem dX11_feed_0 : decode cX11_feed 0 = .ok (.aload_n 0, 1) := by decide +kernel
theorem dX11_feed_1 : decode cX11_feed 1 = .ok (.getfield 14, 3) := by decide +kernel
theorem dX11_feed_4 : decode cX11_feed 4 = .ok (.invokevirtual 75, 3) := by decide +kernel
theorem dX11_feed_7 : decode cX11_feed 7 = .ok (.istore 6, 2) := by decide +kernel
theorem dX11_feed_9 : decode cX11_feed 9 = .ok (.iload 6, 2) := by decide +kernel
theorem dX11_feed_11 : decode cX11_feed 11 = .ok (.bipush 20, 2) := by decide +kernel
theorem dX11_feed_13 : decode cX11_feed 13 = .ok (.iadd, 1) := by decide +kernel
theorem dX11_feed_14 : decode cX11_feed 14 = .ok (.sipush 1600, 3) := by decide +kernel
theorem dX11_feed_17 : decode cX11_feed 17 = .ok (.if_icmp .le 5, 3) := by decide +kernel
theorem dX11_feed_20 : decode cX11_feed 20 = .ok (.iconst 0, 1) := by decide +kernel
theorem dX11_feed_21 : decode cX11_feed 21 = .ok (.ireturn, 1) := by decide +kernel
theorem dX11_feed_22 : decode cX11_feed 22 = .ok (.aload_n 0, 1) := by decide +kernel
theorem dX11_feed_23 : decode cX11_feed 23 = .ok (.getfield 14, 3) := by decide +kernel
theorem dX11_feed_26 : decode cX11_feed 26 = .ok (.iload 6, 2) := by decide +kernel
theorem dX11_feed_28 : decode cX11_feed 28 = .ok (.bipush 20, 2) := by decide +kernel
theorem dX11_feed_30 : decode cX11_feed 30 = .ok (.iadd, 1) := by decide +kernel
theorem dX11_feed_31 : decode cX11_feed 31 = .ok (.invokevirtual 79, 3) := by decide +kernel
theorem dX11_feed_34 : decode cX11_feed 34 = .ok (.aload_n 0, 1) := by decide +kernel
theorem dX11_feed_35 : decode cX11_feed 35 = .ok (.getfield 14, 3) := by decide +kernel
theorem dX11_feed_38 : decode cX11_feed 38 = .ok (.iload 6, 2) := by decide +kernel
theorem dX11_feed_40 : decode cX11_feed 40 = .ok (.iload_n 1, 1) := by decide +kernel
theorem dX11_feed_41 : decode cX11_feed 41 = .ok (.invokevirtual 82, 3) := by decide +kernel
theorem dX11_feed_44 : decode cX11_feed 44 = .ok (.aload_n 0, 1) := by decide +kernel
theorem dX11_feed_45 : decode cX11_feed 45 = .ok (.getfield 14, 3) := by decide +kernel
theorem dX11_feed_48 : decode cX11_feed 48 = .ok (.iload 6, 2) := by decide +kernel
theorem dX11_feed_50 : decode cX11_feed 50 = .ok (.iconst 4, 1) := by decide +kernel
theorem dX11_feed_51 : decode cX11_feed 51 = .ok (.iadd, 1) := by decide +kernel
theorem dX11_feed_52 : decode cX11_feed 52 = .ok (.iload_n 2, 1) := by decide +kernel
theorem dX11_feed_53 : decode cX11_feed 53 = .ok (.invokevirtual 82, 3) := by decide +kernel
theorem dX11_feed_56 : decode cX11_feed 56 = .ok (.aload_n 0, 1) := by decide +kernel
theorem dX11_feed_57 : decode cX11_feed 57 = .ok (.getfield 14, 3) := by decide +kernel
theorem dX11_feed_60 : decode cX11_feed 60 = .ok (.iload 6, 2) := by decide +kernel
theorem dX11_feed_62 : decode cX11_feed 62 = .ok (.bipush 8, 2) := by decide +kernel
theorem dX11_feed_64 : decode cX11_feed 64 = .ok (.iadd, 1) := by decide +kernel
theorem dX11_feed_65 : decode cX11_feed 65 = .ok (.iload_n 3, 1) := by decide +kernel
theorem dX11_feed_66 : decode cX11_feed 66 = .ok (.invokevirtual 82, 3) := by decide +kernel
theorem dX11_feed_69 : decode cX11_feed 69 = .ok (.aload_n 0, 1) := by decide +kernel
theorem dX11_feed_70 : decode cX11_feed 70 = .ok (.getfield 14, 3) := by decide +kernel
theorem dX11_feed_73 : decode cX11_feed 73 = .ok (.iload 6, 2) := by decide +kernel
theorem dX11_feed_75 : decode cX11_feed 75 = .ok (.bipush 12, 2) := by decide +kernel
theorem dX11_feed_77 : decode cX11_feed 77 = .ok (.iadd, 1) := by decide +kernel
theorem dX11_feed_78 : decode cX11_feed 78 = .ok (.iload 4, 2) := by decide +kernel
theorem dX11_feed_80 : decode cX11_feed 80 = .ok (.invokevirtual 82, 3) := by decide +kernel
theorem dX11_feed_83 : decode cX11_feed 83 = .ok (.aload_n 0, 1) := by decide +kernel
theorem dX11_feed_84 : decode cX11_feed 84 = .ok (.getfield 14, 3) := by decide +kernel
theorem dX11_feed_87 : decode cX11_feed 87 = .ok (.iload 6, 2) := by decide +kernel
theorem dX11_feed_89 : decode cX11_feed 89 = .ok (.bipush 16, 2) := by decide +kernel
theorem dX11_feed_91 : decode cX11_feed 91 = .ok (.iadd, 1) := by decide +kernel
theorem dX11_feed_92 : decode cX11_feed 92 = .ok (.iload 5, 2) := by decide +kernel
theorem dX11_feed_94 : decode cX11_feed 94 = .ok (.invokevirtual 82, 3) := by decide +kernel
theorem dX11_feed_97 : decode cX11_feed 97 = .ok (.iconst 1, 1) := by decide +kernel
theorem dX11_feed_98 : decode cX11_feed 98 = .ok (.ireturn, 1) := by decide +kernel
theorem yv_X11_feed : YV RX11 yX11_feed cX11_feed 7 (some .boolean) 5 := ⟨kw1_217, kw1_218, kw1_1, kw1_219, by decide +kernel⟩
set_option maxHeartbeats 4000000 in
set_option maxRecDepth 100000 in
theorem c_X11_feedG {l : Launch} {D : va_G} {cy : Nat → ClassId} {ad : Nat → Nat} {tl dy : va_W} {eb es tp os bits F G u nb ns T M id : Nat} {mb mz : Int32} {ft fo : Nat → UInt8} {g : Nat → Int32} {dq : Nat → Nat} (htp : tp ≤ 1600) (hos : os ≤ 1620) (hsi : SI bits F G) (hu4 : u ≤ 4) {a b : Int32} {c9 d9 e9 : Int32} (hbig : 1580 < tp) : RO l yX11_feed cX11_feed 7 (some .boolean) 1 20 [.ref (ad 0), .int a, .int b, .int c9, .int d9, .int e9] D cy ((cW cy ad eb es mb mz tp os bits F G u nb ns T M id ft fo g dq ++ tl) ++ dy) (.int (bI (false))) := by
  refine ROz (by decide) (lv0 := [(0, .ref (ad 0)), (1, .int a), (2, .int b), (3, .int c9), (4, .int d9), (5, .int e9)]) rfl (Nat.le_of_ble_eq_true rfl) ?_
  intro p e s m args below meth c ls Q S hP hK hend hl
  have hx := S.1
  have hb := S.2.1
  have hown : s.vm.findClass RX11 = some m.cls := S.2.2.2.1
  have ht : ∀ w ∈ lw_g, w.before args s = true := fun w h => S.2.2.2.2 w (List.mem_cons_of_mem _ h)
  have hP : va_P D vwCl ((cW cy ad eb es mb mz tp os bits F G u nb ns T M id ft fo g dq ++ tl) ++ dy) s.heap := hP
  have hT : ((cW cy ad eb es mb mz tp os bits F G u nb ns T M id ft fo g dq ++ tl) ++ dy)[8]? = some (tE (ad 8) (ad 9) (ad 10) T) := rfl
  have hLb : ((cW cy ad eb es mb mz tp os bits F G u nb ns T M id ft fo g dq ++ tl) ++ dy)[9]? = some (aL (ad 9) mb eb nb) := rfl
  have hLs : ((cW cy ad eb es mb mz tp os bits F G u nb ns T M id ft fo g dq ++ tl) ++ dy)[10]? = some (aL (ad 10) mz es ns) := rfl
  have hST : STP ((cW cy ad eb es mb mz tp os bits F G u nb ns T M id ft fo g dq ++ tl) ++ dy) (ad 5) bits F G := STP_of (ks := 5) rfl hsi
  have hPL : PLP cy ((cW cy ad eb es mb mz tp os bits F G u nb ns T M id ft fo g dq ++ tl) ++ dy) (ad 6) g u := PLP_of (kp := 6) (kq := 7) rfl rfl hu4
  refine lv_aload_n hx hb dX11_feed_0 rfl (lv_at hl 0 rfl) ?_
  refine va_get (ci := 8) (C := RX11) (T := TX11) (N := 8) hx hb ht iFX11 hown hK hP 0 rfl rfl 0 (by decide) (ht _ kw1_123) (fun _ h9 => h9) rfl dX11_feed_1 ?_
  refine ro_V S (c_X1_length (PK_of (ws := (cW cy ad eb es mb mz tp os bits F G u nb ns T M id ft fo g dq ++ tl) ++ dy) (kb := 1) (ka := 2) (N := 1600) rfl rfl (by omega) (by omega))) kw1_220 yv_X1_length ⟨Nat.le_of_ble_eq_true rfl, Nat.le_of_ble_eq_true rfl⟩ hK hP (va_recv hK hP (ci := 2) (q0 := 1) rfl rfl) rfl hl.1 rfl (Nat.le_of_ble_eq_true rfl) dX11_feed_4 ⟨(Nat.zero_le _), (Nat.zero_le _)⟩ ?_
  refine lv_istore (lv' := [(6, .int (nI tp)), (0, .ref (ad 0)), (1, .int a), (2, .int b), (3, .int c9), (4, .int d9), (5, .int e9)]) hx hb dX11_feed_7 hl (by decide) rfl (fun ls hl => ?_)
  refine lv_iload hx hb dX11_feed_9 (lv_at hl 0 rfl) ?_
  refine nv_bipush (k := 20) hx hb dX11_feed_11 (by decide) ?_
  refine nv_iadd hx hb dX11_feed_13 ?_
  refine nv_sipush (k := 1600) hx hb dX11_feed_14 (by decide) ?_
  refine nv_icmp_le (tgt := 22) hx hb dX11_feed_17 (by decide) (by omega) (by omega) (fun h17 => ?_) (fun h17 => ?_)
  · skip
    exact absurd h17 (by omega)
  refine nv_iconst (k := 0) hx hb dX11_feed_20 rfl ?_
  exact hend ((bI_f rfl)) dX11_feed_21
set_option maxHeartbeats 4000000 in
set_option maxRecDepth 100000 in
theorem c_X11_feed {l : Launch} {D : va_G} {cy : Nat → ClassId} {ad : Nat → Nat} {tl dy : va_W} {eb es tp os bits F G u nb ns T M id : Nat} {mb mz : Int32} {ft fo : Nat → UInt8} {g : Nat → Int32} {dq : Nat → Nat} (htp : tp ≤ 1600) (hos : os ≤ 1620) (hsi : SI bits F G) (hu4 : u ≤ 4) {a b c9 d9 e9 : Nat} (ha : a < 2 ^ 32) (hb2 : b < 2 ^ 32) (hc2 : c9 < 2 ^ 32) (hd2 : d9 < 2 ^ 32) (he2 : e9 < 2 ^ 32) (hbig : tp ≤ 1580) : WR (S := Unit) l yX11_feed cX11_feed 7 (some .boolean) 2 0 0 48 [.ref (ad 0), .int (nI a), .int (nI b), .int (nI c9), .int (nI d9), .int (nI e9)] D cy ((cW cy ad eb es mb mz tp os bits F G u nb ns T M id ft fo g dq ++ tl) ++ dy) (fun u_ => some (.int (bI (true)))) (fun _ => True) (fun _ => (cW cy ad eb es mb mz (tp + 20) os bits F G u nb ns T M id (tg_feed ft tp a b c9 d9 e9) fo g dq ++ tl) ++ dy) := by
  refine WRz (by decide) (lv0 := [(0, .ref (ad 0)), (1, .int (nI a)), (2, .int (nI b)), (3, .int (nI c9)), (4, .int (nI d9)), (5, .int (nI e9))]) rfl (Nat.le_of_ble_eq_true rfl) ?_
  intro p e s m args below meth c ls A Q S hnm hP hK hD hS hA hend hl
  have hx := S.1
  have hb := S.2.1
  have hown : s.vm.findClass RX11 = some m.cls := S.2.2.2.1
  have ht : ∀ w ∈ lw_g, w.before args s = true := fun w h => S.2.2.2.2 w (List.mem_cons_of_mem _ h)
  have hP : va_P D vwCl ((cW cy ad eb es mb mz tp os bits F G u nb ns T M id ft fo g dq ++ tl) ++ dy) s.heap := hP
  have hT : ((cW cy ad eb es mb mz tp os bits F G u nb ns T M id ft fo g dq ++ tl) ++ dy)[8]? = some (tE (ad 8) (ad 9) (ad 10) T) := rfl
  have hLb : ((cW cy ad eb es mb mz tp os bits F G u nb ns T M id ft fo g dq ++ tl) ++ dy)[9]? = some (aL (ad 9) mb eb nb) := rfl
  have hLs : ((cW cy ad eb es mb mz tp os bits F G u nb ns T M id ft fo g dq ++ tl) ++ dy)[10]? = some (aL (ad 10) mz es ns) := rfl
  have hST : STP ((cW cy ad eb es mb mz tp os bits F G u nb ns T M id ft fo g dq ++ tl) ++ dy) (ad 5) bits F G := STP_of (ks := 5) rfl hsi
  have hPL : PLP cy ((cW cy ad eb es mb mz tp os bits F G u nb ns T M id ft fo g dq ++ tl) ++ dy) (ad 6) g u := PLP_of (kp := 6) (kq := 7) rfl rfl hu4
  refine lv_aload_n hx hb dX11_feed_0 rfl (lv_at hl 0 rfl) ?_
  refine va_get (ci := 8) (C := RX11) (T := TX11) (N := 8) hx hb ht iFX11 hown hK hP 0 rfl rfl 0 (by decide) (ht _ kw1_123) (fun _ h9 => h9) rfl dX11_feed_1 ?_
  refine ro_V S (c_X1_length (PK_of (ws := (cW cy ad eb es mb mz tp os bits F G u nb ns T M id ft fo g dq ++ tl) ++ dy) (kb := 1) (ka := 2) (N := 1600) rfl rfl (by omega) (by omega))) kw1_220 yv_X1_length ⟨Nat.le_of_ble_eq_true rfl, Nat.le_of_ble_eq_true rfl⟩ hK hP (va_recv hK hP (ci := 2) (q0 := 1) rfl rfl) rfl hl.1 rfl (Nat.le_of_ble_eq_true rfl) dX11_feed_4 ⟨(Nat.zero_le _), (Nat.zero_le _)⟩ ?_
  refine lv_istore (lv' := [(6, .int (nI tp)), (0, .ref (ad 0)), (1, .int (nI a)), (2, .int (nI b)), (3, .int (nI c9)), (4, .int (nI d9)), (5, .int (nI e9))]) hx hb dX11_feed_7 hl (by decide) rfl (fun ls hl => ?_)
  refine lv_iload hx hb dX11_feed_9 (lv_at hl 0 rfl) ?_
  refine nv_bipush (k := 20) hx hb dX11_feed_11 (by decide) ?_
  refine nv_iadd hx hb dX11_feed_13 ?_
  refine nv_sipush (k := 1600) hx hb dX11_feed_14 (by decide) ?_
  refine nv_icmp_le (tgt := 22) hx hb dX11_feed_17 (by decide) (by omega) (by omega) (fun h17 => ?_) (fun h17 => ?_)
  · skip
    refine lv_aload_n hx hb dX11_feed_22 rfl (lv_at hl 1 rfl) ?_
    refine va_get (ci := 8) (C := RX11) (T := TX11) (N := 8) hx hb ht iFX11 hown hK hP 0 rfl rfl 0 (by decide) (ht _ kw1_123) (fun _ h9 => h9) rfl dX11_feed_23 ?_
    refine lv_iload hx hb dX11_feed_26 (lv_at hl 0 rfl) ?_
    refine nv_bipush (k := 20) hx hb dX11_feed_28 (by decide) ?_
    refine nv_iadd hx hb dX11_feed_30 ?_
    refine wr_V S (c_X1_resize (ws := (cW cy ad eb es mb mz tp os bits F G u nb ns T M id ft fo g dq ++ tl) ++ dy) (kb := 1) (ka := 2) rfl rfl (by omega) (by omega) (x := tp + 20) (by omega)) kw1_224 yv_X1_resize ⟨Nat.le_of_ble_eq_true rfl, Nat.le_of_ble_eq_true rfl⟩ hK hP hD hS hA (va_recv hK hP (ci := 2) (q0 := 1) rfl rfl) rfl hl.1 rfl (Nat.le_of_ble_eq_true rfl) dX11_feed_31 ⟨(Nat.zero_le _), (Nat.zero_le _)⟩ (fun g31 H locs hg31 hP hD hS => ?_)
    have hP : va_P D vwCl ((cW cy ad eb es mb mz (tp + 20) os bits F G u nb ns T M id ft fo g dq ++ tl) ++ dy) H := hP
    have hD : va_D A ((cW cy ad eb es mb mz (tp + 20) os bits F G u nb ns T M id ft fo g dq ++ tl) ++ dy) := hD
    refine W.eq (g2 := F0 m 34 ls []) rfl ?_
    refine lv_aload_n hx hb dX11_feed_34 rfl (lv_at hl 1 rfl) ?_
    refine va_get (ci := 8) (C := RX11) (T := TX11) (N := 8) hx hb ht iFX11 hown hK hP 0 rfl rfl 0 (by decide) (ht _ kw1_123) (fun _ h9 => h9) rfl dX11_feed_35 ?_
    refine lv_iload hx hb dX11_feed_38 (lv_at hl 0 rfl) ?_
    refine lv_iload_n hx hb dX11_feed_40 rfl (lv_at hl 2 rfl) ?_
    refine wr_V S (c_X1_putQuad (ws := (cW cy ad eb es mb mz (tp + 20) os bits F G u nb ns T M id ft fo g dq ++ tl) ++ dy) (kb := 1) (ka := 2) rfl rfl (by omega) (by omega) (a := tp) (x := a) (by omega) (by omega)) kw1_231 yv_X1_putQuad ⟨Nat.le_of_ble_eq_true rfl, Nat.le_of_ble_eq_true rfl⟩ hK hP hD hS hA (va_recv hK hP (ci := 2) (q0 := 1) rfl rfl) rfl hl.1 rfl (Nat.le_of_ble_eq_true rfl) dX11_feed_41 ⟨(Nat.zero_le _), (Nat.zero_le _)⟩ (fun g41 H locs hg41 hP hD hS => ?_)
    have hP : va_P D vwCl ((cW cy ad eb es mb mz (tp + 20) os bits F G u nb ns T M id g41 fo g dq ++ tl) ++ dy) H := hP
    have hD : va_D A ((cW cy ad eb es mb mz (tp + 20) os bits F G u nb ns T M id g41 fo g dq ++ tl) ++ dy) := hD
    refine W.eq (g2 := F0 m 44 ls []) rfl ?_
    refine lv_aload_n hx hb dX11_feed_44 rfl (lv_at hl 1 rfl) ?_
    refine va_get (ci := 8) (C := RX11) (T := TX11) (N := 8) hx hb ht iFX11 hown hK hP 0 rfl rfl 0 (by decide) (ht _ kw1_123) (fun _ h9 => h9) rfl dX11_feed_45 ?_
    refine lv_iload hx hb dX11_feed_48 (lv_at hl 0 rfl) ?_
    refine nv_iconst (k := 4) hx hb dX11_feed_50 rfl ?_
    refine nv_iadd hx hb dX11_feed_51 ?_
    refine lv_iload_n hx hb dX11_feed_52 rfl (lv_at hl 3 rfl) ?_
    refine wr_V S (c_X1_putQuad (ws := (cW cy ad eb es mb mz (tp + 20) os bits F G u nb ns T M id g41 fo g dq ++ tl) ++ dy) (kb := 1) (ka := 2) rfl rfl (by omega) (by omega) (a := tp + 4) (x := b) (by omega) (by omega)) kw1_231 yv_X1_putQuad ⟨Nat.le_of_ble_eq_true rfl, Nat.le_of_ble_eq_true rfl⟩ hK hP hD hS hA (va_recv hK hP (ci := 2) (q0 := 1) rfl rfl) rfl hl.1 rfl (Nat.le_of_ble_eq_true rfl) dX11_feed_53 ⟨(Nat.zero_le _), (Nat.zero_le _)⟩ (fun g53 H locs hg53 hP hD hS => ?_)
    have hP : va_P D vwCl ((cW cy ad eb es mb mz (tp + 20) os bits F G u nb ns T M id g53 fo g dq ++ tl) ++ dy) H := hP
    have hD : va_D A ((cW cy ad eb es mb mz (tp + 20) os bits F G u nb ns T M id g53 fo g dq ++ tl) ++ dy) := hD
    refine W.eq (g2 := F0 m 56 ls []) rfl ?_
    refine lv_aload_n hx hb dX11_feed_56 rfl (lv_at hl 1 rfl) ?_
    refine va_get (ci := 8) (C := RX11) (T := TX11) (N := 8) hx hb ht iFX11 hown hK hP 0 rfl rfl 0 (by decide) (ht _ kw1_123) (fun _ h9 => h9) rfl dX11_feed_57 ?_
    refine lv_iload hx hb dX11_feed_60 (lv_at hl 0 rfl) ?_
    refine nv_bipush (k := 8) hx hb dX11_feed_62 (by decide) ?_
    refine nv_iadd hx hb dX11_feed_64 ?_
    refine lv_iload_n hx hb dX11_feed_65 rfl (lv_at hl 4 rfl) ?_
    refine wr_V S (c_X1_putQuad (ws := (cW cy ad eb es mb mz (tp + 20) os bits F G u nb ns T M id g53 fo g dq ++ tl) ++ dy) (kb := 1) (ka := 2) rfl rfl (by omega) (by omega) (a := tp + 8) (x := c9) (by omega) (by omega)) kw1_231 yv_X1_putQuad ⟨Nat.le_of_ble_eq_true rfl, Nat.le_of_ble_eq_true rfl⟩ hK hP hD hS hA (va_recv hK hP (ci := 2) (q0 := 1) rfl rfl) rfl hl.1 rfl (Nat.le_of_ble_eq_true rfl) dX11_feed_66 ⟨(Nat.zero_le _), (Nat.zero_le _)⟩ (fun g66 H locs hg66 hP hD hS => ?_)
    have hP : va_P D vwCl ((cW cy ad eb es mb mz (tp + 20) os bits F G u nb ns T M id g66 fo g dq ++ tl) ++ dy) H := hP
    have hD : va_D A ((cW cy ad eb es mb mz (tp + 20) os bits F G u nb ns T M id g66 fo g dq ++ tl) ++ dy) := hD
    refine W.eq (g2 := F0 m 69 ls []) rfl ?_
    refine lv_aload_n hx hb dX11_feed_69 rfl (lv_at hl 1 rfl) ?_
    refine va_get (ci := 8) (C := RX11) (T := TX11) (N := 8) hx hb ht iFX11 hown hK hP 0 rfl rfl 0 (by decide) (ht _ kw1_123) (fun _ h9 => h9) rfl dX11_feed_70 ?_
    refine lv_iload hx hb dX11_feed_73 (lv_at hl 0 rfl) ?_
    refine nv_bipush (k := 12) hx hb dX11_feed_75 (by decide) ?_
    refine nv_iadd hx hb dX11_feed_77 ?_
    refine lv_iload hx hb dX11_feed_78 (lv_at hl 5 rfl) ?_
    refine wr_V S (c_X1_putQuad (ws := (cW cy ad eb es mb mz (tp + 20) os bits F G u nb ns T M id g66 fo g dq ++ tl) ++ dy) (kb := 1) (ka := 2) rfl rfl (by omega) (by omega) (a := tp + 12) (x := d9) (by omega) (by omega)) kw1_231 yv_X1_putQuad ⟨Nat.le_of_ble_eq_true rfl, Nat.le_of_ble_eq_true rfl⟩ hK hP hD hS hA (va_recv hK hP (ci := 2) (q0 := 1) rfl rfl) rfl hl.1 rfl (Nat.le_of_ble_eq_true rfl) dX11_feed_80 ⟨(Nat.zero_le _), (Nat.zero_le _)⟩ (fun g80 H locs hg80 hP hD hS => ?_)
    have hP : va_P D vwCl ((cW cy ad eb es mb mz (tp + 20) os bits F G u nb ns T M id g80 fo g dq ++ tl) ++ dy) H := hP
    have hD : va_D A ((cW cy ad eb es mb mz (tp + 20) os bits F G u nb ns T M id g80 fo g dq ++ tl) ++ dy) := hD
    refine W.eq (g2 := F0 m 83 ls []) rfl ?_
    refine lv_aload_n hx hb dX11_feed_83 rfl (lv_at hl 1 rfl) ?_
    refine va_get (ci := 8) (C := RX11) (T := TX11) (N := 8) hx hb ht iFX11 hown hK hP 0 rfl rfl 0 (by decide) (ht _ kw1_123) (fun _ h9 => h9) rfl dX11_feed_84 ?_
    refine lv_iload hx hb dX11_feed_87 (lv_at hl 0 rfl) ?_
    refine nv_bipush (k := 16) hx hb dX11_feed_89 (by decide) ?_
    refine nv_iadd hx hb dX11_feed_91 ?_
    refine lv_iload hx hb dX11_feed_92 (lv_at hl 6 rfl) ?_
    refine wr_V S (c_X1_putQuad (ws := (cW cy ad eb es mb mz (tp + 20) os bits F G u nb ns T M id g80 fo g dq ++ tl) ++ dy) (kb := 1) (ka := 2) rfl rfl (by omega) (by omega) (a := tp + 16) (x := e9) (by omega) (by omega)) kw1_231 yv_X1_putQuad ⟨Nat.le_of_ble_eq_true rfl, Nat.le_of_ble_eq_true rfl⟩ hK hP hD hS hA (va_recv hK hP (ci := 2) (q0 := 1) rfl rfl) rfl hl.1 rfl (Nat.le_of_ble_eq_true rfl) dX11_feed_94 ⟨(Nat.zero_le _), (Nat.zero_le _)⟩ (fun g94 H locs hg94 hP hD hS => ?_)
    have hP : va_P D vwCl ((cW cy ad eb es mb mz (tp + 20) os bits F G u nb ns T M id g94 fo g dq ++ tl) ++ dy) H := hP
    have hD : va_D A ((cW cy ad eb es mb mz (tp + 20) os bits F G u nb ns T M id g94 fo g dq ++ tl) ++ dy) := hD
    refine W.eq (g2 := F0 m 97 ls []) rfl ?_
    refine nv_iconst (k := 1) hx hb dX11_feed_97 rfl ?_
    rw [hg94, hg80, hg66, hg53, hg41] at hP hD
    exact hend () (bI_t rfl) trivial hP hD hS dX11_feed_98
  exact absurd h17 (by omega)
theorem dX11_sign_0 : decode cX11_sign 0 = .ok (.aload_n 0, 1) := by decide +kernel
theorem dX11_sign_1 : decode cX11_sign 1 = .ok (.getfield 14, 3) := by decide +kernel
theorem dX11_sign_4 : decode cX11_sign 4 = .ok (.invokestatic 108, 3) := by decide +kernel
theorem dX11_sign_7 : decode cX11_sign 7 = .ok (.istore_n 3, 1) := by decide +kernel
theorem dX11_sign_8 : decode cX11_sign 8 = .ok (.iload_n 3, 1) := by decide +kernel
theorem dX11_sign_9 : decode cX11_sign 9 = .ok (.ifCond .eq 31, 3) := by decide +kernel
theorem dX11_sign_12 : decode cX11_sign 12 = .ok (.iload_n 1, 1) := by decide +kernel
theorem dX11_sign_13 : decode cX11_sign 13 = .ok (.iload_n 3, 1) := by decide +kernel
theorem dX11_sign_14 : decode cX11_sign 14 = .ok (.if_icmp .lt 26, 3) := by decide +kernel
theorem dX11_sign_17 : decode cX11_sign 17 = .ok (.iload_n 1, 1) := by decide +kernel
theorem dX11_sign_18 : decode cX11_sign 18 = .ok (.aload_n 0, 1) := by decide +kernel
theorem dX11_sign_19 : decode cX11_sign 19 = .ok (.getfield 14, 3) := by decide +kernel
theorem dX11_sign_22 : decode cX11_sign 22 = .ok (.invokevirtual 75, 3) := by decide +kernel
theorem dX11_sign_25 : decode cX11_sign 25 = .ok (.if_icmp .gt 15, 3) := by decide +kernel
theorem dX11_sign_28 : decode cX11_sign 28 = .ok (.iload_n 2, 1) := by decide +kernel
theorem dX11_sign_29 : decode cX11_sign 29 = .ok (.iload_n 3, 1) := by decide +kernel
theorem dX11_sign_30 : decode cX11_sign 30 = .ok (.if_icmp .lt 10, 3) := by decide +kernel
theorem dX11_sign_33 : decode cX11_sign 33 = .ok (.iload_n 2, 1) := by decide +kernel
theorem dX11_sign_34 : decode cX11_sign 34 = .ok (.iload_n 1, 1) := by decide +kernel
theorem dX11_sign_35 : decode cX11_sign 35 = .ok (.iconst 2, 1) := by decide +kernel
theorem dX11_sign_36 : decode cX11_sign 36 = .ok (.isub, 1) := by decide +kernel
theorem dX11_sign_37 : decode cX11_sign 37 = .ok (.if_icmp .le 5, 3) := by decide +kernel
theorem dX11_sign_40 : decode cX11_sign 40 = .ok (.iconst (-1), 1) := by decide +kernel
theorem dX11_sign_41 : decode cX11_sign 41 = .ok (.ireturn, 1) := by decide +kernel
theorem dX11_sign_42 : decode cX11_sign 42 = .ok (.aload_n 0, 1) := by decide +kernel
theorem dX11_sign_43 : decode cX11_sign 43 = .ok (.getfield 14, 3) := by decide +kernel
theorem dX11_sign_46 : decode cX11_sign 46 = .ok (.iload_n 1, 1) := by decide +kernel
theorem dX11_sign_47 : decode cX11_sign 47 = .ok (.iload_n 3, 1) := by decide +kernel
theorem dX11_sign_48 : decode cX11_sign 48 = .ok (.iload_n 2, 1) := by decide +kernel
theorem dX11_sign_49 : decode cX11_sign 49 = .ok (.invokestatic 114, 3) := by decide +kernel
theorem dX11_sign_52 : decode cX11_sign 52 = .ok (.istore 4, 2) := by decide +kernel
theorem dX11_sign_54 : decode cX11_sign 54 = .ok (.aload_n 0, 1) := by decide +kernel
theorem dX11_sign_55 : decode cX11_sign 55 = .ok (.getfield 14, 3) := by decide +kernel
theorem dX11_sign_58 : decode cX11_sign 58 = .ok (.iload_n 2, 1) := by decide +kernel
theorem dX11_sign_59 : decode cX11_sign 59 = .ok (.iload 4, 2) := by decide +kernel
theorem dX11_sign_61 : decode cX11_sign 61 = .ok (.invokevirtual 120, 3) := by decide +kernel
theorem dX11_sign_64 : decode cX11_sign 64 = .ok (.iload 4, 2) := by decide +kernel
theorem dX11_sign_66 : decode cX11_sign 66 = .ok (.ireturn, 1) := by decide +kernel
theorem yv_X11_sign : YV RX11 yX11_sign cX11_sign 5 (some .int) 2 := ⟨kw4_17, kw4_18, kw1_1, kw4_19, by decide +kernel⟩
set_option maxHeartbeats 4000000 in
set_option maxRecDepth 100000 in
theorem c_X11_sign {l : Launch} {D : va_G} {cy : Nat → ClassId} {ad : Nat → Nat} {tl dy : va_W} {eb es tp os bits F G u nb ns T M id : Nat} {mb mz : Int32} {ft fo : Nat → UInt8} {g : Nat → Int32} {dq : Nat → Nat} (htp : tp ≤ 1600) (hos : os ≤ 1620) (hsi : SI bits F G) (hu4 : u ≤ 4) {n9 a9 : Nat} (hh0 : tg_head (tg_rd ft tp) ≠ 0) (hn1 : tg_head (tg_rd ft tp) ≤ n9) (hn2 : n9 ≤ tp) (ha1 : tg_head (tg_rd ft tp) ≤ a9) (ha2 : a9 + 2 ≤ n9) : WR (S := Unit) l yX11_sign cX11_sign 5 (some .int) 3 0 0 72 [.ref (ad 0), .int (nI n9), .int (nI a9)] D cy ((cW cy ad eb es mb mz tp os bits F G u nb ns T M id ft fo g dq ++ tl) ++ dy) (fun u_ => some (.int (nI (tg_sum (tg_rd ft tp) (tg_head (tg_rd ft tp)) n9 a9 (tg_proto (tg_rd ft tp) (tg_head (tg_rd ft tp))))))) (fun _ => True) (fun _ => (cW cy ad eb es mb mz tp os bits F G u nb ns T M id (tg_put ft a9 2 (tg_sum (tg_rd ft tp) (tg_head (tg_rd ft tp)) n9 a9 (tg_proto (tg_rd ft tp) (tg_head (tg_rd ft tp))))) fo g dq ++ tl) ++ dy) := by
  refine WRi (by decide) (lv0 := [(0, .ref (ad 0)), (1, .int (nI n9)), (2, .int (nI a9))]) rfl (Nat.le_of_ble_eq_true rfl) ?_
  intro p e s m args below meth c ls A Q S hnm hP hK hD hS hA hend hl
  have hx := S.1
  have hb := S.2.1
  have hown : s.vm.findClass RX11 = some m.cls := S.2.2.2.1
  have ht : ∀ w ∈ lw_g, w.before args s = true := fun w h => S.2.2.2.2 w (List.mem_cons_of_mem _ h)
  have hP : va_P D vwCl ((cW cy ad eb es mb mz tp os bits F G u nb ns T M id ft fo g dq ++ tl) ++ dy) s.heap := hP
  have hT : ((cW cy ad eb es mb mz tp os bits F G u nb ns T M id ft fo g dq ++ tl) ++ dy)[8]? = some (tE (ad 8) (ad 9) (ad 10) T) := rfl
  have hLb : ((cW cy ad eb es mb mz tp os bits F G u nb ns T M id ft fo g dq ++ tl) ++ dy)[9]? = some (aL (ad 9) mb eb nb) := rfl
  have hLs : ((cW cy ad eb es mb mz tp os bits F G u nb ns T M id ft fo g dq ++ tl) ++ dy)[10]? = some (aL (ad 10) mz es ns) := rfl
  have hST : STP ((cW cy ad eb es mb mz tp os bits F G u nb ns T M id ft fo g dq ++ tl) ++ dy) (ad 5) bits F G := STP_of (ks := 5) rfl hsi
  have hPL : PLP cy ((cW cy ad eb es mb mz tp os bits F G u nb ns T M id ft fo g dq ++ tl) ++ dy) (ad 6) g u := PLP_of (kp := 6) (kq := 7) rfl rfl hu4
  have hhd : tg_head (tg_rd ft tp) = 0 ∨ tg_head (tg_rd ft tp) = 20 ∨ tg_head (tg_rd ft tp) = 40 := by unfold tg_head; (repeat' split) <;> omega
  refine lv_aload_n hx hb dX11_sign_0 rfl (lv_at hl 0 rfl) ?_
  refine va_get (ci := 8) (C := RX11) (T := TX11) (N := 8) hx hb ht iFX11 hown hK hP 0 rfl rfl 0 (by decide) (ht _ kw1_123) (fun _ h9 => h9) rfl dX11_sign_1 ?_
  refine ro_S S (c_X4_headOf (PK_of (ws := (cW cy ad eb es mb mz tp os bits F G u nb ns T M id ft fo g dq ++ tl) ++ dy) (kb := 1) (ka := 2) (N := 1600) rfl rfl (by omega) (by omega))) kw4_20 yv_X4_headOf ⟨Nat.le_of_ble_eq_true rfl, Nat.le_of_ble_eq_true rfl⟩ hK hP rfl hl.1 rfl (Nat.le_of_ble_eq_true rfl) dX11_sign_4 ⟨(Nat.zero_le _), (Nat.zero_le _)⟩ ?_
  refine lv_istore_n (lv' := [(3, .int (nI (tg_head (tg_rd ft tp)))), (0, .ref (ad 0)), (1, .int (nI n9)), (2, .int (nI a9))]) hx hb dX11_sign_7 rfl hl (by decide) rfl (fun ls hl => ?_)
  refine lv_iload_n hx hb dX11_sign_8 rfl (lv_at hl 0 rfl) ?_
  refine nv_if_eq (tgt := 40) hx hb dX11_sign_9 (by decide) (by omega) (fun h9 => ?_) (fun h9 => ?_)
  · skip
    exfalso; omega
  refine lv_iload_n hx hb dX11_sign_12 rfl (lv_at hl 2 rfl) ?_
  refine lv_iload_n hx hb dX11_sign_13 rfl (lv_at hl 0 rfl) ?_
  refine nv_icmp_lt (tgt := 40) hx hb dX11_sign_14 (by decide) (by omega) (by omega) (fun h14 => ?_) (fun h14 => ?_)
  · skip
    exfalso; omega
  refine lv_iload_n hx hb dX11_sign_17 rfl (lv_at hl 2 rfl) ?_
  refine lv_aload_n hx hb dX11_sign_18 rfl (lv_at hl 1 rfl) ?_
  refine va_get (ci := 8) (C := RX11) (T := TX11) (N := 8) hx hb ht iFX11 hown hK hP 0 rfl rfl 0 (by decide) (ht _ kw1_123) (fun _ h9 => h9) rfl dX11_sign_19 ?_
  refine ro_V S (c_X1_length (PK_of (ws := (cW cy ad eb es mb mz tp os bits F G u nb ns T M id ft fo g dq ++ tl) ++ dy) (kb := 1) (ka := 2) (N := 1600) rfl rfl (by omega) (by omega))) kw1_220 yv_X1_length ⟨Nat.le_of_ble_eq_true rfl, Nat.le_of_ble_eq_true rfl⟩ hK hP (va_recv hK hP (ci := 2) (q0 := 1) rfl rfl) rfl hl.1 rfl (Nat.le_of_ble_eq_true rfl) dX11_sign_22 ⟨(Nat.zero_le _), (Nat.zero_le _)⟩ ?_
  refine nv_icmp_gt (tgt := 40) hx hb dX11_sign_25 (by decide) (by omega) (by omega) (fun h25 => ?_) (fun h25 => ?_)
  · skip
    exfalso; omega
  refine lv_iload_n hx hb dX11_sign_28 rfl (lv_at hl 3 rfl) ?_
  refine lv_iload_n hx hb dX11_sign_29 rfl (lv_at hl 0 rfl) ?_
  refine nv_icmp_lt (tgt := 40) hx hb dX11_sign_30 (by decide) (by omega) (by omega) (fun h30 => ?_) (fun h30 => ?_)
  · skip
    exfalso; omega
  refine lv_iload_n hx hb dX11_sign_33 rfl (lv_at hl 3 rfl) ?_
  refine lv_iload_n hx hb dX11_sign_34 rfl (lv_at hl 2 rfl) ?_
  refine nv_iconst (k := 2) hx hb dX11_sign_35 rfl ?_
  refine nv_isub hx hb (by omega) dX11_sign_36 ?_
  refine nv_icmp_le (tgt := 42) hx hb dX11_sign_37 (by decide) (by omega) (by omega) (fun h37 => ?_) (fun h37 => ?_)
  · skip
    refine lv_aload_n hx hb dX11_sign_42 rfl (lv_at hl 1 rfl) ?_
    refine va_get (ci := 8) (C := RX11) (T := TX11) (N := 8) hx hb ht iFX11 hown hK hP 0 rfl rfl 0 (by decide) (ht _ kw1_123) (fun _ h9 => h9) rfl dX11_sign_43 ?_
    refine lv_iload_n hx hb dX11_sign_46 rfl (lv_at hl 2 rfl) ?_
    refine lv_iload_n hx hb dX11_sign_47 rfl (lv_at hl 0 rfl) ?_
    refine lv_iload_n hx hb dX11_sign_48 rfl (lv_at hl 3 rfl) ?_
    refine ro_S S (c_X9_ofPart (PK_of (ws := (cW cy ad eb es mb mz tp os bits F G u nb ns T M id ft fo g dq ++ tl) ++ dy) (kb := 1) (ka := 2) (N := 1600) rfl rfl (by omega) (by omega)) (z := n9) (hd := tg_head (tg_rd ft tp)) (w := a9) (by omega) (by omega) (by omega) (by omega)) kw4_23 yv_X9_ofPart ⟨Nat.le_of_ble_eq_true rfl, Nat.le_of_ble_eq_true rfl⟩ hK hP rfl hl.1 rfl (Nat.le_of_ble_eq_true rfl) dX11_sign_49 ⟨(Nat.zero_le _), (Nat.zero_le _)⟩ ?_
    have hq49 := tg_sum_le (tg_rd ft tp) (tg_head (tg_rd ft tp)) n9 a9 (tg_proto (tg_rd ft tp) (tg_head (tg_rd ft tp)))
    have hsl := tg_sum_le (tg_rd ft tp) (tg_head (tg_rd ft tp)) n9 a9 (tg_proto (tg_rd ft tp) (tg_head (tg_rd ft tp)))
    refine nv_top (fun y_1 ey_1 => ?_)
    refine lv_istore (lv' := [(4, .int (nI y_1)), (3, .int (nI (tg_head (tg_rd ft tp)))), (0, .ref (ad 0)), (1, .int (nI n9)), (2, .int (nI a9))]) hx hb dX11_sign_52 hl (by decide) rfl (fun ls hl => ?_)
    refine lv_aload_n hx hb dX11_sign_54 rfl (lv_at hl 2 rfl) ?_
    refine va_get (ci := 8) (C := RX11) (T := TX11) (N := 8) hx hb ht iFX11 hown hK hP 0 rfl rfl 0 (by decide) (ht _ kw1_123) (fun _ h9 => h9) rfl dX11_sign_55 ?_
    refine lv_iload_n hx hb dX11_sign_58 rfl (lv_at hl 4 rfl) ?_
    refine lv_iload hx hb dX11_sign_59 (lv_at hl 0 rfl) ?_
    refine wr_V S (c_X1_putPair (ws := (cW cy ad eb es mb mz tp os bits F G u nb ns T M id ft fo g dq ++ tl) ++ dy) (kb := 1) (ka := 2) rfl rfl (by omega) (by omega) (a := a9) (x := y_1) (by omega) (by omega)) kw4_24 yv_X1_putPair ⟨Nat.le_of_ble_eq_true rfl, Nat.le_of_ble_eq_true rfl⟩ hK hP hD hS hA (va_recv hK hP (ci := 2) (q0 := 1) rfl rfl) rfl hl.1 rfl (Nat.le_of_ble_eq_true rfl) dX11_sign_61 ⟨(Nat.zero_le _), (Nat.zero_le _)⟩ (fun g61 H locs hg61 hP hD hS => ?_)
    have hP : va_P D vwCl ((cW cy ad eb es mb mz tp os bits F G u nb ns T M id g61 fo g dq ++ tl) ++ dy) H := hP
    have hD : va_D A ((cW cy ad eb es mb mz tp os bits F G u nb ns T M id g61 fo g dq ++ tl) ++ dy) := hD
    refine W.eq (g2 := F0 m 64 ls []) rfl ?_
    refine lv_iload hx hb dX11_sign_64 (lv_at hl 0 rfl) ?_
    rw [hg61, ey_1] at hP hD
    exact hend () (by rw [ey_1]) trivial hP hD hS dX11_sign_66
  exfalso; omega
theorem dX11_binding_0 : decode cX11_binding 0 = .ok (.aload_n 0, 1) := by decide +kernel
theorem dX11_binding_1 : decode cX11_binding 1 = .ok (.getfield 38, 3) := by decide +kernel
theorem dX11_binding_4 : decode cX11_binding 4 = .ok (.iload_n 1, 1) := by decide +kernel
theorem dX11_binding_5 : decode cX11_binding 5 = .ok (.invokevirtual 129, 3) := by decide +kernel
theorem dX11_binding_8 : decode cX11_binding 8 = .ok (.astore_n 3, 1) := by decide +kernel
theorem dX11_binding_9 : decode cX11_binding 9 = .ok (.aload_n 3, 1) := by decide +kernel
theorem dX11_binding_10 : decode cX11_binding 10 = .ok (.ifnonnull 5, 3) := by decide +kernel
theorem dX11_binding_13 : decode cX11_binding 13 = .ok (.iconst (-1), 1) := by decide +kernel
theorem dX11_binding_14 : decode cX11_binding 14 = .ok (.ireturn, 1) := by decide +kernel
theorem dX11_binding_15 : decode cX11_binding 15 = .ok (.iload_n 2, 1) := by decide +kernel
theorem dX11_binding_16 : decode cX11_binding 16 = .ok (.tableswitch 65 0 4 #[36, 41, 46, 51, 56], 36) := by decide +kernel
theorem dX11_binding_52 : decode cX11_binding 52 = .ok (.aload_n 3, 1) := by decide +kernel
theorem dX11_binding_53 : decode cX11_binding 53 = .ok (.getfield 133, 3) := by decide +kernel
theorem dX11_binding_56 : decode cX11_binding 56 = .ok (.ireturn, 1) := by decide +kernel
theorem dX11_binding_57 : decode cX11_binding 57 = .ok (.aload_n 3, 1) := by decide +kernel
theorem dX11_binding_58 : decode cX11_binding 58 = .ok (.getfield 138, 3) := by decide +kernel
theorem dX11_binding_61 : decode cX11_binding 61 = .ok (.ireturn, 1) := by decide +kernel
theorem dX11_binding_62 : decode cX11_binding 62 = .ok (.aload_n 3, 1) := by decide +kernel
theorem dX11_binding_63 : decode cX11_binding 63 = .ok (.getfield 141, 3) := by decide +kernel
theorem dX11_binding_66 : decode cX11_binding 66 = .ok (.ireturn, 1) := by decide +kernel
theorem dX11_binding_67 : decode cX11_binding 67 = .ok (.aload_n 3, 1) := by decide +kernel
theorem dX11_binding_68 : decode cX11_binding 68 = .ok (.getfield 144, 3) := by decide +kernel
theorem dX11_binding_71 : decode cX11_binding 71 = .ok (.ireturn, 1) := by decide +kernel
theorem dX11_binding_72 : decode cX11_binding 72 = .ok (.aload_n 0, 1) := by decide +kernel
theorem dX11_binding_73 : decode cX11_binding 73 = .ok (.getfield 38, 3) := by decide +kernel
theorem dX11_binding_76 : decode cX11_binding 76 = .ok (.aload_n 3, 1) := by decide +kernel
theorem dX11_binding_77 : decode cX11_binding 77 = .ok (.invokevirtual 147, 3) := by decide +kernel
theorem dX11_binding_80 : decode cX11_binding 80 = .ok (.ireturn, 1) := by decide +kernel
theorem dX11_binding_81 : decode cX11_binding 81 = .ok (.iconst (-1), 1) := by decide +kernel
theorem dX11_binding_82 : decode cX11_binding 82 = .ok (.ireturn, 1) := by decide +kernel
theorem yv_X11_binding : YV RX11 yX11_binding cX11_binding 4 (some .int) 2 := ⟨kw4_56, kw4_57, kw1_1, kw4_58, by decide +kernel⟩
set_option maxHeartbeats 4000000 in
set_option maxRecDepth 100000 in
theorem c_X11_binding {l : Launch} {D : va_G} {cy : Nat → ClassId} {ad : Nat → Nat} {tl dy : va_W} {eb es tp os bits F G u nb ns T M id : Nat} {mb mz : Int32} {ft fo : Nat → UInt8} {g : Nat → Int32} {dq ba sa pt ih il ip pn op so fa fp st en : Nat → Nat} {e0 : Nat × Nat} (htp : tp ≤ 1600) (hos : os ≤ 1620) (hsi : SI bits F G) (hu4 : u ≤ 4) (hDY : DY cy e0.1 dy eb es nb ns ba sa pt ih il ip pn op so fa fp st en) (hb_pt : ∀ i, pt i < 2 ^ 31) (hb_ih : ∀ i, ih i < 2 ^ 64) (hb_il : ∀ i, il i < 2 ^ 64) (hb_ip : ∀ i, ip i < 2 ^ 31) (hb_pn : ∀ i, pn i < 2 ^ 31) (hb_op : ∀ i, op i < 2 ^ 31) (hb_fa : ∀ i, fa i < 2 ^ 32) (hb_fp : ∀ i, fp i < 2 ^ 31) (hb_st : ∀ i, st i ≤ 7) (hb_en : ∀ i, en i < 2 ^ 62) {i : Nat} (hi : i < nb) {w : Nat} (hw9 : w < 2 ^ 31) : RO l yX11_binding cX11_binding 4 (some .int) 4 87 [.ref (ad 0), .int (nI i), .int (nI w)] D cy ((cW cy ad eb es mb mz tp os bits F G u nb ns T M id ft fo g dq ++ tl) ++ dy) (.int (tg_bw pt ip pn op so ns i w)) := by
  refine ROi (by decide) (lv0 := [(0, .ref (ad 0)), (1, .int (nI i)), (2, .int (nI w))]) rfl (Nat.le_of_ble_eq_true rfl) ?_
  intro p e s m args below meth c ls Q S hP hK hend hl
  have hx := S.1
  have hb := S.2.1
  have hown : s.vm.findClass RX11 = some m.cls := S.2.2.2.1
  have ht : ∀ w ∈ lw_g, w.before args s = true := fun w h => S.2.2.2.2 w (List.mem_cons_of_mem _ h)
  have hP : va_P D vwCl ((cW cy ad eb es mb mz tp os bits F G u nb ns T M id ft fo g dq ++ tl) ++ dy) s.heap := hP
  have hT : ((cW cy ad eb es mb mz tp os bits F G u nb ns T M id ft fo g dq ++ tl) ++ dy)[8]? = some (tE (ad 8) (ad 9) (ad 10) T) := rfl
  have hLb : ((cW cy ad eb es mb mz tp os bits F G u nb ns T M id ft fo g dq ++ tl) ++ dy)[9]? = some (aL (ad 9) mb eb nb) := rfl
  have hLs : ((cW cy ad eb es mb mz tp os bits F G u nb ns T M id ft fo g dq ++ tl) ++ dy)[10]? = some (aL (ad 10) mz es ns) := rfl
  have hB : TB1 cy ((cW cy ad eb es mb mz tp os bits F G u nb ns T M id ft fo g dq ++ tl) ++ dy) e0.1 eb nb ba pt ih il ip pn op := hDY.1.app
  have hS1 : TS1 cy ((cW cy ad eb es mb mz tp os bits F G u nb ns T M id ft fo g dq ++ tl) ++ dy) e0.1 es ns nb ba sa so fa fp st en := hDY.2.1.app
  have hST : STP ((cW cy ad eb es mb mz tp os bits F G u nb ns T M id ft fo g dq ++ tl) ++ dy) (ad 5) bits F G := STP_of (ks := 5) rfl hsi
  have hPL : PLP cy ((cW cy ad eb es mb mz tp os bits F G u nb ns T M id ft fo g dq ++ tl) ++ dy) (ad 6) g u := PLP_of (kp := 6) (kq := 7) rfl rfl hu4
  have hnb := hB.le
  have hns := hS1.le
  refine lv_aload_n hx hb dX11_binding_0 rfl (lv_at hl 0 rfl) ?_
  refine va_get (ci := 8) (C := RX11) (T := TX11) (N := 8) hx hb ht iFX11 hown hK hP 0 rfl rfl 4 (by decide) (ht _ kw1_127) (fun _ h9 => h9) rfl dX11_binding_1 ?_
  refine lv_iload_n hx hb dX11_binding_4 rfl (lv_at hl 1 rfl) ?_
  refine ro_V S (c_X10_bindingAt hT hLb hB hb_pt hb_ih hb_il hb_ip hb_pn hb_op (i := i) (by omega)) kw4_59 yv_X10_bindingAt ⟨Nat.le_of_ble_eq_true rfl, Nat.le_of_ble_eq_true rfl⟩ hK hP (va_recv hK hP (ci := 7) (q0 := 8) rfl rfl) rfl hl.1 rfl (Nat.le_of_ble_eq_true rfl) dX11_binding_5 ⟨(Nat.zero_le _), (Nat.zero_le _)⟩ ?_
  rw [if_pos hi]
  refine W.eq (g2 := F0 m 8 ls [.ref (ba i)]) rfl ?_
  obtain ⟨kz, hkz⟩ := hB.at (i := i) hi
  have hkz_pt := hb_pt i
  have hkz_ih := hb_ih i
  have hkz_il := hb_il i
  have hkz_ip := hb_ip i
  have hkz_pn := hb_pn i
  have hkz_op := hb_op i
  refine lv_astore_n (lv' := [(3, .ref (ba i)), (0, .ref (ad 0)), (1, .int (nI i)), (2, .int (nI w))]) hx hb dX11_binding_8 rfl hl (by decide) rfl (fun ls hl => ?_)
  refine lv_aload_n hx hb dX11_binding_9 rfl (lv_at hl 0 rfl) ?_
  refine lv_ifnonnull (tgt := 15) hx hb dX11_binding_10 (by decide) ?_
  refine lv_iload_n hx hb dX11_binding_15 rfl (lv_at hl 3 rfl) ?_
  by_cases hs16_0 : w = 0
  · refine lv_tableIn (off := 36) (tgt := 52) hx hb dX11_binding_16 (by rw [hs16_0]; decide) (by rw [hs16_0]; decide) (by rw [hs16_0]; decide) (by decide) ?_
    refine lv_aload_n hx hb dX11_binding_52 rfl (lv_at hl 0 rfl) ?_
    refine va_get (ci := 1) (C := RX0) (T := TX0) (N := 6) hx hb ht iFX0 hown hK hP kz hkz rfl 0 (by decide) (ht _ kw2_236) (fun _ h9 => h9) rfl dX11_binding_53 ?_
    exact hend ((by unfold tg_bw; rw [if_pos hs16_0])) dX11_binding_56
  by_cases hs16_1 : w = 1
  · refine lv_tableIn (off := 41) (tgt := 57) hx hb dX11_binding_16 (by rw [hs16_1]; decide) (by rw [hs16_1]; decide) (by rw [hs16_1]; decide) (by decide) ?_
    refine lv_aload_n hx hb dX11_binding_57 rfl (lv_at hl 0 rfl) ?_
    refine va_get (ci := 1) (C := RX0) (T := TX0) (N := 6) hx hb ht iFX0 hown hK hP kz hkz rfl 3 (by decide) (ht _ kw3_6) (fun _ h9 => h9) rfl dX11_binding_58 ?_
    exact hend ((by unfold tg_bw; rw [if_neg hs16_0, if_pos hs16_1])) dX11_binding_61
  by_cases hs16_2 : w = 2
  · refine lv_tableIn (off := 46) (tgt := 62) hx hb dX11_binding_16 (by rw [hs16_2]; decide) (by rw [hs16_2]; decide) (by rw [hs16_2]; decide) (by decide) ?_
    refine lv_aload_n hx hb dX11_binding_62 rfl (lv_at hl 0 rfl) ?_
    refine va_get (ci := 1) (C := RX0) (T := TX0) (N := 6) hx hb ht iFX0 hown hK hP kz hkz rfl 4 (by decide) (ht _ kw3_9) (fun _ h9 => h9) rfl dX11_binding_63 ?_
    exact hend ((by unfold tg_bw; rw [if_neg hs16_0, if_neg hs16_1, if_pos hs16_2])) dX11_binding_66
  by_cases hs16_3 : w = 3
  · refine lv_tableIn (off := 51) (tgt := 67) hx hb dX11_binding_16 (by rw [hs16_3]; decide) (by rw [hs16_3]; decide) (by rw [hs16_3]; decide) (by decide) ?_
    refine lv_aload_n hx hb dX11_binding_67 rfl (lv_at hl 0 rfl) ?_
    refine va_get (ci := 1) (C := RX0) (T := TX0) (N := 6) hx hb ht iFX0 hown hK hP kz hkz rfl 5 (by decide) (ht _ kw3_13) (fun _ h9 => h9) rfl dX11_binding_68 ?_
    exact hend ((by unfold tg_bw; rw [if_neg hs16_0, if_neg hs16_1, if_neg hs16_2, if_pos hs16_3])) dX11_binding_71
  by_cases hs16_4 : w = 4
  · refine lv_tableIn (off := 56) (tgt := 72) hx hb dX11_binding_16 (by rw [hs16_4]; decide) (by rw [hs16_4]; decide) (by rw [hs16_4]; decide) (by decide) ?_
    refine lv_aload_n hx hb dX11_binding_72 rfl (lv_at hl 1 rfl) ?_
    refine va_get (ci := 8) (C := RX11) (T := TX11) (N := 8) hx hb ht iFX11 hown hK hP 0 rfl rfl 4 (by decide) (ht _ kw1_127) (fun _ h9 => h9) rfl dX11_binding_73 ?_
    refine lv_aload_n hx hb dX11_binding_76 rfl (lv_at hl 0 rfl) ?_
    refine ro_V S (c_X10_sessionsOf hT hLb hB hLs hS1 hb_fa hb_fp hb_st hb_en (b := i) (by omega)) kw4_63 yv_X10_sessionsOf ⟨Nat.le_of_ble_eq_true rfl, Nat.le_of_ble_eq_true rfl⟩ hK hP (va_recv hK hP (ci := 7) (q0 := 8) rfl rfl) rfl hl.1 rfl (Nat.le_of_ble_eq_true rfl) dX11_binding_77 ⟨(Nat.zero_le _), (Nat.zero_le _)⟩ ?_
    have hq77 := tg_cnt_le (fun k => decide (so k = i)) ns
    exact hend ((by unfold tg_bw; rw [if_neg hs16_0, if_neg hs16_1, if_neg hs16_2, if_neg hs16_3, if_pos hs16_4])) dX11_binding_80
  refine lv_tableOut (tgt := 81) hx hb dX11_binding_16 (by rw [nI_toInt (by omega)]; omega) (by decide) ?_
  refine lv_iconst (v := -1) hx hb dX11_binding_81 (by decide) ?_
  exact hend ((by unfold tg_bw; rw [if_neg hs16_0, if_neg hs16_1, if_neg hs16_2, if_neg hs16_3, if_neg hs16_4])) dX11_binding_82
set_option maxHeartbeats 4000000 in
set_option maxRecDepth 100000 in
theorem c_X11_bindingW {l : Launch} {D : va_G} {cy : Nat → ClassId} {ad : Nat → Nat} {tl dy : va_W} {eb es tp os bits F G u nb ns T M id : Nat} {mb mz : Int32} {ft fo : Nat → UInt8} {g : Nat → Int32} {dq ba sa pt ih il ip pn op so fa fp st en : Nat → Nat} {e0 : Nat × Nat} (htp : tp ≤ 1600) (hos : os ≤ 1620) (hsi : SI bits F G) (hu4 : u ≤ 4) (hDY : DY cy e0.1 dy eb es nb ns ba sa pt ih il ip pn op so fa fp st en) (hb_pt : ∀ i, pt i < 2 ^ 31) (hb_ih : ∀ i, ih i < 2 ^ 64) (hb_il : ∀ i, il i < 2 ^ 64) (hb_ip : ∀ i, ip i < 2 ^ 31) (hb_pn : ∀ i, pn i < 2 ^ 31) (hb_op : ∀ i, op i < 2 ^ 31) (hb_fa : ∀ i, fa i < 2 ^ 32) (hb_fp : ∀ i, fp i < 2 ^ 31) (hb_st : ∀ i, st i ≤ 7) (hb_en : ∀ i, en i < 2 ^ 62) {i : Nat} (hi : i < nb) {w : Int32} (hneg : w < 0) : RO l yX11_binding cX11_binding 4 (some .int) 4 85 [.ref (ad 0), .int (nI i), .int w] D cy ((cW cy ad eb es mb mz tp os bits F G u nb ns T M id ft fo g dq ++ tl) ++ dy) (.int (-1)) := by
  refine ROi (by decide) (lv0 := [(0, .ref (ad 0)), (1, .int (nI i)), (2, .int w)]) rfl (Nat.le_of_ble_eq_true rfl) ?_
  intro p e s m args below meth c ls Q S hP hK hend hl
  have hx := S.1
  have hb := S.2.1
  have hown : s.vm.findClass RX11 = some m.cls := S.2.2.2.1
  have ht : ∀ w ∈ lw_g, w.before args s = true := fun w h => S.2.2.2.2 w (List.mem_cons_of_mem _ h)
  have hP : va_P D vwCl ((cW cy ad eb es mb mz tp os bits F G u nb ns T M id ft fo g dq ++ tl) ++ dy) s.heap := hP
  have hT : ((cW cy ad eb es mb mz tp os bits F G u nb ns T M id ft fo g dq ++ tl) ++ dy)[8]? = some (tE (ad 8) (ad 9) (ad 10) T) := rfl
  have hLb : ((cW cy ad eb es mb mz tp os bits F G u nb ns T M id ft fo g dq ++ tl) ++ dy)[9]? = some (aL (ad 9) mb eb nb) := rfl
  have hLs : ((cW cy ad eb es mb mz tp os bits F G u nb ns T M id ft fo g dq ++ tl) ++ dy)[10]? = some (aL (ad 10) mz es ns) := rfl
  have hB : TB1 cy ((cW cy ad eb es mb mz tp os bits F G u nb ns T M id ft fo g dq ++ tl) ++ dy) e0.1 eb nb ba pt ih il ip pn op := hDY.1.app
  have hS1 : TS1 cy ((cW cy ad eb es mb mz tp os bits F G u nb ns T M id ft fo g dq ++ tl) ++ dy) e0.1 es ns nb ba sa so fa fp st en := hDY.2.1.app
  have hST : STP ((cW cy ad eb es mb mz tp os bits F G u nb ns T M id ft fo g dq ++ tl) ++ dy) (ad 5) bits F G := STP_of (ks := 5) rfl hsi
  have hPL : PLP cy ((cW cy ad eb es mb mz tp os bits F G u nb ns T M id ft fo g dq ++ tl) ++ dy) (ad 6) g u := PLP_of (kp := 6) (kq := 7) rfl rfl hu4
  have hnb := hB.le
  have hns := hS1.le
  refine lv_aload_n hx hb dX11_binding_0 rfl (lv_at hl 0 rfl) ?_
  refine va_get (ci := 8) (C := RX11) (T := TX11) (N := 8) hx hb ht iFX11 hown hK hP 0 rfl rfl 4 (by decide) (ht _ kw1_127) (fun _ h9 => h9) rfl dX11_binding_1 ?_
  refine lv_iload_n hx hb dX11_binding_4 rfl (lv_at hl 1 rfl) ?_
  refine ro_V S (c_X10_bindingAt hT hLb hB hb_pt hb_ih hb_il hb_ip hb_pn hb_op (i := i) (by omega)) kw4_59 yv_X10_bindingAt ⟨Nat.le_of_ble_eq_true rfl, Nat.le_of_ble_eq_true rfl⟩ hK hP (va_recv hK hP (ci := 7) (q0 := 8) rfl rfl) rfl hl.1 rfl (Nat.le_of_ble_eq_true rfl) dX11_binding_5 ⟨(Nat.zero_le _), (Nat.zero_le _)⟩ ?_
  rw [if_pos hi]
  refine W.eq (g2 := F0 m 8 ls [.ref (ba i)]) rfl ?_
  obtain ⟨kz, hkz⟩ := hB.at (i := i) hi
  have hkz_pt := hb_pt i
  have hkz_ih := hb_ih i
  have hkz_il := hb_il i
  have hkz_ip := hb_ip i
  have hkz_pn := hb_pn i
  have hkz_op := hb_op i
  refine lv_astore_n (lv' := [(3, .ref (ba i)), (0, .ref (ad 0)), (1, .int (nI i)), (2, .int w)]) hx hb dX11_binding_8 rfl hl (by decide) rfl (fun ls hl => ?_)
  refine lv_aload_n hx hb dX11_binding_9 rfl (lv_at hl 0 rfl) ?_
  refine lv_ifnonnull (tgt := 15) hx hb dX11_binding_10 (by decide) ?_
  refine lv_iload_n hx hb dX11_binding_15 rfl (lv_at hl 3 rfl) ?_
  refine lv_tableOut (tgt := 81) hx hb dX11_binding_16 (Or.inl (neg_toInt hneg)) (by decide) ?_
  refine lv_iconst (v := -1) hx hb dX11_binding_81 (by decide) ?_
  exact hend (rfl) dX11_binding_82
set_option maxHeartbeats 4000000 in
set_option maxRecDepth 100000 in
theorem c_X11_bindingG {l : Launch} {D : va_G} {cy : Nat → ClassId} {ad : Nat → Nat} {tl dy : va_W} {eb es tp os bits F G u nb ns T M id : Nat} {mb mz : Int32} {ft fo : Nat → UInt8} {g : Nat → Int32} {dq ba sa pt ih il ip pn op so fa fp st en : Nat → Nat} {e0 : Nat × Nat} (htp : tp ≤ 1600) (hos : os ≤ 1620) (hsi : SI bits F G) (hu4 : u ≤ 4) (hDY : DY cy e0.1 dy eb es nb ns ba sa pt ih il ip pn op so fa fp st en) (hb_pt : ∀ i, pt i < 2 ^ 31) (hb_ih : ∀ i, ih i < 2 ^ 64) (hb_il : ∀ i, il i < 2 ^ 64) (hb_ip : ∀ i, ip i < 2 ^ 31) (hb_pn : ∀ i, pn i < 2 ^ 31) (hb_op : ∀ i, op i < 2 ^ 31) (hb_fa : ∀ i, fa i < 2 ^ 32) (hb_fp : ∀ i, fp i < 2 ^ 31) (hb_st : ∀ i, st i ≤ 7) (hb_en : ∀ i, en i < 2 ^ 62) {i : Nat} (hi9 : i < 2 ^ 31) (hi : ¬ i < nb) {w : Int32} : RO l yX11_binding cX11_binding 4 (some .int) 4 85 [.ref (ad 0), .int (nI i), .int w] D cy ((cW cy ad eb es mb mz tp os bits F G u nb ns T M id ft fo g dq ++ tl) ++ dy) (.int (-1)) := by
  refine ROi (by decide) (lv0 := [(0, .ref (ad 0)), (1, .int (nI i)), (2, .int w)]) rfl (Nat.le_of_ble_eq_true rfl) ?_
  intro p e s m args below meth c ls Q S hP hK hend hl
  have hx := S.1
  have hb := S.2.1
  have hown : s.vm.findClass RX11 = some m.cls := S.2.2.2.1
  have ht : ∀ w ∈ lw_g, w.before args s = true := fun w h => S.2.2.2.2 w (List.mem_cons_of_mem _ h)
  have hP : va_P D vwCl ((cW cy ad eb es mb mz tp os bits F G u nb ns T M id ft fo g dq ++ tl) ++ dy) s.heap := hP
  have hT : ((cW cy ad eb es mb mz tp os bits F G u nb ns T M id ft fo g dq ++ tl) ++ dy)[8]? = some (tE (ad 8) (ad 9) (ad 10) T) := rfl
  have hLb : ((cW cy ad eb es mb mz tp os bits F G u nb ns T M id ft fo g dq ++ tl) ++ dy)[9]? = some (aL (ad 9) mb eb nb) := rfl
  have hLs : ((cW cy ad eb es mb mz tp os bits F G u nb ns T M id ft fo g dq ++ tl) ++ dy)[10]? = some (aL (ad 10) mz es ns) := rfl
  have hB : TB1 cy ((cW cy ad eb es mb mz tp os bits F G u nb ns T M id ft fo g dq ++ tl) ++ dy) e0.1 eb nb ba pt ih il ip pn op := hDY.1.app
  have hS1 : TS1 cy ((cW cy ad eb es mb mz tp os bits F G u nb ns T M id ft fo g dq ++ tl) ++ dy) e0.1 es ns nb ba sa so fa fp st en := hDY.2.1.app
  have hST : STP ((cW cy ad eb es mb mz tp os bits F G u nb ns T M id ft fo g dq ++ tl) ++ dy) (ad 5) bits F G := STP_of (ks := 5) rfl hsi
  have hPL : PLP cy ((cW cy ad eb es mb mz tp os bits F G u nb ns T M id ft fo g dq ++ tl) ++ dy) (ad 6) g u := PLP_of (kp := 6) (kq := 7) rfl rfl hu4
  have hnb := hB.le
  have hns := hS1.le
  refine lv_aload_n hx hb dX11_binding_0 rfl (lv_at hl 0 rfl) ?_
  refine va_get (ci := 8) (C := RX11) (T := TX11) (N := 8) hx hb ht iFX11 hown hK hP 0 rfl rfl 4 (by decide) (ht _ kw1_127) (fun _ h9 => h9) rfl dX11_binding_1 ?_
  refine lv_iload_n hx hb dX11_binding_4 rfl (lv_at hl 1 rfl) ?_
  refine ro_V S (c_X10_bindingAt hT hLb hB hb_pt hb_ih hb_il hb_ip hb_pn hb_op (i := i) (by omega)) kw4_59 yv_X10_bindingAt ⟨Nat.le_of_ble_eq_true rfl, Nat.le_of_ble_eq_true rfl⟩ hK hP (va_recv hK hP (ci := 7) (q0 := 8) rfl rfl) rfl hl.1 rfl (Nat.le_of_ble_eq_true rfl) dX11_binding_5 ⟨(Nat.zero_le _), (Nat.zero_le _)⟩ ?_
  rw [if_neg hi]
  refine W.eq (g2 := F0 m 8 ls [.null]) rfl ?_
  refine lv_astore_nN (lv' := [(3, .null), (0, .ref (ad 0)), (1, .int (nI i)), (2, .int w)]) hx hb dX11_binding_8 rfl hl (by decide) rfl (fun ls hl => ?_)
  refine lv_aload_nN hx hb dX11_binding_9 rfl (lv_at hl 0 rfl) ?_
  refine lv_ifnonnullN hx hb dX11_binding_10 ?_
  refine lv_iconst (v := -1) hx hb dX11_binding_13 (by decide) ?_
  exact hend (rfl) dX11_binding_14
set_option maxHeartbeats 4000000 in
set_option maxRecDepth 100000 in
theorem c_X11_bindingN {l : Launch} {D : va_G} {cy : Nat → ClassId} {ad : Nat → Nat} {tl dy : va_W} {eb es tp os bits F G u nb ns T M id : Nat} {mb mz : Int32} {ft fo : Nat → UInt8} {g : Nat → Int32} {dq : Nat → Nat} (htp : tp ≤ 1600) (hos : os ≤ 1620) (hsi : SI bits F G) (hu4 : u ≤ 4) {i w : Int32} (hneg : i < 0) : RO l yX11_binding cX11_binding 4 (some .int) 4 85 [.ref (ad 0), .int i, .int w] D cy ((cW cy ad eb es mb mz tp os bits F G u nb ns T M id ft fo g dq ++ tl) ++ dy) (.int (-1)) := by
  refine ROi (by decide) (lv0 := [(0, .ref (ad 0)), (1, .int i), (2, .int w)]) rfl (Nat.le_of_ble_eq_true rfl) ?_
  intro p e s m args below meth c ls Q S hP hK hend hl
  have hx := S.1
  have hb := S.2.1
  have hown : s.vm.findClass RX11 = some m.cls := S.2.2.2.1
  have ht : ∀ w ∈ lw_g, w.before args s = true := fun w h => S.2.2.2.2 w (List.mem_cons_of_mem _ h)
  have hP : va_P D vwCl ((cW cy ad eb es mb mz tp os bits F G u nb ns T M id ft fo g dq ++ tl) ++ dy) s.heap := hP
  have hT : ((cW cy ad eb es mb mz tp os bits F G u nb ns T M id ft fo g dq ++ tl) ++ dy)[8]? = some (tE (ad 8) (ad 9) (ad 10) T) := rfl
  have hLb : ((cW cy ad eb es mb mz tp os bits F G u nb ns T M id ft fo g dq ++ tl) ++ dy)[9]? = some (aL (ad 9) mb eb nb) := rfl
  have hLs : ((cW cy ad eb es mb mz tp os bits F G u nb ns T M id ft fo g dq ++ tl) ++ dy)[10]? = some (aL (ad 10) mz es ns) := rfl
  have hST : STP ((cW cy ad eb es mb mz tp os bits F G u nb ns T M id ft fo g dq ++ tl) ++ dy) (ad 5) bits F G := STP_of (ks := 5) rfl hsi
  have hPL : PLP cy ((cW cy ad eb es mb mz tp os bits F G u nb ns T M id ft fo g dq ++ tl) ++ dy) (ad 6) g u := PLP_of (kp := 6) (kq := 7) rfl rfl hu4
  refine lv_aload_n hx hb dX11_binding_0 rfl (lv_at hl 0 rfl) ?_
  refine va_get (ci := 8) (C := RX11) (T := TX11) (N := 8) hx hb ht iFX11 hown hK hP 0 rfl rfl 4 (by decide) (ht _ kw1_127) (fun _ h9 => h9) rfl dX11_binding_1 ?_
  refine lv_iload_n hx hb dX11_binding_4 rfl (lv_at hl 1 rfl) ?_
  refine ro_V S (c_X10_bindingAtN hT hneg) kw4_59 yv_X10_bindingAt ⟨Nat.le_of_ble_eq_true rfl, Nat.le_of_ble_eq_true rfl⟩ hK hP (va_recv hK hP (ci := 7) (q0 := 8) rfl rfl) rfl hl.1 rfl (Nat.le_of_ble_eq_true rfl) dX11_binding_5 ⟨(Nat.zero_le _), (Nat.zero_le _)⟩ ?_
  refine W.eq (g2 := F0 m 8 ls [.null]) rfl ?_
  refine lv_astore_nN (lv' := [(3, .null), (0, .ref (ad 0)), (1, .int i), (2, .int w)]) hx hb dX11_binding_8 rfl hl (by decide) rfl (fun ls hl => ?_)
  refine lv_aload_nN hx hb dX11_binding_9 rfl (lv_at hl 0 rfl) ?_
  refine lv_ifnonnullN hx hb dX11_binding_10 ?_
  refine lv_iconst (v := -1) hx hb dX11_binding_13 (by decide) ?_
  exact hend (rfl) dX11_binding_14
theorem dX11_inner_0 : decode cX11_inner 0 = .ok (.aload_n 0, 1) := by decide +kernel
theorem dX11_inner_1 : decode cX11_inner 1 = .ok (.getfield 38, 3) := by decide +kernel
theorem dX11_inner_4 : decode cX11_inner 4 = .ok (.iload_n 1, 1) := by decide +kernel
theorem dX11_inner_5 : decode cX11_inner 5 = .ok (.invokevirtual 129, 3) := by decide +kernel
theorem dX11_inner_8 : decode cX11_inner 8 = .ok (.astore_n 3, 1) := by decide +kernel
theorem dX11_inner_9 : decode cX11_inner 9 = .ok (.aload_n 3, 1) := by decide +kernel
theorem dX11_inner_10 : decode cX11_inner 10 = .ok (.ifnonnull 5, 3) := by decide +kernel
theorem dX11_inner_13 : decode cX11_inner 13 = .ok (.lconst 0, 1) := by decide +kernel
theorem dX11_inner_14 : decode cX11_inner 14 = .ok (.lreturn, 1) := by decide +kernel
theorem dX11_inner_15 : decode cX11_inner 15 = .ok (.iload_n 2, 1) := by decide +kernel
theorem dX11_inner_16 : decode cX11_inner 16 = .ok (.ifCond .eq 10, 3) := by decide +kernel
theorem dX11_inner_19 : decode cX11_inner 19 = .ok (.aload_n 3, 1) := by decide +kernel
theorem dX11_inner_20 : decode cX11_inner 20 = .ok (.getfield 151, 3) := by decide +kernel
theorem dX11_inner_23 : decode cX11_inner 23 = .ok (.goto 7, 3) := by decide +kernel
theorem dX11_inner_26 : decode cX11_inner 26 = .ok (.aload_n 3, 1) := by decide +kernel
theorem dX11_inner_27 : decode cX11_inner 27 = .ok (.getfield 155, 3) := by decide +kernel
theorem dX11_inner_30 : decode cX11_inner 30 = .ok (.lreturn, 1) := by decide +kernel
theorem yv_X11_inner : YV RX11 yX11_inner cX11_inner 4 (some .long) 2 := ⟨kw4_65, kw4_66, kw1_1, kw4_67, by decide +kernel⟩
set_option maxHeartbeats 4000000 in
set_option maxRecDepth 100000 in
theorem c_X11_inner {l : Launch} {D : va_G} {cy : Nat → ClassId} {ad : Nat → Nat} {tl dy : va_W} {eb es tp os bits F G u nb ns T M id : Nat} {mb mz : Int32} {ft fo : Nat → UInt8} {g : Nat → Int32} {dq ba sa pt ih il ip pn op so fa fp st en : Nat → Nat} {e0 : Nat × Nat} (htp : tp ≤ 1600) (hos : os ≤ 1620) (hsi : SI bits F G) (hu4 : u ≤ 4) (hDY : DY cy e0.1 dy eb es nb ns ba sa pt ih il ip pn op so fa fp st en) (hb_pt : ∀ i, pt i < 2 ^ 31) (hb_ih : ∀ i, ih i < 2 ^ 64) (hb_il : ∀ i, il i < 2 ^ 64) (hb_ip : ∀ i, ip i < 2 ^ 31) (hb_pn : ∀ i, pn i < 2 ^ 31) (hb_op : ∀ i, op i < 2 ^ 31) (hb_fa : ∀ i, fa i < 2 ^ 32) (hb_fp : ∀ i, fp i < 2 ^ 31) (hb_st : ∀ i, st i ≤ 7) (hb_en : ∀ i, en i < 2 ^ 62) {i : Nat} (hi : i < nb) {lw : Bool} : RO l yX11_inner cX11_inner 4 (some .long) 4 85 [.ref (ad 0), .int (nI i), .int (bI (lw))] D cy ((cW cy ad eb es mb mz tp os bits F G u nb ns T M id ft fo g dq ++ tl) ++ dy) (.long (lN (if lw = true then il i else ih i))) := by
  refine ROl (by decide) (lv0 := [(0, .ref (ad 0)), (1, .int (nI i)), (2, .int (bI (lw)))]) rfl (Nat.le_of_ble_eq_true rfl) ?_
  intro p e s m args below meth c ls Q S hP hK hend hl
  have hx := S.1
  have hb := S.2.1
  have hown : s.vm.findClass RX11 = some m.cls := S.2.2.2.1
  have ht : ∀ w ∈ lw_g, w.before args s = true := fun w h => S.2.2.2.2 w (List.mem_cons_of_mem _ h)
  have hP : va_P D vwCl ((cW cy ad eb es mb mz tp os bits F G u nb ns T M id ft fo g dq ++ tl) ++ dy) s.heap := hP
  have hT : ((cW cy ad eb es mb mz tp os bits F G u nb ns T M id ft fo g dq ++ tl) ++ dy)[8]? = some (tE (ad 8) (ad 9) (ad 10) T) := rfl
  have hLb : ((cW cy ad eb es mb mz tp os bits F G u nb ns T M id ft fo g dq ++ tl) ++ dy)[9]? = some (aL (ad 9) mb eb nb) := rfl
  have hLs : ((cW cy ad eb es mb mz tp os bits F G u nb ns T M id ft fo g dq ++ tl) ++ dy)[10]? = some (aL (ad 10) mz es ns) := rfl
  have hB : TB1 cy ((cW cy ad eb es mb mz tp os bits F G u nb ns T M id ft fo g dq ++ tl) ++ dy) e0.1 eb nb ba pt ih il ip pn op := hDY.1.app
  have hS1 : TS1 cy ((cW cy ad eb es mb mz tp os bits F G u nb ns T M id ft fo g dq ++ tl) ++ dy) e0.1 es ns nb ba sa so fa fp st en := hDY.2.1.app
  have hST : STP ((cW cy ad eb es mb mz tp os bits F G u nb ns T M id ft fo g dq ++ tl) ++ dy) (ad 5) bits F G := STP_of (ks := 5) rfl hsi
  have hPL : PLP cy ((cW cy ad eb es mb mz tp os bits F G u nb ns T M id ft fo g dq ++ tl) ++ dy) (ad 6) g u := PLP_of (kp := 6) (kq := 7) rfl rfl hu4
  have hnb := hB.le
  have hns := hS1.le
  refine lv_aload_n hx hb dX11_inner_0 rfl (lv_at hl 0 rfl) ?_
  refine va_get (ci := 8) (C := RX11) (T := TX11) (N := 8) hx hb ht iFX11 hown hK hP 0 rfl rfl 4 (by decide) (ht _ kw1_127) (fun _ h9 => h9) rfl dX11_inner_1 ?_
  refine lv_iload_n hx hb dX11_inner_4 rfl (lv_at hl 1 rfl) ?_
  refine ro_V S (c_X10_bindingAt hT hLb hB hb_pt hb_ih hb_il hb_ip hb_pn hb_op (i := i) (by omega)) kw4_59 yv_X10_bindingAt ⟨Nat.le_of_ble_eq_true rfl, Nat.le_of_ble_eq_true rfl⟩ hK hP (va_recv hK hP (ci := 7) (q0 := 8) rfl rfl) rfl hl.1 rfl (Nat.le_of_ble_eq_true rfl) dX11_inner_5 ⟨(Nat.zero_le _), (Nat.zero_le _)⟩ ?_
  rw [if_pos hi]
  refine W.eq (g2 := F0 m 8 ls [.ref (ba i)]) rfl ?_
  obtain ⟨kz, hkz⟩ := hB.at (i := i) hi
  have hkz_pt := hb_pt i
  have hkz_ih := hb_ih i
  have hkz_il := hb_il i
  have hkz_ip := hb_ip i
  have hkz_pn := hb_pn i
  have hkz_op := hb_op i
  refine lv_astore_n (lv' := [(3, .ref (ba i)), (0, .ref (ad 0)), (1, .int (nI i)), (2, .int (bI (lw)))]) hx hb dX11_inner_8 rfl hl (by decide) rfl (fun ls hl => ?_)
  refine lv_aload_n hx hb dX11_inner_9 rfl (lv_at hl 0 rfl) ?_
  refine lv_ifnonnull (tgt := 15) hx hb dX11_inner_10 (by decide) ?_
  refine lv_iload_n hx hb dX11_inner_15 rfl (lv_at hl 3 rfl) ?_
  refine nv_if_eqb (tgt := 26) hx hb dX11_inner_16 (by decide) (fun h16 => ?_) (fun h16 => ?_)
  · skip
    refine lv_aload_n hx hb dX11_inner_26 rfl (lv_at hl 0 rfl) ?_
    refine va_get (ci := 1) (C := RX0) (T := TX0) (N := 6) hx hb ht iFX0 hown hK hP kz hkz rfl 1 (by decide) (ht _ kw2_239) (fun _ h9 => h9) rfl dX11_inner_27 ?_
    exact hend ((by first | rw [if_pos h16] | rw [if_neg (by rw [h16]; decide)])) dX11_inner_30
  refine lv_aload_n hx hb dX11_inner_19 rfl (lv_at hl 0 rfl) ?_
  refine va_get (ci := 1) (C := RX0) (T := TX0) (N := 6) hx hb ht iFX0 hown hK hP kz hkz rfl 2 (by decide) (ht _ kw3_2) (fun _ h9 => h9) rfl dX11_inner_20 ?_
  refine lv_goto (tgt := 30) hx hb dX11_inner_23 (by decide) ?_
  exact hend ((by first | rw [if_pos h16] | rw [if_neg (by rw [h16]; decide)])) dX11_inner_30
set_option maxHeartbeats 4000000 in
set_option maxRecDepth 100000 in
theorem c_X11_innerG {l : Launch} {D : va_G} {cy : Nat → ClassId} {ad : Nat → Nat} {tl dy : va_W} {eb es tp os bits F G u nb ns T M id : Nat} {mb mz : Int32} {ft fo : Nat → UInt8} {g : Nat → Int32} {dq ba sa pt ih il ip pn op so fa fp st en : Nat → Nat} {e0 : Nat × Nat} (htp : tp ≤ 1600) (hos : os ≤ 1620) (hsi : SI bits F G) (hu4 : u ≤ 4) (hDY : DY cy e0.1 dy eb es nb ns ba sa pt ih il ip pn op so fa fp st en) (hb_pt : ∀ i, pt i < 2 ^ 31) (hb_ih : ∀ i, ih i < 2 ^ 64) (hb_il : ∀ i, il i < 2 ^ 64) (hb_ip : ∀ i, ip i < 2 ^ 31) (hb_pn : ∀ i, pn i < 2 ^ 31) (hb_op : ∀ i, op i < 2 ^ 31) (hb_fa : ∀ i, fa i < 2 ^ 32) (hb_fp : ∀ i, fp i < 2 ^ 31) (hb_st : ∀ i, st i ≤ 7) (hb_en : ∀ i, en i < 2 ^ 62) {i : Nat} (hi9 : i < 2 ^ 31) (hi : ¬ i < nb) {lw : Bool} : RO l yX11_inner cX11_inner 4 (some .long) 4 85 [.ref (ad 0), .int (nI i), .int (bI (lw))] D cy ((cW cy ad eb es mb mz tp os bits F G u nb ns T M id ft fo g dq ++ tl) ++ dy) (.long (lN 0)) := by
  refine ROl (by decide) (lv0 := [(0, .ref (ad 0)), (1, .int (nI i)), (2, .int (bI (lw)))]) rfl (Nat.le_of_ble_eq_true rfl) ?_
  intro p e s m args below meth c ls Q S hP hK hend hl
  have hx := S.1
  have hb := S.2.1
  have hown : s.vm.findClass RX11 = some m.cls := S.2.2.2.1
  have ht : ∀ w ∈ lw_g, w.before args s = true := fun w h => S.2.2.2.2 w (List.mem_cons_of_mem _ h)
  have hP : va_P D vwCl ((cW cy ad eb es mb mz tp os bits F G u nb ns T M id ft fo g dq ++ tl) ++ dy) s.heap := hP
  have hT : ((cW cy ad eb es mb mz tp os bits F G u nb ns T M id ft fo g dq ++ tl) ++ dy)[8]? = some (tE (ad 8) (ad 9) (ad 10) T) := rfl
  have hLb : ((cW cy ad eb es mb mz tp os bits F G u nb ns T M id ft fo g dq ++ tl) ++ dy)[9]? = some (aL (ad 9) mb eb nb) := rfl
  have hLs : ((cW cy ad eb es mb mz tp os bits F G u nb ns T M id ft fo g dq ++ tl) ++ dy)[10]? = some (aL (ad 10) mz es ns) := rfl
  have hB : TB1 cy ((cW cy ad eb es mb mz tp os bits F G u nb ns T M id ft fo g dq ++ tl) ++ dy) e0.1 eb nb ba pt ih il ip pn op := hDY.1.app
  have hS1 : TS1 cy ((cW cy ad eb es mb mz tp os bits F G u nb ns T M id ft fo g dq ++ tl) ++ dy) e0.1 es ns nb ba sa so fa fp st en := hDY.2.1.app
  have hST : STP ((cW cy ad eb es mb mz tp os bits F G u nb ns T M id ft fo g dq ++ tl) ++ dy) (ad 5) bits F G := STP_of (ks := 5) rfl hsi
  have hPL : PLP cy ((cW cy ad eb es mb mz tp os bits F G u nb ns T M id ft fo g dq ++ tl) ++ dy) (ad 6) g u := PLP_of (kp := 6) (kq := 7) rfl rfl hu4
  have hnb := hB.le
  have hns := hS1.le
  refine lv_aload_n hx hb dX11_inner_0 rfl (lv_at hl 0 rfl) ?_
  refine va_get (ci := 8) (C := RX11) (T := TX11) (N := 8) hx hb ht iFX11 hown hK hP 0 rfl rfl 4 (by decide) (ht _ kw1_127) (fun _ h9 => h9) rfl dX11_inner_1 ?_
  refine lv_iload_n hx hb dX11_inner_4 rfl (lv_at hl 1 rfl) ?_
  refine ro_V S (c_X10_bindingAt hT hLb hB hb_pt hb_ih hb_il hb_ip hb_pn hb_op (i := i) (by omega)) kw4_59 yv_X10_bindingAt ⟨Nat.le_of_ble_eq_true rfl, Nat.le_of_ble_eq_true rfl⟩ hK hP (va_recv hK hP (ci := 7) (q0 := 8) rfl rfl) rfl hl.1 rfl (Nat.le_of_ble_eq_true rfl) dX11_inner_5 ⟨(Nat.zero_le _), (Nat.zero_le _)⟩ ?_
  rw [if_neg hi]
  refine W.eq (g2 := F0 m 8 ls [.null]) rfl ?_
  refine lv_astore_nN (lv' := [(3, .null), (0, .ref (ad 0)), (1, .int (nI i)), (2, .int (bI (lw)))]) hx hb dX11_inner_8 rfl hl (by decide) rfl (fun ls hl => ?_)
  refine lv_aload_nN hx hb dX11_inner_9 rfl (lv_at hl 0 rfl) ?_
  refine lv_ifnonnullN hx hb dX11_inner_10 ?_
  refine lv_lconst (v := lN 0) hx hb dX11_inner_13 (by decide) ?_
  exact hend (rfl) dX11_inner_14
set_option maxHeartbeats 4000000 in
set_option maxRecDepth 100000 in
theorem c_X11_innerN {l : Launch} {D : va_G} {cy : Nat → ClassId} {ad : Nat → Nat} {tl dy : va_W} {eb es tp os bits F G u nb ns T M id : Nat} {mb mz : Int32} {ft fo : Nat → UInt8} {g : Nat → Int32} {dq : Nat → Nat} (htp : tp ≤ 1600) (hos : os ≤ 1620) (hsi : SI bits F G) (hu4 : u ≤ 4) {i : Int32} {lw : Bool} (hneg : i < 0) : RO l yX11_inner cX11_inner 4 (some .long) 4 85 [.ref (ad 0), .int i, .int (bI (lw))] D cy ((cW cy ad eb es mb mz tp os bits F G u nb ns T M id ft fo g dq ++ tl) ++ dy) (.long (lN 0)) := by
  refine ROl (by decide) (lv0 := [(0, .ref (ad 0)), (1, .int i), (2, .int (bI (lw)))]) rfl (Nat.le_of_ble_eq_true rfl) ?_
  intro p e s m args below meth c ls Q S hP hK hend hl
  have hx := S.1
  have hb := S.2.1
  have hown : s.vm.findClass RX11 = some m.cls := S.2.2.2.1
  have ht : ∀ w ∈ lw_g, w.before args s = true := fun w h => S.2.2.2.2 w (List.mem_cons_of_mem _ h)
  have hP : va_P D vwCl ((cW cy ad eb es mb mz tp os bits F G u nb ns T M id ft fo g dq ++ tl) ++ dy) s.heap := hP
  have hT : ((cW cy ad eb es mb mz tp os bits F G u nb ns T M id ft fo g dq ++ tl) ++ dy)[8]? = some (tE (ad 8) (ad 9) (ad 10) T) := rfl
  have hLb : ((cW cy ad eb es mb mz tp os bits F G u nb ns T M id ft fo g dq ++ tl) ++ dy)[9]? = some (aL (ad 9) mb eb nb) := rfl
  have hLs : ((cW cy ad eb es mb mz tp os bits F G u nb ns T M id ft fo g dq ++ tl) ++ dy)[10]? = some (aL (ad 10) mz es ns) := rfl
  have hST : STP ((cW cy ad eb es mb mz tp os bits F G u nb ns T M id ft fo g dq ++ tl) ++ dy) (ad 5) bits F G := STP_of (ks := 5) rfl hsi
  have hPL : PLP cy ((cW cy ad eb es mb mz tp os bits F G u nb ns T M id ft fo g dq ++ tl) ++ dy) (ad 6) g u := PLP_of (kp := 6) (kq := 7) rfl rfl hu4
  refine lv_aload_n hx hb dX11_inner_0 rfl (lv_at hl 0 rfl) ?_
  refine va_get (ci := 8) (C := RX11) (T := TX11) (N := 8) hx hb ht iFX11 hown hK hP 0 rfl rfl 4 (by decide) (ht _ kw1_127) (fun _ h9 => h9) rfl dX11_inner_1 ?_
  refine lv_iload_n hx hb dX11_inner_4 rfl (lv_at hl 1 rfl) ?_
  refine ro_V S (c_X10_bindingAtN hT hneg) kw4_59 yv_X10_bindingAt ⟨Nat.le_of_ble_eq_true rfl, Nat.le_of_ble_eq_true rfl⟩ hK hP (va_recv hK hP (ci := 7) (q0 := 8) rfl rfl) rfl hl.1 rfl (Nat.le_of_ble_eq_true rfl) dX11_inner_5 ⟨(Nat.zero_le _), (Nat.zero_le _)⟩ ?_
  refine W.eq (g2 := F0 m 8 ls [.null]) rfl ?_
  refine lv_astore_nN (lv' := [(3, .null), (0, .ref (ad 0)), (1, .int i), (2, .int (bI (lw)))]) hx hb dX11_inner_8 rfl hl (by decide) rfl (fun ls hl => ?_)
  refine lv_aload_nN hx hb dX11_inner_9 rfl (lv_at hl 0 rfl) ?_
  refine lv_ifnonnullN hx hb dX11_inner_10 ?_
  refine lv_lconst (v := lN 0) hx hb dX11_inner_13 (by decide) ?_
  exact hend (rfl) dX11_inner_14
theorem dX11_session_0 : decode cX11_session 0 = .ok (.aload_n 0, 1) := by decide +kernel
theorem dX11_session_1 : decode cX11_session 1 = .ok (.getfield 38, 3) := by decide +kernel
theorem dX11_session_4 : decode cX11_session 4 = .ok (.iload_n 1, 1) := by decide +kernel
theorem dX11_session_5 : decode cX11_session 5 = .ok (.invokevirtual 158, 3) := by decide +kernel
theorem dX11_session_8 : decode cX11_session 8 = .ok (.astore_n 3, 1) := by decide +kernel
theorem dX11_session_9 : decode cX11_session 9 = .ok (.aload_n 3, 1) := by decide +kernel
theorem dX11_session_10 : decode cX11_session 10 = .ok (.ifnonnull 5, 3) := by decide +kernel
theorem dX11_session_13 : decode cX11_session 13 = .ok (.iconst (-1), 1) := by decide +kernel
theorem dX11_session_14 : decode cX11_session 14 = .ok (.ireturn, 1) := by decide +kernel
theorem dX11_session_15 : decode cX11_session 15 = .ok (.iload_n 2, 1) := by decide +kernel
theorem dX11_session_16 : decode cX11_session 16 = .ok (.tableswitch 77 0 4 #[36, 48, 53, 58, 63], 36) := by decide +kernel
theorem dX11_session_52 : decode cX11_session 52 = .ok (.aload_n 0, 1) := by decide +kernel
theorem dX11_session_53 : decode cX11_session 53 = .ok (.getfield 38, 3) := by decide +kernel
theorem dX11_session_56 : decode cX11_session 56 = .ok (.aload_n 3, 1) := by decide +kernel
theorem dX11_session_57 : decode cX11_session 57 = .ok (.getfield 162, 3) := by decide +kernel
theorem dX11_session_60 : decode cX11_session 60 = .ok (.invokevirtual 168, 3) := by decide +kernel
theorem dX11_session_63 : decode cX11_session 63 = .ok (.ireturn, 1) := by decide +kernel
theorem dX11_session_64 : decode cX11_session 64 = .ok (.aload_n 3, 1) := by decide +kernel
theorem dX11_session_65 : decode cX11_session 65 = .ok (.getfield 171, 3) := by decide +kernel
theorem dX11_session_68 : decode cX11_session 68 = .ok (.ireturn, 1) := by decide +kernel
theorem dX11_session_69 : decode cX11_session 69 = .ok (.aload_n 3, 1) := by decide +kernel
theorem dX11_session_70 : decode cX11_session 70 = .ok (.getfield 174, 3) := by decide +kernel
theorem dX11_session_73 : decode cX11_session 73 = .ok (.ireturn, 1) := by decide +kernel
theorem dX11_session_74 : decode cX11_session 74 = .ok (.aload_n 3, 1) := by decide +kernel
theorem dX11_session_75 : decode cX11_session 75 = .ok (.getfield 177, 3) := by decide +kernel
theorem dX11_session_78 : decode cX11_session 78 = .ok (.ireturn, 1) := by decide +kernel
theorem dX11_session_79 : decode cX11_session 79 = .ok (.aload_n 3, 1) := by decide +kernel
theorem dX11_session_80 : decode cX11_session 80 = .ok (.getfield 180, 3) := by decide +kernel
theorem dX11_session_83 : decode cX11_session 83 = .ok (.aload_n 0, 1) := by decide +kernel
theorem dX11_session_84 : decode cX11_session 84 = .ok (.getfield 38, 3) := by decide +kernel
theorem dX11_session_87 : decode cX11_session 87 = .ok (.invokevirtual 183, 3) := by decide +kernel
theorem dX11_session_90 : decode cX11_session 90 = .ok (.lsub, 1) := by decide +kernel
theorem dX11_session_91 : decode cX11_session 91 = .ok (.l2i, 1) := by decide +kernel
theorem dX11_session_92 : decode cX11_session 92 = .ok (.ireturn, 1) := by decide +kernel
theorem dX11_session_93 : decode cX11_session 93 = .ok (.iconst (-1), 1) := by decide +kernel
theorem dX11_session_94 : decode cX11_session 94 = .ok (.ireturn, 1) := by decide +kernel
theorem yv_X11_session : YV RX11 yX11_session cX11_session 4 (some .int) 2 := ⟨kw4_69, kw4_70, kw1_1, kw4_71, by decide +kernel⟩
set_option maxHeartbeats 4000000 in
set_option maxRecDepth 100000 in
theorem c_X11_session {l : Launch} {D : va_G} {cy : Nat → ClassId} {ad : Nat → Nat} {tl dy : va_W} {eb es tp os bits F G u nb ns T M id : Nat} {mb mz : Int32} {ft fo : Nat → UInt8} {g : Nat → Int32} {dq ba sa pt ih il ip pn op so fa fp st en : Nat → Nat} {e0 : Nat × Nat} (htp : tp ≤ 1600) (hos : os ≤ 1620) (hsi : SI bits F G) (hu4 : u ≤ 4) (hDY : DY cy e0.1 dy eb es nb ns ba sa pt ih il ip pn op so fa fp st en) (hb_pt : ∀ i, pt i < 2 ^ 31) (hb_ih : ∀ i, ih i < 2 ^ 64) (hb_il : ∀ i, il i < 2 ^ 64) (hb_ip : ∀ i, ip i < 2 ^ 31) (hb_pn : ∀ i, pn i < 2 ^ 31) (hb_op : ∀ i, op i < 2 ^ 31) (hb_fa : ∀ i, fa i < 2 ^ 32) (hb_fp : ∀ i, fp i < 2 ^ 31) (hb_st : ∀ i, st i ≤ 7) (hb_en : ∀ i, en i < 2 ^ 62) (hb_enT : ∀ i, i < ns → T ≤ en i) {i : Nat} (hi : i < ns) {w : Nat} (hw9 : w < 2 ^ 31) : RO l yX11_session cX11_session 4 (some .int) 4 86 [.ref (ad 0), .int (nI i), .int (nI w)] D cy ((cW cy ad eb es mb mz tp os bits F G u nb ns T M id ft fo g dq ++ tl) ++ dy) (.int (tg_sw so fa fp st en T i w)) := by
  refine ROi (by decide) (lv0 := [(0, .ref (ad 0)), (1, .int (nI i)), (2, .int (nI w))]) rfl (Nat.le_of_ble_eq_true rfl) ?_
  intro p e s m args below meth c ls Q S hP hK hend hl
  have hx := S.1
  have hb := S.2.1
  have hown : s.vm.findClass RX11 = some m.cls := S.2.2.2.1
  have ht : ∀ w ∈ lw_g, w.before args s = true := fun w h => S.2.2.2.2 w (List.mem_cons_of_mem _ h)
  have hP : va_P D vwCl ((cW cy ad eb es mb mz tp os bits F G u nb ns T M id ft fo g dq ++ tl) ++ dy) s.heap := hP
  have hT : ((cW cy ad eb es mb mz tp os bits F G u nb ns T M id ft fo g dq ++ tl) ++ dy)[8]? = some (tE (ad 8) (ad 9) (ad 10) T) := rfl
  have hLb : ((cW cy ad eb es mb mz tp os bits F G u nb ns T M id ft fo g dq ++ tl) ++ dy)[9]? = some (aL (ad 9) mb eb nb) := rfl
  have hLs : ((cW cy ad eb es mb mz tp os bits F G u nb ns T M id ft fo g dq ++ tl) ++ dy)[10]? = some (aL (ad 10) mz es ns) := rfl
  have hB : TB1 cy ((cW cy ad eb es mb mz tp os bits F G u nb ns T M id ft fo g dq ++ tl) ++ dy) e0.1 eb nb ba pt ih il ip pn op := hDY.1.app
  have hS1 : TS1 cy ((cW cy ad eb es mb mz tp os bits F G u nb ns T M id ft fo g dq ++ tl) ++ dy) e0.1 es ns nb ba sa so fa fp st en := hDY.2.1.app
  have hST : STP ((cW cy ad eb es mb mz tp os bits F G u nb ns T M id ft fo g dq ++ tl) ++ dy) (ad 5) bits F G := STP_of (ks := 5) rfl hsi
  have hPL : PLP cy ((cW cy ad eb es mb mz tp os bits F G u nb ns T M id ft fo g dq ++ tl) ++ dy) (ad 6) g u := PLP_of (kp := 6) (kq := 7) rfl rfl hu4
  have hnb := hB.le
  have hns := hS1.le
  refine lv_aload_n hx hb dX11_session_0 rfl (lv_at hl 0 rfl) ?_
  refine va_get (ci := 8) (C := RX11) (T := TX11) (N := 8) hx hb ht iFX11 hown hK hP 0 rfl rfl 4 (by decide) (ht _ kw1_127) (fun _ h9 => h9) rfl dX11_session_1 ?_
  refine lv_iload_n hx hb dX11_session_4 rfl (lv_at hl 1 rfl) ?_
  refine ro_V S (c_X10_sessionAt hT hLs hS1 hb_fa hb_fp hb_st hb_en (i := i) (by omega)) kw4_72 yv_X10_sessionAt ⟨Nat.le_of_ble_eq_true rfl, Nat.le_of_ble_eq_true rfl⟩ hK hP (va_recv hK hP (ci := 7) (q0 := 8) rfl rfl) rfl hl.1 rfl (Nat.le_of_ble_eq_true rfl) dX11_session_5 ⟨(Nat.zero_le _), (Nat.zero_le _)⟩ ?_
  rw [if_pos hi]
  refine W.eq (g2 := F0 m 8 ls [.ref (sa i)]) rfl ?_
  obtain ⟨kz, hkz⟩ := hS1.at (i := i) hi
  have hkz_fa := hb_fa i
  have hkz_fp := hb_fp i
  have hkz_st := hb_st i
  have hkz_en := hb_en i
  have hkz_so := hS1.own hi
  refine lv_astore_n (lv' := [(3, .ref (sa i)), (0, .ref (ad 0)), (1, .int (nI i)), (2, .int (nI w))]) hx hb dX11_session_8 rfl hl (by decide) rfl (fun ls hl => ?_)
  refine lv_aload_n hx hb dX11_session_9 rfl (lv_at hl 0 rfl) ?_
  refine lv_ifnonnull (tgt := 15) hx hb dX11_session_10 (by decide) ?_
  refine lv_iload_n hx hb dX11_session_15 rfl (lv_at hl 3 rfl) ?_
  by_cases hs16_0 : w = 0
  · refine lv_tableIn (off := 36) (tgt := 52) hx hb dX11_session_16 (by rw [hs16_0]; decide) (by rw [hs16_0]; decide) (by rw [hs16_0]; decide) (by decide) ?_
    refine lv_aload_n hx hb dX11_session_52 rfl (lv_at hl 1 rfl) ?_
    refine va_get (ci := 8) (C := RX11) (T := TX11) (N := 8) hx hb ht iFX11 hown hK hP 0 rfl rfl 4 (by decide) (ht _ kw1_127) (fun _ h9 => h9) rfl dX11_session_53 ?_
    refine lv_aload_n hx hb dX11_session_56 rfl (lv_at hl 0 rfl) ?_
    refine va_get (ci := 5) (C := RX7) (T := TX7) (N := 5) hx hb ht iFX7 hown hK hP kz hkz rfl 0 (by decide) (ht _ kw3_89) (fun _ h9 => h9) rfl dX11_session_57 ?_
    refine ro_V S (c_X10_numberOf hT hLb hB hb_pt hb_ih hb_il hb_ip hb_pn hb_op (b := (so i)) (by omega)) kw4_76 yv_X10_numberOf ⟨Nat.le_of_ble_eq_true rfl, Nat.le_of_ble_eq_true rfl⟩ hK hP (va_recv hK hP (ci := 7) (q0 := 8) rfl rfl) rfl hl.1 rfl (Nat.le_of_ble_eq_true rfl) dX11_session_60 ⟨(Nat.zero_le _), (Nat.zero_le _)⟩ ?_
    exact hend ((by unfold tg_sw; rw [if_pos hs16_0])) dX11_session_63
  by_cases hs16_1 : w = 1
  · refine lv_tableIn (off := 48) (tgt := 64) hx hb dX11_session_16 (by rw [hs16_1]; decide) (by rw [hs16_1]; decide) (by rw [hs16_1]; decide) (by decide) ?_
    refine lv_aload_n hx hb dX11_session_64 rfl (lv_at hl 0 rfl) ?_
    refine va_get (ci := 5) (C := RX7) (T := TX7) (N := 5) hx hb ht iFX7 hown hK hP kz hkz rfl 1 (by decide) (ht _ kw3_92) (fun _ h9 => h9) rfl dX11_session_65 ?_
    exact hend ((by unfold tg_sw; rw [if_neg hs16_0, if_pos hs16_1])) dX11_session_68
  by_cases hs16_2 : w = 2
  · refine lv_tableIn (off := 53) (tgt := 69) hx hb dX11_session_16 (by rw [hs16_2]; decide) (by rw [hs16_2]; decide) (by rw [hs16_2]; decide) (by decide) ?_
    refine lv_aload_n hx hb dX11_session_69 rfl (lv_at hl 0 rfl) ?_
    refine va_get (ci := 5) (C := RX7) (T := TX7) (N := 5) hx hb ht iFX7 hown hK hP kz hkz rfl 2 (by decide) (ht _ kw3_95) (fun _ h9 => h9) rfl dX11_session_70 ?_
    exact hend ((by unfold tg_sw; rw [if_neg hs16_0, if_neg hs16_1, if_pos hs16_2])) dX11_session_73
  by_cases hs16_3 : w = 3
  · refine lv_tableIn (off := 58) (tgt := 74) hx hb dX11_session_16 (by rw [hs16_3]; decide) (by rw [hs16_3]; decide) (by rw [hs16_3]; decide) (by decide) ?_
    refine lv_aload_n hx hb dX11_session_74 rfl (lv_at hl 0 rfl) ?_
    refine va_get (ci := 5) (C := RX7) (T := TX7) (N := 5) hx hb ht iFX7 hown hK hP kz hkz rfl 3 (by decide) (ht _ kw3_97) (fun _ h9 => h9) rfl dX11_session_75 ?_
    exact hend ((by unfold tg_sw; rw [if_neg hs16_0, if_neg hs16_1, if_neg hs16_2, if_pos hs16_3])) dX11_session_78
  by_cases hs16_4 : w = 4
  · refine lv_tableIn (off := 63) (tgt := 79) hx hb dX11_session_16 (by rw [hs16_4]; decide) (by rw [hs16_4]; decide) (by rw [hs16_4]; decide) (by decide) ?_
    have hle9 := hb_enT i hi
    refine lv_aload_n hx hb dX11_session_79 rfl (lv_at hl 0 rfl) ?_
    refine va_get (ci := 5) (C := RX7) (T := TX7) (N := 5) hx hb ht iFX7 hown hK hP kz hkz rfl 4 (by decide) (ht _ kw3_100) (fun _ h9 => h9) rfl dX11_session_80 ?_
    refine lv_aload_n hx hb dX11_session_83 rfl (lv_at hl 1 rfl) ?_
    refine va_get (ci := 8) (C := RX11) (T := TX11) (N := 8) hx hb ht iFX11 hown hK hP 0 rfl rfl 4 (by decide) (ht _ kw1_127) (fun _ h9 => h9) rfl dX11_session_84 ?_
    refine ro_V S (c_X10_time hT) kw4_80 yv_X10_time ⟨Nat.le_of_ble_eq_true rfl, Nat.le_of_ble_eq_true rfl⟩ hK hP (va_recv hK hP (ci := 7) (q0 := 8) rfl rfl) rfl hl.1 rfl (Nat.le_of_ble_eq_true rfl) dX11_session_87 ⟨(Nat.zero_le _), (Nat.zero_le _)⟩ ?_
    refine nv_lsub hx hb (by omega) dX11_session_90 ?_
    refine nv_l2i hx hb dX11_session_91 ?_
    exact hend ((by unfold tg_sw; rw [if_neg hs16_0, if_neg hs16_1, if_neg hs16_2, if_neg hs16_3, if_pos hs16_4])) dX11_session_92
  refine lv_tableOut (tgt := 93) hx hb dX11_session_16 (by rw [nI_toInt (by omega)]; omega) (by decide) ?_
  refine lv_iconst (v := -1) hx hb dX11_session_93 (by decide) ?_
  exact hend ((by unfold tg_sw; rw [if_neg hs16_0, if_neg hs16_1, if_neg hs16_2, if_neg hs16_3, if_neg hs16_4])) dX11_session_94
set_option maxHeartbeats 4000000 in
set_option maxRecDepth 100000 in
theorem c_X11_sessionW {l : Launch} {D : va_G} {cy : Nat → ClassId} {ad : Nat → Nat} {tl dy : va_W} {eb es tp os bits F G u nb ns T M id : Nat} {mb mz : Int32} {ft fo : Nat → UInt8} {g : Nat → Int32} {dq ba sa pt ih il ip pn op so fa fp st en : Nat → Nat} {e0 : Nat × Nat} (htp : tp ≤ 1600) (hos : os ≤ 1620) (hsi : SI bits F G) (hu4 : u ≤ 4) (hDY : DY cy e0.1 dy eb es nb ns ba sa pt ih il ip pn op so fa fp st en) (hb_pt : ∀ i, pt i < 2 ^ 31) (hb_ih : ∀ i, ih i < 2 ^ 64) (hb_il : ∀ i, il i < 2 ^ 64) (hb_ip : ∀ i, ip i < 2 ^ 31) (hb_pn : ∀ i, pn i < 2 ^ 31) (hb_op : ∀ i, op i < 2 ^ 31) (hb_fa : ∀ i, fa i < 2 ^ 32) (hb_fp : ∀ i, fp i < 2 ^ 31) (hb_st : ∀ i, st i ≤ 7) (hb_en : ∀ i, en i < 2 ^ 62) {i : Nat} (hi : i < ns) {w : Int32} (hneg : w < 0) : RO l yX11_session cX11_session 4 (some .int) 4 85 [.ref (ad 0), .int (nI i), .int w] D cy ((cW cy ad eb es mb mz tp os bits F G u nb ns T M id ft fo g dq ++ tl) ++ dy) (.int (-1)) := by
  refine ROi (by decide) (lv0 := [(0, .ref (ad 0)), (1, .int (nI i)), (2, .int w)]) rfl (Nat.le_of_ble_eq_true rfl) ?_
  intro p e s m args below meth c ls Q S hP hK hend hl
  have hx := S.1
  have hb := S.2.1
  have hown : s.vm.findClass RX11 = some m.cls := S.2.2.2.1
  have ht : ∀ w ∈ lw_g, w.before args s = true := fun w h => S.2.2.2.2 w (List.mem_cons_of_mem _ h)
  have hP : va_P D vwCl ((cW cy ad eb es mb mz tp os bits F G u nb ns T M id ft fo g dq ++ tl) ++ dy) s.heap := hP
  have hT : ((cW cy ad eb es mb mz tp os bits F G u nb ns T M id ft fo g dq ++ tl) ++ dy)[8]? = some (tE (ad 8) (ad 9) (ad 10) T) := rfl
  have hLb : ((cW cy ad eb es mb mz tp os bits F G u nb ns T M id ft fo g dq ++ tl) ++ dy)[9]? = some (aL (ad 9) mb eb nb) := rfl
  have hLs : ((cW cy ad eb es mb mz tp os bits F G u nb ns T M id ft fo g dq ++ tl) ++ dy)[10]? = some (aL (ad 10) mz es ns) := rfl
  have hB : TB1 cy ((cW cy ad eb es mb mz tp os bits F G u nb ns T M id ft fo g dq ++ tl) ++ dy) e0.1 eb nb ba pt ih il ip pn op := hDY.1.app
  have hS1 : TS1 cy ((cW cy ad eb es mb mz tp os bits F G u nb ns T M id ft fo g dq ++ tl) ++ dy) e0.1 es ns nb ba sa so fa fp st en := hDY.2.1.app
  have hST : STP ((cW cy ad eb es mb mz tp os bits F G u nb ns T M id ft fo g dq ++ tl) ++ dy) (ad 5) bits F G := STP_of (ks := 5) rfl hsi
  have hPL : PLP cy ((cW cy ad eb es mb mz tp os bits F G u nb ns T M id ft fo g dq ++ tl) ++ dy) (ad 6) g u := PLP_of (kp := 6) (kq := 7) rfl rfl hu4
  have hnb := hB.le
  have hns := hS1.le
  refine lv_aload_n hx hb dX11_session_0 rfl (lv_at hl 0 rfl) ?_
  refine va_get (ci := 8) (C := RX11) (T := TX11) (N := 8) hx hb ht iFX11 hown hK hP 0 rfl rfl 4 (by decide) (ht _ kw1_127) (fun _ h9 => h9) rfl dX11_session_1 ?_
  refine lv_iload_n hx hb dX11_session_4 rfl (lv_at hl 1 rfl) ?_
  refine ro_V S (c_X10_sessionAt hT hLs hS1 hb_fa hb_fp hb_st hb_en (i := i) (by omega)) kw4_72 yv_X10_sessionAt ⟨Nat.le_of_ble_eq_true rfl, Nat.le_of_ble_eq_true rfl⟩ hK hP (va_recv hK hP (ci := 7) (q0 := 8) rfl rfl) rfl hl.1 rfl (Nat.le_of_ble_eq_true rfl) dX11_session_5 ⟨(Nat.zero_le _), (Nat.zero_le _)⟩ ?_
  rw [if_pos hi]
  refine W.eq (g2 := F0 m 8 ls [.ref (sa i)]) rfl ?_
  obtain ⟨kz, hkz⟩ := hS1.at (i := i) hi
  have hkz_fa := hb_fa i
  have hkz_fp := hb_fp i
  have hkz_st := hb_st i
  have hkz_en := hb_en i
  have hkz_so := hS1.own hi
  refine lv_astore_n (lv' := [(3, .ref (sa i)), (0, .ref (ad 0)), (1, .int (nI i)), (2, .int w)]) hx hb dX11_session_8 rfl hl (by decide) rfl (fun ls hl => ?_)
  refine lv_aload_n hx hb dX11_session_9 rfl (lv_at hl 0 rfl) ?_
  refine lv_ifnonnull (tgt := 15) hx hb dX11_session_10 (by decide) ?_
  refine lv_iload_n hx hb dX11_session_15 rfl (lv_at hl 3 rfl) ?_
  refine lv_tableOut (tgt := 93) hx hb dX11_session_16 (Or.inl (neg_toInt hneg)) (by decide) ?_
  refine lv_iconst (v := -1) hx hb dX11_session_93 (by decide) ?_
  exact hend (rfl) dX11_session_94
set_option maxHeartbeats 4000000 in
set_option maxRecDepth 100000 in
theorem c_X11_sessionG {l : Launch} {D : va_G} {cy : Nat → ClassId} {ad : Nat → Nat} {tl dy : va_W} {eb es tp os bits F G u nb ns T M id : Nat} {mb mz : Int32} {ft fo : Nat → UInt8} {g : Nat → Int32} {dq ba sa pt ih il ip pn op so fa fp st en : Nat → Nat} {e0 : Nat × Nat} (htp : tp ≤ 1600) (hos : os ≤ 1620) (hsi : SI bits F G) (hu4 : u ≤ 4) (hDY : DY cy e0.1 dy eb es nb ns ba sa pt ih il ip pn op so fa fp st en) (hb_pt : ∀ i, pt i < 2 ^ 31) (hb_ih : ∀ i, ih i < 2 ^ 64) (hb_il : ∀ i, il i < 2 ^ 64) (hb_ip : ∀ i, ip i < 2 ^ 31) (hb_pn : ∀ i, pn i < 2 ^ 31) (hb_op : ∀ i, op i < 2 ^ 31) (hb_fa : ∀ i, fa i < 2 ^ 32) (hb_fp : ∀ i, fp i < 2 ^ 31) (hb_st : ∀ i, st i ≤ 7) (hb_en : ∀ i, en i < 2 ^ 62) {i : Nat} (hi9 : i < 2 ^ 31) (hi : ¬ i < ns) {w : Int32} : RO l yX11_session cX11_session 4 (some .int) 4 85 [.ref (ad 0), .int (nI i), .int w] D cy ((cW cy ad eb es mb mz tp os bits F G u nb ns T M id ft fo g dq ++ tl) ++ dy) (.int (-1)) := by
  refine ROi (by decide) (lv0 := [(0, .ref (ad 0)), (1, .int (nI i)), (2, .int w)]) rfl (Nat.le_of_ble_eq_true rfl) ?_
  intro p e s m args below meth c ls Q S hP hK hend hl
  have hx := S.1
  have hb := S.2.1
  have hown : s.vm.findClass RX11 = some m.cls := S.2.2.2.1
  have ht : ∀ w ∈ lw_g, w.before args s = true := fun w h => S.2.2.2.2 w (List.mem_cons_of_mem _ h)
  have hP : va_P D vwCl ((cW cy ad eb es mb mz tp os bits F G u nb ns T M id ft fo g dq ++ tl) ++ dy) s.heap := hP
  have hT : ((cW cy ad eb es mb mz tp os bits F G u nb ns T M id ft fo g dq ++ tl) ++ dy)[8]? = some (tE (ad 8) (ad 9) (ad 10) T) := rfl
  have hLb : ((cW cy ad eb es mb mz tp os bits F G u nb ns T M id ft fo g dq ++ tl) ++ dy)[9]? = some (aL (ad 9) mb eb nb) := rfl
  have hLs : ((cW cy ad eb es mb mz tp os bits F G u nb ns T M id ft fo g dq ++ tl) ++ dy)[10]? = some (aL (ad 10) mz es ns) := rfl
  have hB : TB1 cy ((cW cy ad eb es mb mz tp os bits F G u nb ns T M id ft fo g dq ++ tl) ++ dy) e0.1 eb nb ba pt ih il ip pn op := hDY.1.app
  have hS1 : TS1 cy ((cW cy ad eb es mb mz tp os bits F G u nb ns T M id ft fo g dq ++ tl) ++ dy) e0.1 es ns nb ba sa so fa fp st en := hDY.2.1.app
  have hST : STP ((cW cy ad eb es mb mz tp os bits F G u nb ns T M id ft fo g dq ++ tl) ++ dy) (ad 5) bits F G := STP_of (ks := 5) rfl hsi
  have hPL : PLP cy ((cW cy ad eb es mb mz tp os bits F G u nb ns T M id ft fo g dq ++ tl) ++ dy) (ad 6) g u := PLP_of (kp := 6) (kq := 7) rfl rfl hu4
  have hnb := hB.le
  have hns := hS1.le
  refine lv_aload_n hx hb dX11_session_0 rfl (lv_at hl 0 rfl) ?_
  refine va_get (ci := 8) (C := RX11) (T := TX11) (N := 8) hx hb ht iFX11 hown hK hP 0 rfl rfl 4 (by decide) (ht _ kw1_127) (fun _ h9 => h9) rfl dX11_session_1 ?_
  refine lv_iload_n hx hb dX11_session_4 rfl (lv_at hl 1 rfl) ?_
  refine ro_V S (c_X10_sessionAt hT hLs hS1 hb_fa hb_fp hb_st hb_en (i := i) (by omega)) kw4_72 yv_X10_sessionAt ⟨Nat.le_of_ble_eq_true rfl, Nat.le_of_ble_eq_true rfl⟩ hK hP (va_recv hK hP (ci := 7) (q0 := 8) rfl rfl) rfl hl.1 rfl (Nat.le_of_ble_eq_true rfl) dX11_session_5 ⟨(Nat.zero_le _), (Nat.zero_le _)⟩ ?_
  rw [if_neg hi]
  refine W.eq (g2 := F0 m 8 ls [.null]) rfl ?_
  refine lv_astore_nN (lv' := [(3, .null), (0, .ref (ad 0)), (1, .int (nI i)), (2, .int w)]) hx hb dX11_session_8 rfl hl (by decide) rfl (fun ls hl => ?_)
  refine lv_aload_nN hx hb dX11_session_9 rfl (lv_at hl 0 rfl) ?_
  refine lv_ifnonnullN hx hb dX11_session_10 ?_
  refine lv_iconst (v := -1) hx hb dX11_session_13 (by decide) ?_
  exact hend (rfl) dX11_session_14
set_option maxHeartbeats 4000000 in
set_option maxRecDepth 100000 in
theorem c_X11_sessionN {l : Launch} {D : va_G} {cy : Nat → ClassId} {ad : Nat → Nat} {tl dy : va_W} {eb es tp os bits F G u nb ns T M id : Nat} {mb mz : Int32} {ft fo : Nat → UInt8} {g : Nat → Int32} {dq : Nat → Nat} (htp : tp ≤ 1600) (hos : os ≤ 1620) (hsi : SI bits F G) (hu4 : u ≤ 4) {i w : Int32} (hneg : i < 0) : RO l yX11_session cX11_session 4 (some .int) 4 85 [.ref (ad 0), .int i, .int w] D cy ((cW cy ad eb es mb mz tp os bits F G u nb ns T M id ft fo g dq ++ tl) ++ dy) (.int (-1)) := by
  refine ROi (by decide) (lv0 := [(0, .ref (ad 0)), (1, .int i), (2, .int w)]) rfl (Nat.le_of_ble_eq_true rfl) ?_
  intro p e s m args below meth c ls Q S hP hK hend hl
  have hx := S.1
  have hb := S.2.1
  have hown : s.vm.findClass RX11 = some m.cls := S.2.2.2.1
  have ht : ∀ w ∈ lw_g, w.before args s = true := fun w h => S.2.2.2.2 w (List.mem_cons_of_mem _ h)
  have hP : va_P D vwCl ((cW cy ad eb es mb mz tp os bits F G u nb ns T M id ft fo g dq ++ tl) ++ dy) s.heap := hP
  have hT : ((cW cy ad eb es mb mz tp os bits F G u nb ns T M id ft fo g dq ++ tl) ++ dy)[8]? = some (tE (ad 8) (ad 9) (ad 10) T) := rfl
  have hLb : ((cW cy ad eb es mb mz tp os bits F G u nb ns T M id ft fo g dq ++ tl) ++ dy)[9]? = some (aL (ad 9) mb eb nb) := rfl
  have hLs : ((cW cy ad eb es mb mz tp os bits F G u nb ns T M id ft fo g dq ++ tl) ++ dy)[10]? = some (aL (ad 10) mz es ns) := rfl
  have hST : STP ((cW cy ad eb es mb mz tp os bits F G u nb ns T M id ft fo g dq ++ tl) ++ dy) (ad 5) bits F G := STP_of (ks := 5) rfl hsi
  have hPL : PLP cy ((cW cy ad eb es mb mz tp os bits F G u nb ns T M id ft fo g dq ++ tl) ++ dy) (ad 6) g u := PLP_of (kp := 6) (kq := 7) rfl rfl hu4
  refine lv_aload_n hx hb dX11_session_0 rfl (lv_at hl 0 rfl) ?_
  refine va_get (ci := 8) (C := RX11) (T := TX11) (N := 8) hx hb ht iFX11 hown hK hP 0 rfl rfl 4 (by decide) (ht _ kw1_127) (fun _ h9 => h9) rfl dX11_session_1 ?_
  refine lv_iload_n hx hb dX11_session_4 rfl (lv_at hl 1 rfl) ?_
  refine ro_V S (c_X10_sessionAtN hT hneg) kw4_72 yv_X10_sessionAt ⟨Nat.le_of_ble_eq_true rfl, Nat.le_of_ble_eq_true rfl⟩ hK hP (va_recv hK hP (ci := 7) (q0 := 8) rfl rfl) rfl hl.1 rfl (Nat.le_of_ble_eq_true rfl) dX11_session_5 ⟨(Nat.zero_le _), (Nat.zero_le _)⟩ ?_
  refine W.eq (g2 := F0 m 8 ls [.null]) rfl ?_
  refine lv_astore_nN (lv' := [(3, .null), (0, .ref (ad 0)), (1, .int i), (2, .int w)]) hx hb dX11_session_8 rfl hl (by decide) rfl (fun ls hl => ?_)
  refine lv_aload_nN hx hb dX11_session_9 rfl (lv_at hl 0 rfl) ?_
  refine lv_ifnonnullN hx hb dX11_session_10 ?_
  refine lv_iconst (v := -1) hx hb dX11_session_13 (by decide) ?_
  exact hend (rfl) dX11_session_14
theorem nv_Lcmp_gt {p : Program} {l : Launch} {e : Env} {R : Room} {s : State} {m : MethodId} {args : Array Value} {below : List Frame} {meth : Method} {c : Code} {H : Heap} {locs : List Loc} {cells slots : Nat} {Q : State → Prop} {cc : ByteArray} {pc : Nat} {ls : Array Slot} {rest : List Value} {a b : Nat} {off : Int} {tgt : Nat} (hx : p.tables.exec = Jvm.exec) (hb : c.code = cc) (hd1 : decode cc pc = .ok (.lcmp, 1)) (hd2 : decode cc (pc + 1) = .ok (.ifCond .gt off, 3)) (ht : ((pc + 1 : Nat) : Int) + off = (tgt : Int)) (h1 : a < 2 ^ 63) (h2 : b < 2 ^ 63)
    (kt : b < a → W p l e R s m args below meth c H locs cells slots Q (F0 m tgt ls rest)) (kf : a ≤ b → W p l e R s m args below meth c H locs cells slots Q (F0 m (pc + 4) ls rest)) : W p l e R s m args below meth c H locs cells slots Q (F0 m pc ls (.long (lN b) :: .long (lN a) :: rest)) :=
  nv_lcmp_gt hx hb hd1 hd2 ht (fun h => kt ((pk_lLT h2 h1).mp h)) (fun h => kf (Nat.le_of_not_lt (fun z => h ((pk_lLT h2 h1).mpr z))))
theorem RO.ofF {l : Launch} {y : MethodName} {bytes : ByteArray} {maxL : Nat} {ret : Option FieldType} {f n : Nat} {av : List Value} {D : va_G} {cy : Nat → ClassId} {ws : va_W} {r : Value} {lv0 : List (Nat × Value)} (hy : plainFor y = true) (h0 : lv_args 0 av = lv0) (hn : (lg_sl av).length ≤ maxL)
    (body : ∀ (p : Program) (e : Env) (s : State) (m : MethodId) (args : Array Value) (below : List Frame) (meth : Method) (c : Code) (ls : Array Slot), CallFix p m c bytes maxL s args (Cond.code y bytes maxL ret :: lw_g) y.cls → meth.sig.returnType = ret → meth.locks = false → va_P D vwCl ws s.heap → va_K D vwCl (TYS cy) s → lv_has ls maxL lv0 → W p l e (rmo f n) s m args below meth c s.heap [] 0 0 (MQ below (k2_QcV r) args s 0 0 (fun _ => False)) (F0 m 0 ls [])) : RO l y bytes maxL ret f n av D cy ws r := by
  refine va_MetF (cc := bytes) (maxL := maxL) (ret := ret) hy rfl ?_
  intro p e s m args below meth c s₁ B hml hv
  obtain ⟨rfl, hP, hK⟩ := hv
  rw [lg_entry_eq]
  exact body p e s m _ below meth c _ ⟨B.exec, B.bytes, hml, findClass_of_methodNamed B.named, atoms_spec (ws := Cond.code y bytes maxL ret :: lw_g) B.pre⟩ B.returns B.notSynchronized hP hK (h0 ▸ lv_entry av hn)
theorem ROlF {l : Launch} {y : MethodName} {bytes : ByteArray} {maxL : Nat} {f n : Nat} {av : List Value} {D : va_G} {cy : Nat → ClassId} {ws : va_W} {X : Int64} {lv0 : List (Nat × Value)} (hy : plainFor y = true) (h0 : lv_args 0 av = lv0) (hn : (lg_sl av).length ≤ maxL)
    (body : ∀ (p : Program) (e : Env) (s : State) (m : MethodId) (args : Array Value) (below : List Frame) (meth : Method) (c : Code) (ls : Array Slot) (Q : State → Prop), CallFix p m c bytes maxL s args (Cond.code y bytes maxL (some .long) :: lw_g) y.cls → va_P D vwCl ws s.heap → va_K D vwCl (TYS cy) s → (∀ {pc : Nat} {ls : Array Slot} {v : Int64}, v = X → decode bytes pc = .ok (.lreturn, 1) → W p l e (rmo f n) s m args below meth c s.heap [] 0 0 Q (F0 m pc ls [.long v])) → lv_has ls maxL lv0 → W p l e (rmo f n) s m args below meth c s.heap [] 0 0 Q (F0 m 0 ls [])) : RO l y bytes maxL (some .long) f n av D cy ws (.long X) :=
  RO.ofF hy h0 hn (fun p e s m args below meth c ls S hr hlk hP hK hl => body p e s m args below meth c ls _ S hP hK (fun hv hd => ro_l S.1 S.2.1 hr hlk hv hd) hl)
theorem dJ9_min_f86c9_0 : decode cJ9_min_f86c9 0 = .ok (.lload_n 0, 1) := by decide +kernel
theorem dJ9_min_f86c9_1 : decode cJ9_min_f86c9 1 = .ok (.lload_n 2, 1) := by decide +kernel
theorem dJ9_min_f86c9_2 : decode cJ9_min_f86c9 2 = .ok (.lcmp, 1) := by decide +kernel
theorem dJ9_min_f86c9_3 : decode cJ9_min_f86c9 3 = .ok (.ifCond .gt 7, 3) := by decide +kernel
theorem dJ9_min_f86c9_6 : decode cJ9_min_f86c9 6 = .ok (.lload_n 0, 1) := by decide +kernel
theorem dJ9_min_f86c9_7 : decode cJ9_min_f86c9 7 = .ok (.goto 4, 3) := by decide +kernel
theorem dJ9_min_f86c9_10 : decode cJ9_min_f86c9 10 = .ok (.lload_n 2, 1) := by decide +kernel
theorem dJ9_min_f86c9_11 : decode cJ9_min_f86c9 11 = .ok (.lreturn, 1) := by decide +kernel
theorem yv_J9_min_f86c9 : YS yJ9_min_f86c9 cJ9_min_f86c9 4 (some .long) 2 := ⟨kw4_102, kw1_3, kw4_103, by decide +kernel⟩
set_option maxHeartbeats 4000000 in
set_option maxRecDepth 100000 in
theorem c_J9_min_f86c9 {l : Launch} {D : va_G} {cy : Nat → ClassId} {ws : va_W} {a b : Nat} (ha : a < 2 ^ 62) (hb2 : b < 2 ^ 62) : RO l yJ9_min_f86c9 cJ9_min_f86c9 4 (some .long) 0 0 [.long (lN (a)), .long (lN (b))] D cy ws (.long (lN (min a b))) := by
  refine ROlF (by decide +kernel) (lv0 := [(0, .long (lN (a))), (2, .long (lN (b)))]) rfl (Nat.le_of_ble_eq_true rfl) ?_
  intro p e s m args below meth c ls Q S hP hK hend hl
  have hx := S.1
  have hb := S.2.1
  have hown : s.vm.findClass RJ9 = some m.cls := S.2.2.2.1
  have ht : ∀ w ∈ lw_g, w.before args s = true := fun w h => S.2.2.2.2 w (List.mem_cons_of_mem _ h)
  refine lv_lload_n hx hb dJ9_min_f86c9_0 rfl (lv_at hl 0 rfl) ?_
  refine lv_lload_n hx hb dJ9_min_f86c9_1 rfl (lv_at hl 1 rfl) ?_
  refine nv_Lcmp_gt (tgt := 10) hx hb dJ9_min_f86c9_2 dJ9_min_f86c9_3 (by decide) (by omega) (by omega) (fun h2 => ?_) (fun h2 => ?_)
  · skip
    refine lv_lload_n hx hb dJ9_min_f86c9_10 rfl (lv_at hl 1 rfl) ?_
    exact hend ((congrArg lN (by omega))) dJ9_min_f86c9_11
  refine lv_lload_n hx hb dJ9_min_f86c9_6 rfl (lv_at hl 0 rfl) ?_
  refine lv_goto (tgt := 11) hx hb dJ9_min_f86c9_7 (by decide) ?_
  exact hend ((congrArg lN (by omega))) dJ9_min_f86c9_11
theorem dX11_count_0 : decode cX11_count 0 = .ok (.iload_n 1, 1) := by decide +kernel
theorem dX11_count_1 : decode cX11_count 1 = .ok (.tableswitch 156 0 16 #[83, 91, 99, 107, 115, 123, 131, 146, 156, 156, 156, 156, 156, 156, 156, 156, 151], 83) := by decide +kernel
theorem dX11_count_84 : decode cX11_count 84 = .ok (.aload_n 0, 1) := by decide +kernel
theorem dX11_count_85 : decode cX11_count 85 = .ok (.getfield 38, 3) := by decide +kernel
theorem dX11_count_88 : decode cX11_count 88 = .ok (.invokevirtual 187, 3) := by decide +kernel
theorem dX11_count_91 : decode cX11_count 91 = .ok (.ireturn, 1) := by decide +kernel
theorem dX11_count_92 : decode cX11_count 92 = .ok (.aload_n 0, 1) := by decide +kernel
theorem dX11_count_93 : decode cX11_count 93 = .ok (.getfield 38, 3) := by decide +kernel
theorem dX11_count_96 : decode cX11_count 96 = .ok (.invokevirtual 190, 3) := by decide +kernel
theorem dX11_count_99 : decode cX11_count 99 = .ok (.ireturn, 1) := by decide +kernel
theorem dX11_count_100 : decode cX11_count 100 = .ok (.aload_n 0, 1) := by decide +kernel
theorem dX11_count_101 : decode cX11_count 101 = .ok (.getfield 31, 3) := by decide +kernel
theorem dX11_count_104 : decode cX11_count 104 = .ok (.invokevirtual 193, 3) := by decide +kernel
theorem dX11_count_107 : decode cX11_count 107 = .ok (.ireturn, 1) := by decide +kernel
theorem dX11_count_108 : decode cX11_count 108 = .ok (.aload_n 0, 1) := by decide +kernel
theorem dX11_count_109 : decode cX11_count 109 = .ok (.getfield 24, 3) := by decide +kernel
theorem dX11_count_112 : decode cX11_count 112 = .ok (.invokevirtual 196, 3) := by decide +kernel
theorem dX11_count_115 : decode cX11_count 115 = .ok (.ireturn, 1) := by decide +kernel
theorem dX11_count_116 : decode cX11_count 116 = .ok (.aload_n 0, 1) := by decide +kernel
theorem dX11_count_117 : decode cX11_count 117 = .ok (.getfield 14, 3) := by decide +kernel
theorem dX11_count_120 : decode cX11_count 120 = .ok (.invokevirtual 75, 3) := by decide +kernel
theorem dX11_count_123 : decode cX11_count 123 = .ok (.ireturn, 1) := by decide +kernel
theorem dX11_count_124 : decode cX11_count 124 = .ok (.aload_n 0, 1) := by decide +kernel
theorem dX11_count_125 : decode cX11_count 125 = .ok (.getfield 18, 3) := by decide +kernel
theorem dX11_count_128 : decode cX11_count 128 = .ok (.invokevirtual 75, 3) := by decide +kernel
theorem dX11_count_131 : decode cX11_count 131 = .ok (.ireturn, 1) := by decide +kernel
theorem dX11_count_132 : decode cX11_count 132 = .ok (.aload_n 0, 1) := by decide +kernel
theorem dX11_count_133 : decode cX11_count 133 = .ok (.getfield 38, 3) := by decide +kernel
theorem dX11_count_136 : decode cX11_count 136 = .ok (.invokevirtual 183, 3) := by decide +kernel
theorem dX11_count_139 : decode cX11_count 139 = .ok (.ldc2_w 201, 3) := by decide +kernel
theorem dX11_count_142 : decode cX11_count 142 = .ok (.invokestatic 203, 3) := by decide +kernel
theorem dX11_count_145 : decode cX11_count 145 = .ok (.l2i, 1) := by decide +kernel
theorem dX11_count_146 : decode cX11_count 146 = .ok (.ireturn, 1) := by decide +kernel
theorem dX11_count_147 : decode cX11_count 147 = .ok (.aload_n 0, 1) := by decide +kernel
theorem dX11_count_148 : decode cX11_count 148 = .ok (.getfield 46, 3) := by decide +kernel
theorem dX11_count_151 : decode cX11_count 151 = .ok (.ireturn, 1) := by decide +kernel
theorem dX11_count_152 : decode cX11_count 152 = .ok (.aload_n 0, 1) := by decide +kernel
theorem dX11_count_153 : decode cX11_count 153 = .ok (.getfield 50, 3) := by decide +kernel
theorem dX11_count_156 : decode cX11_count 156 = .ok (.ireturn, 1) := by decide +kernel
theorem dX11_count_157 : decode cX11_count 157 = .ok (.iload_n 1, 1) := by decide +kernel
theorem dX11_count_158 : decode cX11_count 158 = .ok (.bipush 10, 2) := by decide +kernel
theorem dX11_count_160 : decode cX11_count 160 = .ok (.if_icmp .lt 21, 3) := by decide +kernel
theorem dX11_count_163 : decode cX11_count 163 = .ok (.iload_n 1, 1) := by decide +kernel
theorem dX11_count_164 : decode cX11_count 164 = .ok (.bipush 15, 2) := by decide +kernel
theorem dX11_count_166 : decode cX11_count 166 = .ok (.if_icmp .gt 15, 3) := by decide +kernel
theorem dX11_count_169 : decode cX11_count 169 = .ok (.aload_n 0, 1) := by decide +kernel
theorem dX11_count_170 : decode cX11_count 170 = .ok (.getfield 42, 3) := by decide +kernel
theorem dX11_count_173 : decode cX11_count 173 = .ok (.iload_n 1, 1) := by decide +kernel
theorem dX11_count_174 : decode cX11_count 174 = .ok (.bipush 10, 2) := by decide +kernel
theorem dX11_count_176 : decode cX11_count 176 = .ok (.isub, 1) := by decide +kernel
theorem dX11_count_177 : decode cX11_count 177 = .ok (.iaload, 1) := by decide +kernel
theorem dX11_count_178 : decode cX11_count 178 = .ok (.goto 4, 3) := by decide +kernel
theorem dX11_count_181 : decode cX11_count 181 = .ok (.iconst (-1), 1) := by decide +kernel
theorem dX11_count_182 : decode cX11_count 182 = .ok (.ireturn, 1) := by decide +kernel
theorem yv_X11_count : YV RX11 yX11_count cX11_count 2 (some .int) 1 := ⟨kw4_85, kw4_86, kw1_1, kw4_87, by decide +kernel⟩
set_option maxHeartbeats 4000000 in
set_option maxRecDepth 100000 in
theorem c_X11_count {l : Launch} {D : va_G} {cy : Nat → ClassId} {ad : Nat → Nat} {tl dy : va_W} {eb es tp os bits F G u nb ns T M id : Nat} {mb mz : Int32} {ft fo : Nat → UInt8} {g : Nat → Int32} {dq ba sa pt ih il ip pn op so fa fp st en : Nat → Nat} {e0 : Nat × Nat} (htp : tp ≤ 1600) (hos : os ≤ 1620) (hsi : SI bits F G) (hu4 : u ≤ 4) (hDY : DY cy e0.1 dy eb es nb ns ba sa pt ih il ip pn op so fa fp st en) (hb_pt : ∀ i, pt i < 2 ^ 31) (hb_ih : ∀ i, ih i < 2 ^ 64) (hb_il : ∀ i, il i < 2 ^ 64) (hb_ip : ∀ i, ip i < 2 ^ 31) (hb_pn : ∀ i, pn i < 2 ^ 31) (hb_op : ∀ i, op i < 2 ^ 31) (hb_fa : ∀ i, fa i < 2 ^ 32) (hb_fp : ∀ i, fp i < 2 ^ 31) (hb_st : ∀ i, st i ≤ 7) (hb_en : ∀ i, en i < 2 ^ 62) (hT31 : T < 2 ^ 31) {w : Nat} (hw9 : w < 2 ^ 31) : RO l yX11_count cX11_count 2 (some .int) 2 40 [.ref (ad 0), .int (nI w)] D cy ((cW cy ad eb es mb mz tp os bits F G u nb ns T M id ft fo g dq ++ tl) ++ dy) (.int (tg_cw nb ns u bits tp os T M id dq w)) := by
  refine ROi (by decide) (lv0 := [(0, .ref (ad 0)), (1, .int (nI w))]) rfl (Nat.le_of_ble_eq_true rfl) ?_
  intro p e s m args below meth c ls Q S hP hK hend hl
  have hx := S.1
  have hb := S.2.1
  have hown : s.vm.findClass RX11 = some m.cls := S.2.2.2.1
  have ht : ∀ w ∈ lw_g, w.before args s = true := fun w h => S.2.2.2.2 w (List.mem_cons_of_mem _ h)
  have hP : va_P D vwCl ((cW cy ad eb es mb mz tp os bits F G u nb ns T M id ft fo g dq ++ tl) ++ dy) s.heap := hP
  have hT : ((cW cy ad eb es mb mz tp os bits F G u nb ns T M id ft fo g dq ++ tl) ++ dy)[8]? = some (tE (ad 8) (ad 9) (ad 10) T) := rfl
  have hLb : ((cW cy ad eb es mb mz tp os bits F G u nb ns T M id ft fo g dq ++ tl) ++ dy)[9]? = some (aL (ad 9) mb eb nb) := rfl
  have hLs : ((cW cy ad eb es mb mz tp os bits F G u nb ns T M id ft fo g dq ++ tl) ++ dy)[10]? = some (aL (ad 10) mz es ns) := rfl
  have hB : TB1 cy ((cW cy ad eb es mb mz tp os bits F G u nb ns T M id ft fo g dq ++ tl) ++ dy) e0.1 eb nb ba pt ih il ip pn op := hDY.1.app
  have hS1 : TS1 cy ((cW cy ad eb es mb mz tp os bits F G u nb ns T M id ft fo g dq ++ tl) ++ dy) e0.1 es ns nb ba sa so fa fp st en := hDY.2.1.app
  have hST : STP ((cW cy ad eb es mb mz tp os bits F G u nb ns T M id ft fo g dq ++ tl) ++ dy) (ad 5) bits F G := STP_of (ks := 5) rfl hsi
  have hPL : PLP cy ((cW cy ad eb es mb mz tp os bits F G u nb ns T M id ft fo g dq ++ tl) ++ dy) (ad 6) g u := PLP_of (kp := 6) (kq := 7) rfl rfl hu4
  have hnb := hB.le
  have hns := hS1.le
  refine lv_iload_n hx hb dX11_count_0 rfl (lv_at hl 1 rfl) ?_
  by_cases hs1_0 : w = 0
  · refine lv_tableIn (off := 83) (tgt := 84) hx hb dX11_count_1 (by rw [hs1_0]; decide) (by rw [hs1_0]; decide) (by rw [hs1_0]; decide) (by decide) ?_
    refine lv_aload_n hx hb dX11_count_84 rfl (lv_at hl 0 rfl) ?_
    refine va_get (ci := 8) (C := RX11) (T := TX11) (N := 8) hx hb ht iFX11 hown hK hP 0 rfl rfl 4 (by decide) (ht _ kw1_127) (fun _ h9 => h9) rfl dX11_count_85 ?_
    refine ro_V S (c_X10_bindingCount hT hLb) kw4_88 yv_X10_bindingCount ⟨Nat.le_of_ble_eq_true rfl, Nat.le_of_ble_eq_true rfl⟩ hK hP (va_recv hK hP (ci := 7) (q0 := 8) rfl rfl) rfl hl.1 rfl (Nat.le_of_ble_eq_true rfl) dX11_count_88 ⟨(Nat.zero_le _), (Nat.zero_le _)⟩ ?_
    exact hend ((by first | (exfalso; omega) | (unfold tg_cw; repeat (first | rw [if_pos (by omega)] | rw [if_neg (by omega)])))) dX11_count_91
  by_cases hs1_1 : w = 1
  · refine lv_tableIn (off := 91) (tgt := 92) hx hb dX11_count_1 (by rw [hs1_1]; decide) (by rw [hs1_1]; decide) (by rw [hs1_1]; decide) (by decide) ?_
    refine lv_aload_n hx hb dX11_count_92 rfl (lv_at hl 0 rfl) ?_
    refine va_get (ci := 8) (C := RX11) (T := TX11) (N := 8) hx hb ht iFX11 hown hK hP 0 rfl rfl 4 (by decide) (ht _ kw1_127) (fun _ h9 => h9) rfl dX11_count_93 ?_
    refine ro_V S (c_X10_sessionCount hT hLs) kw4_92 yv_X10_sessionCount ⟨Nat.le_of_ble_eq_true rfl, Nat.le_of_ble_eq_true rfl⟩ hK hP (va_recv hK hP (ci := 7) (q0 := 8) rfl rfl) rfl hl.1 rfl (Nat.le_of_ble_eq_true rfl) dX11_count_96 ⟨(Nat.zero_le _), (Nat.zero_le _)⟩ ?_
    exact hend ((by first | (exfalso; omega) | (unfold tg_cw; repeat (first | rw [if_pos (by omega)] | rw [if_neg (by omega)])))) dX11_count_99
  by_cases hs1_2 : w = 2
  · refine lv_tableIn (off := 99) (tgt := 100) hx hb dX11_count_1 (by rw [hs1_2]; decide) (by rw [hs1_2]; decide) (by rw [hs1_2]; decide) (by decide) ?_
    refine lv_aload_n hx hb dX11_count_100 rfl (lv_at hl 0 rfl) ?_
    refine va_get (ci := 8) (C := RX11) (T := TX11) (N := 8) hx hb ht iFX11 hown hK hP 0 rfl rfl 3 (by decide) (ht _ kw1_126) (fun _ h9 => h9) rfl dX11_count_101 ?_
    refine ro_V S (c_X5_size hPL) kw2_148 yv_X5_size ⟨Nat.le_of_ble_eq_true rfl, Nat.le_of_ble_eq_true rfl⟩ hK hP (va_recv hK hP (ci := 4) (q0 := 6) rfl rfl) rfl hl.1 rfl (Nat.le_of_ble_eq_true rfl) dX11_count_104 ⟨(Nat.zero_le _), (Nat.zero_le _)⟩ ?_
    exact hend ((by first | (exfalso; omega) | (unfold tg_cw; repeat (first | rw [if_pos (by omega)] | rw [if_neg (by omega)])))) dX11_count_107
  by_cases hs1_3 : w = 3
  · refine lv_tableIn (off := 107) (tgt := 108) hx hb dX11_count_1 (by rw [hs1_3]; decide) (by rw [hs1_3]; decide) (by rw [hs1_3]; decide) (by decide) ?_
    refine lv_aload_n hx hb dX11_count_108 rfl (lv_at hl 0 rfl) ?_
    refine va_get (ci := 8) (C := RX11) (T := TX11) (N := 8) hx hb ht iFX11 hown hK hP 0 rfl rfl 2 (by decide) (ht _ kw1_125) (fun _ h9 => h9) rfl dX11_count_109 ?_
    refine ro_V S (c_X8_bits hST) kw4_96 yv_X8_bits ⟨Nat.le_of_ble_eq_true rfl, Nat.le_of_ble_eq_true rfl⟩ hK hP (va_recv hK hP (ci := 6) (q0 := 5) rfl rfl) rfl hl.1 rfl (Nat.le_of_ble_eq_true rfl) dX11_count_112 ⟨(Nat.zero_le _), (Nat.zero_le _)⟩ ?_
    exact hend ((by first | (exfalso; omega) | (unfold tg_cw; repeat (first | rw [if_pos (by omega)] | rw [if_neg (by omega)])))) dX11_count_115
  by_cases hs1_4 : w = 4
  · refine lv_tableIn (off := 115) (tgt := 116) hx hb dX11_count_1 (by rw [hs1_4]; decide) (by rw [hs1_4]; decide) (by rw [hs1_4]; decide) (by decide) ?_
    refine lv_aload_n hx hb dX11_count_116 rfl (lv_at hl 0 rfl) ?_
    refine va_get (ci := 8) (C := RX11) (T := TX11) (N := 8) hx hb ht iFX11 hown hK hP 0 rfl rfl 0 (by decide) (ht _ kw1_123) (fun _ h9 => h9) rfl dX11_count_117 ?_
    refine ro_V S (c_X1_length (PK_of (ws := (cW cy ad eb es mb mz tp os bits F G u nb ns T M id ft fo g dq ++ tl) ++ dy) (kb := 1) (ka := 2) (N := 1600) rfl rfl (by omega) (by omega))) kw1_220 yv_X1_length ⟨Nat.le_of_ble_eq_true rfl, Nat.le_of_ble_eq_true rfl⟩ hK hP (va_recv hK hP (ci := 2) (q0 := 1) rfl rfl) rfl hl.1 rfl (Nat.le_of_ble_eq_true rfl) dX11_count_120 ⟨(Nat.zero_le _), (Nat.zero_le _)⟩ ?_
    exact hend ((by first | (exfalso; omega) | (unfold tg_cw; repeat (first | rw [if_pos (by omega)] | rw [if_neg (by omega)])))) dX11_count_123
  by_cases hs1_5 : w = 5
  · refine lv_tableIn (off := 123) (tgt := 124) hx hb dX11_count_1 (by rw [hs1_5]; decide) (by rw [hs1_5]; decide) (by rw [hs1_5]; decide) (by decide) ?_
    refine lv_aload_n hx hb dX11_count_124 rfl (lv_at hl 0 rfl) ?_
    refine va_get (ci := 8) (C := RX11) (T := TX11) (N := 8) hx hb ht iFX11 hown hK hP 0 rfl rfl 1 (by decide) (ht _ kw1_124) (fun _ h9 => h9) rfl dX11_count_125 ?_
    refine ro_V S (c_X1_length (PK_of (ws := (cW cy ad eb es mb mz tp os bits F G u nb ns T M id ft fo g dq ++ tl) ++ dy) (kb := 3) (ka := 4) (N := 1620) rfl rfl (by omega) (by omega))) kw1_220 yv_X1_length ⟨Nat.le_of_ble_eq_true rfl, Nat.le_of_ble_eq_true rfl⟩ hK hP (va_recv hK hP (ci := 2) (q0 := 3) rfl rfl) rfl hl.1 rfl (Nat.le_of_ble_eq_true rfl) dX11_count_128 ⟨(Nat.zero_le _), (Nat.zero_le _)⟩ ?_
    exact hend ((by first | (exfalso; omega) | (unfold tg_cw; repeat (first | rw [if_pos (by omega)] | rw [if_neg (by omega)])))) dX11_count_131
  by_cases hs1_6 : w = 6
  · refine lv_tableIn (off := 131) (tgt := 132) hx hb dX11_count_1 (by rw [hs1_6]; decide) (by rw [hs1_6]; decide) (by rw [hs1_6]; decide) (by decide) ?_
    refine lv_aload_n hx hb dX11_count_132 rfl (lv_at hl 0 rfl) ?_
    refine va_get (ci := 8) (C := RX11) (T := TX11) (N := 8) hx hb ht iFX11 hown hK hP 0 rfl rfl 4 (by decide) (ht _ kw1_127) (fun _ h9 => h9) rfl dX11_count_133 ?_
    refine ro_V S (c_X10_time hT) kw4_80 yv_X10_time ⟨Nat.le_of_ble_eq_true rfl, Nat.le_of_ble_eq_true rfl⟩ hK hP (va_recv hK hP (ci := 7) (q0 := 8) rfl rfl) rfl hl.1 rfl (Nat.le_of_ble_eq_true rfl) dX11_count_136 ⟨(Nat.zero_le _), (Nat.zero_le _)⟩ ?_
    refine nv_ldc2 (k := 2147483647) hx hb hown (ht _ kw4_100) (by decide) dX11_count_139 ?_
    refine ro_S S (c_J9_min_f86c9 (a := T) (b := 2147483647) (by omega) (by omega)) kw4_101 yv_J9_min_f86c9 ⟨Nat.le_of_ble_eq_true rfl, Nat.le_of_ble_eq_true rfl⟩ hK hP rfl hl.1 rfl (Nat.le_of_ble_eq_true rfl) dX11_count_142 ⟨(Nat.zero_le _), (Nat.zero_le _)⟩ ?_
    refine nv_l2i hx hb dX11_count_145 ?_
    exact hend ((by rw [Nat.min_eq_left (by omega)]; unfold tg_cw; repeat (first | rw [if_pos (by omega)] | rw [if_neg (by omega)]))) dX11_count_146
  by_cases hs1_7 : w = 7
  · refine lv_tableIn (off := 146) (tgt := 147) hx hb dX11_count_1 (by rw [hs1_7]; decide) (by rw [hs1_7]; decide) (by rw [hs1_7]; decide) (by decide) ?_
    refine lv_aload_n hx hb dX11_count_147 rfl (lv_at hl 0 rfl) ?_
    refine va_get (ci := 8) (C := RX11) (T := TX11) (N := 8) hx hb ht iFX11 hown hK hP 0 rfl rfl 6 (by decide) (ht _ kw1_129) (fun _ h9 => h9) rfl dX11_count_148 ?_
    exact hend ((by first | (exfalso; omega) | (unfold tg_cw; repeat (first | rw [if_pos (by omega)] | rw [if_neg (by omega)])))) dX11_count_151
  by_cases hs1_8 : w = 8
  · refine lv_tableIn (off := 156) (tgt := 157) hx hb dX11_count_1 (by rw [hs1_8]; decide) (by rw [hs1_8]; decide) (by rw [hs1_8]; decide) (by decide) ?_
    refine lv_iload_n hx hb dX11_count_157 rfl (lv_at hl 1 rfl) ?_
    refine nv_bipush (k := 10) hx hb dX11_count_158 (by decide) ?_
    refine nv_icmp_lt (tgt := 181) hx hb dX11_count_160 (by decide) (by omega) (by omega) (fun h160 => ?_) (fun h160 => ?_)
    · skip
      refine lv_iconst (v := -1) hx hb dX11_count_181 (by decide) ?_
      exact hend ((by first | (exfalso; omega) | (unfold tg_cw; repeat (first | rw [if_pos (by omega)] | rw [if_neg (by omega)])))) dX11_count_182
    refine lv_iload_n hx hb dX11_count_163 rfl (lv_at hl 1 rfl) ?_
    refine nv_bipush (k := 15) hx hb dX11_count_164 (by decide) ?_
    refine nv_icmp_gt (tgt := 181) hx hb dX11_count_166 (by decide) (by omega) (by omega) (fun h166 => ?_) (fun h166 => ?_)
    · skip
      refine lv_iconst (v := -1) hx hb dX11_count_181 (by decide) ?_
      exact hend ((by first | (exfalso; omega) | (unfold tg_cw; repeat (first | rw [if_pos (by omega)] | rw [if_neg (by omega)])))) dX11_count_182
    refine lv_aload_n hx hb dX11_count_169 rfl (lv_at hl 0 rfl) ?_
    refine va_get (ci := 8) (C := RX11) (T := TX11) (N := 8) hx hb ht iFX11 hown hK hP 0 rfl rfl 5 (by decide) (ht _ kw1_128) (fun _ h9 => h9) rfl dX11_count_170 ?_
    refine lv_iload_n hx hb dX11_count_173 rfl (lv_at hl 1 rfl) ?_
    refine nv_bipush (k := 10) hx hb dX11_count_174 (by decide) ?_
    refine nv_isub hx hb (by omega) dX11_count_176 ?_
    refine nv_iald hx hb hK hP 11 rfl (by omega) (by omega) dX11_count_177 ?_
    refine lv_goto (tgt := 182) hx hb dX11_count_178 (by decide) ?_
    exact hend ((by first | (exfalso; omega) | (unfold tg_cw; repeat (first | rw [if_pos (by omega)] | rw [if_neg (by omega)])))) dX11_count_182
  by_cases hs1_9 : w = 9
  · refine lv_tableIn (off := 156) (tgt := 157) hx hb dX11_count_1 (by rw [hs1_9]; decide) (by rw [hs1_9]; decide) (by rw [hs1_9]; decide) (by decide) ?_
    refine lv_iload_n hx hb dX11_count_157 rfl (lv_at hl 1 rfl) ?_
    refine nv_bipush (k := 10) hx hb dX11_count_158 (by decide) ?_
    refine nv_icmp_lt (tgt := 181) hx hb dX11_count_160 (by decide) (by omega) (by omega) (fun h160 => ?_) (fun h160 => ?_)
    · skip
      refine lv_iconst (v := -1) hx hb dX11_count_181 (by decide) ?_
      exact hend ((by first | (exfalso; omega) | (unfold tg_cw; repeat (first | rw [if_pos (by omega)] | rw [if_neg (by omega)])))) dX11_count_182
    refine lv_iload_n hx hb dX11_count_163 rfl (lv_at hl 1 rfl) ?_
    refine nv_bipush (k := 15) hx hb dX11_count_164 (by decide) ?_
    refine nv_icmp_gt (tgt := 181) hx hb dX11_count_166 (by decide) (by omega) (by omega) (fun h166 => ?_) (fun h166 => ?_)
    · skip
      refine lv_iconst (v := -1) hx hb dX11_count_181 (by decide) ?_
      exact hend ((by first | (exfalso; omega) | (unfold tg_cw; repeat (first | rw [if_pos (by omega)] | rw [if_neg (by omega)])))) dX11_count_182
    refine lv_aload_n hx hb dX11_count_169 rfl (lv_at hl 0 rfl) ?_
    refine va_get (ci := 8) (C := RX11) (T := TX11) (N := 8) hx hb ht iFX11 hown hK hP 0 rfl rfl 5 (by decide) (ht _ kw1_128) (fun _ h9 => h9) rfl dX11_count_170 ?_
    refine lv_iload_n hx hb dX11_count_173 rfl (lv_at hl 1 rfl) ?_
    refine nv_bipush (k := 10) hx hb dX11_count_174 (by decide) ?_
    refine nv_isub hx hb (by omega) dX11_count_176 ?_
    refine nv_iald hx hb hK hP 11 rfl (by omega) (by omega) dX11_count_177 ?_
    refine lv_goto (tgt := 182) hx hb dX11_count_178 (by decide) ?_
    exact hend ((by first | (exfalso; omega) | (unfold tg_cw; repeat (first | rw [if_pos (by omega)] | rw [if_neg (by omega)])))) dX11_count_182
  by_cases hs1_10 : w = 10
  · refine lv_tableIn (off := 156) (tgt := 157) hx hb dX11_count_1 (by rw [hs1_10]; decide) (by rw [hs1_10]; decide) (by rw [hs1_10]; decide) (by decide) ?_
    refine lv_iload_n hx hb dX11_count_157 rfl (lv_at hl 1 rfl) ?_
    refine nv_bipush (k := 10) hx hb dX11_count_158 (by decide) ?_
    refine nv_icmp_lt (tgt := 181) hx hb dX11_count_160 (by decide) (by omega) (by omega) (fun h160 => ?_) (fun h160 => ?_)
    · skip
      refine lv_iconst (v := -1) hx hb dX11_count_181 (by decide) ?_
      exact hend ((by first | (exfalso; omega) | (unfold tg_cw; repeat (first | rw [if_pos (by omega)] | rw [if_neg (by omega)])))) dX11_count_182
    refine lv_iload_n hx hb dX11_count_163 rfl (lv_at hl 1 rfl) ?_
    refine nv_bipush (k := 15) hx hb dX11_count_164 (by decide) ?_
    refine nv_icmp_gt (tgt := 181) hx hb dX11_count_166 (by decide) (by omega) (by omega) (fun h166 => ?_) (fun h166 => ?_)
    · skip
      refine lv_iconst (v := -1) hx hb dX11_count_181 (by decide) ?_
      exact hend ((by first | (exfalso; omega) | (unfold tg_cw; repeat (first | rw [if_pos (by omega)] | rw [if_neg (by omega)])))) dX11_count_182
    refine lv_aload_n hx hb dX11_count_169 rfl (lv_at hl 0 rfl) ?_
    refine va_get (ci := 8) (C := RX11) (T := TX11) (N := 8) hx hb ht iFX11 hown hK hP 0 rfl rfl 5 (by decide) (ht _ kw1_128) (fun _ h9 => h9) rfl dX11_count_170 ?_
    refine lv_iload_n hx hb dX11_count_173 rfl (lv_at hl 1 rfl) ?_
    refine nv_bipush (k := 10) hx hb dX11_count_174 (by decide) ?_
    refine nv_isub hx hb (by omega) dX11_count_176 ?_
    refine nv_iald hx hb hK hP 11 rfl (by omega) (by omega) dX11_count_177 ?_
    refine lv_goto (tgt := 182) hx hb dX11_count_178 (by decide) ?_
    exact hend ((by first | (exfalso; omega) | (unfold tg_cw; repeat (first | rw [if_pos (by omega)] | rw [if_neg (by omega)])))) dX11_count_182
  by_cases hs1_11 : w = 11
  · refine lv_tableIn (off := 156) (tgt := 157) hx hb dX11_count_1 (by rw [hs1_11]; decide) (by rw [hs1_11]; decide) (by rw [hs1_11]; decide) (by decide) ?_
    refine lv_iload_n hx hb dX11_count_157 rfl (lv_at hl 1 rfl) ?_
    refine nv_bipush (k := 10) hx hb dX11_count_158 (by decide) ?_
    refine nv_icmp_lt (tgt := 181) hx hb dX11_count_160 (by decide) (by omega) (by omega) (fun h160 => ?_) (fun h160 => ?_)
    · skip
      refine lv_iconst (v := -1) hx hb dX11_count_181 (by decide) ?_
      exact hend ((by first | (exfalso; omega) | (unfold tg_cw; repeat (first | rw [if_pos (by omega)] | rw [if_neg (by omega)])))) dX11_count_182
    refine lv_iload_n hx hb dX11_count_163 rfl (lv_at hl 1 rfl) ?_
    refine nv_bipush (k := 15) hx hb dX11_count_164 (by decide) ?_
    refine nv_icmp_gt (tgt := 181) hx hb dX11_count_166 (by decide) (by omega) (by omega) (fun h166 => ?_) (fun h166 => ?_)
    · skip
      refine lv_iconst (v := -1) hx hb dX11_count_181 (by decide) ?_
      exact hend ((by first | (exfalso; omega) | (unfold tg_cw; repeat (first | rw [if_pos (by omega)] | rw [if_neg (by omega)])))) dX11_count_182
    refine lv_aload_n hx hb dX11_count_169 rfl (lv_at hl 0 rfl) ?_
    refine va_get (ci := 8) (C := RX11) (T := TX11) (N := 8) hx hb ht iFX11 hown hK hP 0 rfl rfl 5 (by decide) (ht _ kw1_128) (fun _ h9 => h9) rfl dX11_count_170 ?_
    refine lv_iload_n hx hb dX11_count_173 rfl (lv_at hl 1 rfl) ?_
    refine nv_bipush (k := 10) hx hb dX11_count_174 (by decide) ?_
    refine nv_isub hx hb (by omega) dX11_count_176 ?_
    refine nv_iald hx hb hK hP 11 rfl (by omega) (by omega) dX11_count_177 ?_
    refine lv_goto (tgt := 182) hx hb dX11_count_178 (by decide) ?_
    exact hend ((by first | (exfalso; omega) | (unfold tg_cw; repeat (first | rw [if_pos (by omega)] | rw [if_neg (by omega)])))) dX11_count_182
  by_cases hs1_12 : w = 12
  · refine lv_tableIn (off := 156) (tgt := 157) hx hb dX11_count_1 (by rw [hs1_12]; decide) (by rw [hs1_12]; decide) (by rw [hs1_12]; decide) (by decide) ?_
    refine lv_iload_n hx hb dX11_count_157 rfl (lv_at hl 1 rfl) ?_
    refine nv_bipush (k := 10) hx hb dX11_count_158 (by decide) ?_
    refine nv_icmp_lt (tgt := 181) hx hb dX11_count_160 (by decide) (by omega) (by omega) (fun h160 => ?_) (fun h160 => ?_)
    · skip
      refine lv_iconst (v := -1) hx hb dX11_count_181 (by decide) ?_
      exact hend ((by first | (exfalso; omega) | (unfold tg_cw; repeat (first | rw [if_pos (by omega)] | rw [if_neg (by omega)])))) dX11_count_182
    refine lv_iload_n hx hb dX11_count_163 rfl (lv_at hl 1 rfl) ?_
    refine nv_bipush (k := 15) hx hb dX11_count_164 (by decide) ?_
    refine nv_icmp_gt (tgt := 181) hx hb dX11_count_166 (by decide) (by omega) (by omega) (fun h166 => ?_) (fun h166 => ?_)
    · skip
      refine lv_iconst (v := -1) hx hb dX11_count_181 (by decide) ?_
      exact hend ((by first | (exfalso; omega) | (unfold tg_cw; repeat (first | rw [if_pos (by omega)] | rw [if_neg (by omega)])))) dX11_count_182
    refine lv_aload_n hx hb dX11_count_169 rfl (lv_at hl 0 rfl) ?_
    refine va_get (ci := 8) (C := RX11) (T := TX11) (N := 8) hx hb ht iFX11 hown hK hP 0 rfl rfl 5 (by decide) (ht _ kw1_128) (fun _ h9 => h9) rfl dX11_count_170 ?_
    refine lv_iload_n hx hb dX11_count_173 rfl (lv_at hl 1 rfl) ?_
    refine nv_bipush (k := 10) hx hb dX11_count_174 (by decide) ?_
    refine nv_isub hx hb (by omega) dX11_count_176 ?_
    refine nv_iald hx hb hK hP 11 rfl (by omega) (by omega) dX11_count_177 ?_
    refine lv_goto (tgt := 182) hx hb dX11_count_178 (by decide) ?_
    exact hend ((by first | (exfalso; omega) | (unfold tg_cw; repeat (first | rw [if_pos (by omega)] | rw [if_neg (by omega)])))) dX11_count_182
  by_cases hs1_13 : w = 13
  · refine lv_tableIn (off := 156) (tgt := 157) hx hb dX11_count_1 (by rw [hs1_13]; decide) (by rw [hs1_13]; decide) (by rw [hs1_13]; decide) (by decide) ?_
    refine lv_iload_n hx hb dX11_count_157 rfl (lv_at hl 1 rfl) ?_
    refine nv_bipush (k := 10) hx hb dX11_count_158 (by decide) ?_
    refine nv_icmp_lt (tgt := 181) hx hb dX11_count_160 (by decide) (by omega) (by omega) (fun h160 => ?_) (fun h160 => ?_)
    · skip
      refine lv_iconst (v := -1) hx hb dX11_count_181 (by decide) ?_
      exact hend ((by first | (exfalso; omega) | (unfold tg_cw; repeat (first | rw [if_pos (by omega)] | rw [if_neg (by omega)])))) dX11_count_182
    refine lv_iload_n hx hb dX11_count_163 rfl (lv_at hl 1 rfl) ?_
    refine nv_bipush (k := 15) hx hb dX11_count_164 (by decide) ?_
    refine nv_icmp_gt (tgt := 181) hx hb dX11_count_166 (by decide) (by omega) (by omega) (fun h166 => ?_) (fun h166 => ?_)
    · skip
      refine lv_iconst (v := -1) hx hb dX11_count_181 (by decide) ?_
      exact hend ((by first | (exfalso; omega) | (unfold tg_cw; repeat (first | rw [if_pos (by omega)] | rw [if_neg (by omega)])))) dX11_count_182
    refine lv_aload_n hx hb dX11_count_169 rfl (lv_at hl 0 rfl) ?_
    refine va_get (ci := 8) (C := RX11) (T := TX11) (N := 8) hx hb ht iFX11 hown hK hP 0 rfl rfl 5 (by decide) (ht _ kw1_128) (fun _ h9 => h9) rfl dX11_count_170 ?_
    refine lv_iload_n hx hb dX11_count_173 rfl (lv_at hl 1 rfl) ?_
    refine nv_bipush (k := 10) hx hb dX11_count_174 (by decide) ?_
    refine nv_isub hx hb (by omega) dX11_count_176 ?_
    refine nv_iald hx hb hK hP 11 rfl (by omega) (by omega) dX11_count_177 ?_
    refine lv_goto (tgt := 182) hx hb dX11_count_178 (by decide) ?_
    exact hend ((by first | (exfalso; omega) | (unfold tg_cw; repeat (first | rw [if_pos (by omega)] | rw [if_neg (by omega)])))) dX11_count_182
  by_cases hs1_14 : w = 14
  · refine lv_tableIn (off := 156) (tgt := 157) hx hb dX11_count_1 (by rw [hs1_14]; decide) (by rw [hs1_14]; decide) (by rw [hs1_14]; decide) (by decide) ?_
    refine lv_iload_n hx hb dX11_count_157 rfl (lv_at hl 1 rfl) ?_
    refine nv_bipush (k := 10) hx hb dX11_count_158 (by decide) ?_
    refine nv_icmp_lt (tgt := 181) hx hb dX11_count_160 (by decide) (by omega) (by omega) (fun h160 => ?_) (fun h160 => ?_)
    · skip
      refine lv_iconst (v := -1) hx hb dX11_count_181 (by decide) ?_
      exact hend ((by first | (exfalso; omega) | (unfold tg_cw; repeat (first | rw [if_pos (by omega)] | rw [if_neg (by omega)])))) dX11_count_182
    refine lv_iload_n hx hb dX11_count_163 rfl (lv_at hl 1 rfl) ?_
    refine nv_bipush (k := 15) hx hb dX11_count_164 (by decide) ?_
    refine nv_icmp_gt (tgt := 181) hx hb dX11_count_166 (by decide) (by omega) (by omega) (fun h166 => ?_) (fun h166 => ?_)
    · skip
      refine lv_iconst (v := -1) hx hb dX11_count_181 (by decide) ?_
      exact hend ((by first | (exfalso; omega) | (unfold tg_cw; repeat (first | rw [if_pos (by omega)] | rw [if_neg (by omega)])))) dX11_count_182
    refine lv_aload_n hx hb dX11_count_169 rfl (lv_at hl 0 rfl) ?_
    refine va_get (ci := 8) (C := RX11) (T := TX11) (N := 8) hx hb ht iFX11 hown hK hP 0 rfl rfl 5 (by decide) (ht _ kw1_128) (fun _ h9 => h9) rfl dX11_count_170 ?_
    refine lv_iload_n hx hb dX11_count_173 rfl (lv_at hl 1 rfl) ?_
    refine nv_bipush (k := 10) hx hb dX11_count_174 (by decide) ?_
    refine nv_isub hx hb (by omega) dX11_count_176 ?_
    refine nv_iald hx hb hK hP 11 rfl (by omega) (by omega) dX11_count_177 ?_
    refine lv_goto (tgt := 182) hx hb dX11_count_178 (by decide) ?_
    exact hend ((by first | (exfalso; omega) | (unfold tg_cw; repeat (first | rw [if_pos (by omega)] | rw [if_neg (by omega)])))) dX11_count_182
  by_cases hs1_15 : w = 15
  · refine lv_tableIn (off := 156) (tgt := 157) hx hb dX11_count_1 (by rw [hs1_15]; decide) (by rw [hs1_15]; decide) (by rw [hs1_15]; decide) (by decide) ?_
    refine lv_iload_n hx hb dX11_count_157 rfl (lv_at hl 1 rfl) ?_
    refine nv_bipush (k := 10) hx hb dX11_count_158 (by decide) ?_
    refine nv_icmp_lt (tgt := 181) hx hb dX11_count_160 (by decide) (by omega) (by omega) (fun h160 => ?_) (fun h160 => ?_)
    · skip
      refine lv_iconst (v := -1) hx hb dX11_count_181 (by decide) ?_
      exact hend ((by first | (exfalso; omega) | (unfold tg_cw; repeat (first | rw [if_pos (by omega)] | rw [if_neg (by omega)])))) dX11_count_182
    refine lv_iload_n hx hb dX11_count_163 rfl (lv_at hl 1 rfl) ?_
    refine nv_bipush (k := 15) hx hb dX11_count_164 (by decide) ?_
    refine nv_icmp_gt (tgt := 181) hx hb dX11_count_166 (by decide) (by omega) (by omega) (fun h166 => ?_) (fun h166 => ?_)
    · skip
      refine lv_iconst (v := -1) hx hb dX11_count_181 (by decide) ?_
      exact hend ((by first | (exfalso; omega) | (unfold tg_cw; repeat (first | rw [if_pos (by omega)] | rw [if_neg (by omega)])))) dX11_count_182
    refine lv_aload_n hx hb dX11_count_169 rfl (lv_at hl 0 rfl) ?_
    refine va_get (ci := 8) (C := RX11) (T := TX11) (N := 8) hx hb ht iFX11 hown hK hP 0 rfl rfl 5 (by decide) (ht _ kw1_128) (fun _ h9 => h9) rfl dX11_count_170 ?_
    refine lv_iload_n hx hb dX11_count_173 rfl (lv_at hl 1 rfl) ?_
    refine nv_bipush (k := 10) hx hb dX11_count_174 (by decide) ?_
    refine nv_isub hx hb (by omega) dX11_count_176 ?_
    refine nv_iald hx hb hK hP 11 rfl (by omega) (by omega) dX11_count_177 ?_
    refine lv_goto (tgt := 182) hx hb dX11_count_178 (by decide) ?_
    exact hend ((by first | (exfalso; omega) | (unfold tg_cw; repeat (first | rw [if_pos (by omega)] | rw [if_neg (by omega)])))) dX11_count_182
  by_cases hs1_16 : w = 16
  · refine lv_tableIn (off := 151) (tgt := 152) hx hb dX11_count_1 (by rw [hs1_16]; decide) (by rw [hs1_16]; decide) (by rw [hs1_16]; decide) (by decide) ?_
    refine lv_aload_n hx hb dX11_count_152 rfl (lv_at hl 0 rfl) ?_
    refine va_get (ci := 8) (C := RX11) (T := TX11) (N := 8) hx hb ht iFX11 hown hK hP 0 rfl rfl 7 (by decide) (ht _ kw1_130) (fun _ h9 => h9) rfl dX11_count_153 ?_
    exact hend ((by first | (exfalso; omega) | (unfold tg_cw; repeat (first | rw [if_pos (by omega)] | rw [if_neg (by omega)])))) dX11_count_156
  refine lv_tableOut (tgt := 157) hx hb dX11_count_1 (by rw [nI_toInt (by omega)]; omega) (by decide) ?_
  refine lv_iload_n hx hb dX11_count_157 rfl (lv_at hl 1 rfl) ?_
  refine nv_bipush (k := 10) hx hb dX11_count_158 (by decide) ?_
  refine nv_icmp_lt (tgt := 181) hx hb dX11_count_160 (by decide) (by omega) (by omega) (fun h160 => ?_) (fun h160 => ?_)
  · skip
    refine lv_iconst (v := -1) hx hb dX11_count_181 (by decide) ?_
    exact hend ((by first | (exfalso; omega) | (unfold tg_cw; repeat (first | rw [if_pos (by omega)] | rw [if_neg (by omega)])))) dX11_count_182
  refine lv_iload_n hx hb dX11_count_163 rfl (lv_at hl 1 rfl) ?_
  refine nv_bipush (k := 15) hx hb dX11_count_164 (by decide) ?_
  refine nv_icmp_gt (tgt := 181) hx hb dX11_count_166 (by decide) (by omega) (by omega) (fun h166 => ?_) (fun h166 => ?_)
  · skip
    refine lv_iconst (v := -1) hx hb dX11_count_181 (by decide) ?_
    exact hend ((by first | (exfalso; omega) | (unfold tg_cw; repeat (first | rw [if_pos (by omega)] | rw [if_neg (by omega)])))) dX11_count_182
  refine lv_aload_n hx hb dX11_count_169 rfl (lv_at hl 0 rfl) ?_
  refine va_get (ci := 8) (C := RX11) (T := TX11) (N := 8) hx hb ht iFX11 hown hK hP 0 rfl rfl 5 (by decide) (ht _ kw1_128) (fun _ h9 => h9) rfl dX11_count_170 ?_
  refine lv_iload_n hx hb dX11_count_173 rfl (lv_at hl 1 rfl) ?_
  refine nv_bipush (k := 10) hx hb dX11_count_174 (by decide) ?_
  refine nv_isub hx hb (by omega) dX11_count_176 ?_
  refine nv_iald hx hb hK hP 11 rfl (by omega) (by omega) dX11_count_177 ?_
  refine lv_goto (tgt := 182) hx hb dX11_count_178 (by decide) ?_
  exact hend ((by first | (exfalso; omega) | (unfold tg_cw; repeat (first | rw [if_pos (by omega)] | rw [if_neg (by omega)])))) dX11_count_182
set_option maxHeartbeats 4000000 in
set_option maxRecDepth 100000 in
theorem c_X11_countW {l : Launch} {D : va_G} {cy : Nat → ClassId} {ad : Nat → Nat} {tl dy : va_W} {eb es tp os bits F G u nb ns T M id : Nat} {mb mz : Int32} {ft fo : Nat → UInt8} {g : Nat → Int32} {dq : Nat → Nat} (htp : tp ≤ 1600) (hos : os ≤ 1620) (hsi : SI bits F G) (hu4 : u ≤ 4) {w : Int32} (hneg : w < 0) : RO l yX11_count cX11_count 2 (some .int) 0 0 [.ref (ad 0), .int w] D cy ((cW cy ad eb es mb mz tp os bits F G u nb ns T M id ft fo g dq ++ tl) ++ dy) (.int (-1)) := by
  refine ROi (by decide) (lv0 := [(0, .ref (ad 0)), (1, .int w)]) rfl (Nat.le_of_ble_eq_true rfl) ?_
  intro p e s m args below meth c ls Q S hP hK hend hl
  have hx := S.1
  have hb := S.2.1
  have hown : s.vm.findClass RX11 = some m.cls := S.2.2.2.1
  have ht : ∀ w ∈ lw_g, w.before args s = true := fun w h => S.2.2.2.2 w (List.mem_cons_of_mem _ h)
  have hP : va_P D vwCl ((cW cy ad eb es mb mz tp os bits F G u nb ns T M id ft fo g dq ++ tl) ++ dy) s.heap := hP
  have hT : ((cW cy ad eb es mb mz tp os bits F G u nb ns T M id ft fo g dq ++ tl) ++ dy)[8]? = some (tE (ad 8) (ad 9) (ad 10) T) := rfl
  have hLb : ((cW cy ad eb es mb mz tp os bits F G u nb ns T M id ft fo g dq ++ tl) ++ dy)[9]? = some (aL (ad 9) mb eb nb) := rfl
  have hLs : ((cW cy ad eb es mb mz tp os bits F G u nb ns T M id ft fo g dq ++ tl) ++ dy)[10]? = some (aL (ad 10) mz es ns) := rfl
  have hST : STP ((cW cy ad eb es mb mz tp os bits F G u nb ns T M id ft fo g dq ++ tl) ++ dy) (ad 5) bits F G := STP_of (ks := 5) rfl hsi
  have hPL : PLP cy ((cW cy ad eb es mb mz tp os bits F G u nb ns T M id ft fo g dq ++ tl) ++ dy) (ad 6) g u := PLP_of (kp := 6) (kq := 7) rfl rfl hu4
  refine lv_iload_n hx hb dX11_count_0 rfl (lv_at hl 1 rfl) ?_
  refine lv_tableOut (tgt := 157) hx hb dX11_count_1 (Or.inl (neg_toInt hneg)) (by decide) ?_
  refine lv_iload_n hx hb dX11_count_157 rfl (lv_at hl 1 rfl) ?_
  refine nv_bipush (k := 10) hx hb dX11_count_158 (by decide) ?_
  refine lv_icmp_lt (tgt := 181) hx hb dX11_count_160 (by decide) (fun h160 => ?_) (fun h160 => ?_)
  · skip
    refine lv_iconst (v := -1) hx hb dX11_count_181 (by decide) ?_
    exact hend (rfl) dX11_count_182
  exact absurd (neg_lt hneg (by decide)) h160
