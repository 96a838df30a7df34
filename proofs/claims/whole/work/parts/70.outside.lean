theorem dX11_passFromOutside_0 : decode cX11_passFromOutside 0 = .ok (.aload_n 0, 1) := by decide +kernel
theorem dX11_passFromOutside_1 : decode cX11_passFromOutside 1 = .ok (.getfield 14, 3) := by decide +kernel
theorem dX11_passFromOutside_4 : decode cX11_passFromOutside 4 = .ok (.aload_n 0, 1) := by decide +kernel
theorem dX11_passFromOutside_5 : decode cX11_passFromOutside 5 = .ok (.getfield 24, 3) := by decide +kernel
theorem dX11_passFromOutside_8 : decode cX11_passFromOutside 8 = .ok (.aload_n 0, 1) := by decide +kernel
theorem dX11_passFromOutside_9 : decode cX11_passFromOutside 9 = .ok (.getfield 31, 3) := by decide +kernel
theorem dX11_passFromOutside_12 : decode cX11_passFromOutside 12 = .ok (.invokestatic 238, 3) := by decide +kernel
theorem dX11_passFromOutside_15 : decode cX11_passFromOutside 15 = .ok (.istore_n 1, 1) := by decide +kernel
theorem dX11_passFromOutside_16 : decode cX11_passFromOutside 16 = .ok (.iload_n 1, 1) := by decide +kernel
theorem dX11_passFromOutside_17 : decode cX11_passFromOutside 17 = .ok (.ifCond .eq 5, 3) := by decide +kernel
theorem dX11_passFromOutside_20 : decode cX11_passFromOutside 20 = .ok (.iload_n 1, 1) := by decide +kernel
theorem dX11_passFromOutside_21 : decode cX11_passFromOutside 21 = .ok (.ireturn, 1) := by decide +kernel
theorem dX11_passFromOutside_22 : decode cX11_passFromOutside 22 = .ok (.aload_n 0, 1) := by decide +kernel
theorem dX11_passFromOutside_23 : decode cX11_passFromOutside 23 = .ok (.getfield 14, 3) := by decide +kernel
theorem dX11_passFromOutside_26 : decode cX11_passFromOutside 26 = .ok (.invokestatic 241, 3) := by decide +kernel
theorem dX11_passFromOutside_29 : decode cX11_passFromOutside 29 = .ok (.ifCond .eq 8, 3) := by decide +kernel
theorem dX11_passFromOutside_32 : decode cX11_passFromOutside 32 = .ok (.aload_n 0, 1) := by decide +kernel
theorem dX11_passFromOutside_33 : decode cX11_passFromOutside 33 = .ok (.invokevirtual 245, 3) := by decide +kernel
theorem dX11_passFromOutside_36 : decode cX11_passFromOutside 36 = .ok (.ireturn, 1) := by decide +kernel
theorem dX11_passFromOutside_37 : decode cX11_passFromOutside 37 = .ok (.aload_n 0, 1) := by decide +kernel
theorem dX11_passFromOutside_38 : decode cX11_passFromOutside 38 = .ok (.getfield 14, 3) := by decide +kernel
theorem dX11_passFromOutside_41 : decode cX11_passFromOutside 41 = .ok (.invokestatic 248, 3) := by decide +kernel
theorem dX11_passFromOutside_44 : decode cX11_passFromOutside 44 = .ok (.astore_n 2, 1) := by decide +kernel
theorem dX11_passFromOutside_45 : decode cX11_passFromOutside 45 = .ok (.aload_n 0, 1) := by decide +kernel
theorem dX11_passFromOutside_46 : decode cX11_passFromOutside 46 = .ok (.getfield 38, 3) := by decide +kernel
theorem dX11_passFromOutside_49 : decode cX11_passFromOutside 49 = .ok (.aload_n 2, 1) := by decide +kernel
theorem dX11_passFromOutside_50 : decode cX11_passFromOutside 50 = .ok (.aload_n 0, 1) := by decide +kernel
theorem dX11_passFromOutside_51 : decode cX11_passFromOutside 51 = .ok (.getfield 31, 3) := by decide +kernel
theorem dX11_passFromOutside_54 : decode cX11_passFromOutside 54 = .ok (.aload_n 0, 1) := by decide +kernel
theorem dX11_passFromOutside_55 : decode cX11_passFromOutside 55 = .ok (.getfield 14, 3) := by decide +kernel
theorem dX11_passFromOutside_58 : decode cX11_passFromOutside 58 = .ok (.bipush 16, 2) := by decide +kernel
theorem dX11_passFromOutside_60 : decode cX11_passFromOutside 60 = .ok (.invokevirtual 95, 3) := by decide +kernel
theorem dX11_passFromOutside_63 : decode cX11_passFromOutside 63 = .ok (.invokevirtual 252, 3) := by decide +kernel
theorem dX11_passFromOutside_66 : decode cX11_passFromOutside 66 = .ok (.invokevirtual 254, 3) := by decide +kernel
theorem dX11_passFromOutside_69 : decode cX11_passFromOutside 69 = .ok (.astore_n 3, 1) := by decide +kernel
theorem dX11_passFromOutside_70 : decode cX11_passFromOutside 70 = .ok (.aload_n 3, 1) := by decide +kernel
theorem dX11_passFromOutside_71 : decode cX11_passFromOutside 71 = .ok (.ifnonnull 6, 3) := by decide +kernel
theorem dX11_passFromOutside_74 : decode cX11_passFromOutside 74 = .ok (.bipush 15, 2) := by decide +kernel
theorem dX11_passFromOutside_76 : decode cX11_passFromOutside 76 = .ok (.ireturn, 1) := by decide +kernel
theorem dX11_passFromOutside_77 : decode cX11_passFromOutside 77 = .ok (.aload_n 0, 1) := by decide +kernel
theorem dX11_passFromOutside_78 : decode cX11_passFromOutside 78 = .ok (.getfield 14, 3) := by decide +kernel
theorem dX11_passFromOutside_81 : decode cX11_passFromOutside 81 = .ok (.aload_n 0, 1) := by decide +kernel
theorem dX11_passFromOutside_82 : decode cX11_passFromOutside 82 = .ok (.getfield 18, 3) := by decide +kernel
theorem dX11_passFromOutside_85 : decode cX11_passFromOutside 85 = .ok (.aload_n 3, 1) := by decide +kernel
theorem dX11_passFromOutside_86 : decode cX11_passFromOutside 86 = .ok (.aload_n 0, 1) := by decide +kernel
theorem dX11_passFromOutside_87 : decode cX11_passFromOutside 87 = .ok (.getfield 24, 3) := by decide +kernel
theorem dX11_passFromOutside_90 : decode cX11_passFromOutside 90 = .ok (.invokestatic 258, 3) := by decide +kernel
theorem dX11_passFromOutside_93 : decode cX11_passFromOutside 93 = .ok (.iconst 0, 1) := by decide +kernel
theorem dX11_passFromOutside_94 : decode cX11_passFromOutside 94 = .ok (.ireturn, 1) := by decide +kernel
theorem yv_X11_passFromOutside : YV RX11 yX11_passFromOutside cX11_passFromOutside 4 (some .int) 0 := ⟨kw3_156, kws_15, kw1_1, kw3_157, by decide +kernel⟩
set_option maxHeartbeats 4000000 in
set_option maxRecDepth 100000 in
theorem c_X11_passFromOutside0 {l : Launch} {D : va_G} {cy : Nat → ClassId} {ad : Nat → Nat} {tl dy : va_W} {eb es tp os bits F G u nb ns T M id : Nat} {mb mz : Int32} {ft fo : Nat → UInt8} {g : Nat → Int32} {dq : Nat → Nat} (htp : tp ≤ 1600) (hos : os ≤ 1620) (hsi : SI bits F G) (hu4 : u ≤ 4) (hz0 : tg_out (tg_rd ft tp) tp bits g u ≠ 0) : RO l yX11_passFromOutside cX11_passFromOutside 4 (some .int) 5 116 [.ref (ad 0)] D cy ((cW cy ad eb es mb mz tp os bits F G u nb ns T M id ft fo g dq ++ tl) ++ dy) (.int (nI (tg_out (tg_rd ft tp) tp bits g u))) := by
  refine ROi (by decide) (lv0 := [(0, .ref (ad 0))]) rfl (Nat.le_of_ble_eq_true rfl) ?_
  intro p e s m args below meth c ls Q S hP hK hend hl
  have hx := S.1
  have hb := S.2.1
  have hown : s.vm.findClass RX11 = some m.cls := S.2.2.2.1
  have ht : ∀ w ∈ lw_g, w.before args s = true := fun w h => S.2.2.2.2 w (List.mem_cons_of_mem _ h)
  have hP : va_P D vwCl ((cW cy ad eb es mb mz tp os bits F G u nb ns T M id ft fo g dq ++ tl) ++ dy) s.heap := hP
  have hT : ((cW cy ad eb es mb mz tp os bits F G u nb ns T M id ft fo g dq ++ tl) ++ dy)[8]? = some (tE (ad 8) (ad 9) (ad 10) T) := rfl
  have hLb : ((cW cy ad eb es mb mz tp os bits F G u nb ns T M id ft fo g dq ++ tl) ++ dy)[9]? = some (aL (ad 9) mb eb nb) := rfl
  have hLs : ((cW cy ad eb es mb mz tp os bits F G u nb ns T M id ft fo g dq ++ tl) ++ dy)[10]? = some (aL (ad 10) mz es ns) := rfl
  have hST : STP ((cW cy ad eb es mb mz tp os bits F G u nb ns T M id ft fo g dq ++ tl) ++ dy) (ad 5) bits F G := STP_of (ks := 5) rfl hsi
  have hPL : PLP cy ((cW cy ad eb es mb mz tp os bits F G u nb ns T M id ft fo g dq ++ tl) ++ dy) (ad 6) g u := PLP_of (kp := 6) (kq := 7) rfl rfl hu4
  refine lv_aload_n hx hb dX11_passFromOutside_0 rfl (lv_at hl 0 rfl) ?_
  refine va_get (ci := 8) (C := RX11) (T := TX11) (N := 8) hx hb ht iFX11 hown hK hP 0 rfl rfl 0 (by decide) (ht _ kw1_123) (fun _ h9 => h9) rfl dX11_passFromOutside_1 ?_
  refine lv_aload_n hx hb dX11_passFromOutside_4 rfl (lv_at hl 0 rfl) ?_
  refine va_get (ci := 8) (C := RX11) (T := TX11) (N := 8) hx hb ht iFX11 hown hK hP 0 rfl rfl 2 (by decide) (ht _ kw1_125) (fun _ h9 => h9) rfl dX11_passFromOutside_5 ?_
  refine lv_aload_n hx hb dX11_passFromOutside_8 rfl (lv_at hl 0 rfl) ?_
  refine va_get (ci := 8) (C := RX11) (T := TX11) (N := 8) hx hb ht iFX11 hown hK hP 0 rfl rfl 3 (by decide) (ht _ kw1_126) (fun _ h9 => h9) rfl dX11_passFromOutside_9 ?_
  refine ro_S S (c_X6_faultFromOutside (PK_of (ws := (cW cy ad eb es mb mz tp os bits F G u nb ns T M id ft fo g dq ++ tl) ++ dy) (kb := 1) (ka := 2) (N := 1600) rfl rfl (by omega) (by omega)) hST hPL) kw3_158 yv_X6_faultFromOutside ⟨Nat.le_of_ble_eq_true rfl, Nat.le_of_ble_eq_true rfl⟩ hK hP rfl hl.1 rfl (Nat.le_of_ble_eq_true rfl) dX11_passFromOutside_12 ⟨(Nat.zero_le _), (Nat.zero_le _)⟩ ?_
  have hle9 : tg_out (tg_rd ft tp) tp bits g u ≤ 14 := by unfold tg_out; (repeat' split) <;> omega
  refine lv_istore_n (lv' := [(1, .int (nI (tg_out (tg_rd ft tp) tp bits g u))), (0, .ref (ad 0))]) hx hb dX11_passFromOutside_15 rfl hl (by decide) rfl (fun ls hl => ?_)
  refine lv_iload_n hx hb dX11_passFromOutside_16 rfl (lv_at hl 0 rfl) ?_
  refine nv_if_eq (tgt := 22) hx hb dX11_passFromOutside_17 (by decide) (by omega) (fun h17 => ?_) (fun h17 => ?_)
  · skip
    exact absurd h17 hz0
  refine lv_iload_n hx hb dX11_passFromOutside_20 rfl (lv_at hl 0 rfl) ?_
  exact hend (rfl) dX11_passFromOutside_21
theorem dX11_passError_0 : decode cX11_passError 0 = .ok (.aload_n 0, 1) := by decide +kernel
theorem dX11_passError_1 : decode cX11_passError 1 = .ok (.getfield 14, 3) := by decide +kernel
theorem dX11_passError_4 : decode cX11_passError 4 = .ok (.bipush 37, 2) := by decide +kernel
theorem dX11_passError_6 : decode cX11_passError 6 = .ok (.invokevirtual 102, 3) := by decide +kernel
theorem dX11_passError_9 : decode cX11_passError 9 = .ok (.istore_n 1, 1) := by decide +kernel
theorem dX11_passError_10 : decode cX11_passError 10 = .ok (.aload_n 0, 1) := by decide +kernel
theorem dX11_passError_11 : decode cX11_passError 11 = .ok (.getfield 31, 3) := by decide +kernel
theorem dX11_passError_14 : decode cX11_passError 14 = .ok (.aload_n 0, 1) := by decide +kernel
theorem dX11_passError_15 : decode cX11_passError 15 = .ok (.getfield 14, 3) := by decide +kernel
theorem dX11_passError_18 : decode cX11_passError 18 = .ok (.bipush 40, 2) := by decide +kernel
theorem dX11_passError_20 : decode cX11_passError 20 = .ok (.invokevirtual 95, 3) := by decide +kernel
theorem dX11_passError_23 : decode cX11_passError 23 = .ok (.invokevirtual 252, 3) := by decide +kernel
theorem dX11_passError_26 : decode cX11_passError 26 = .ok (.istore_n 2, 1) := by decide +kernel
theorem dX11_passError_27 : decode cX11_passError 27 = .ok (.aload_n 0, 1) := by decide +kernel
theorem dX11_passError_28 : decode cX11_passError 28 = .ok (.getfield 14, 3) := by decide +kernel
theorem dX11_passError_31 : decode cX11_passError 31 = .ok (.bipush 48, 2) := by decide +kernel
theorem dX11_passError_33 : decode cX11_passError 33 = .ok (.iload_n 1, 1) := by decide +kernel
theorem dX11_passError_34 : decode cX11_passError 34 = .ok (.invokestatic 262, 3) := by decide +kernel
theorem dX11_passError_37 : decode cX11_passError 37 = .ok (.istore_n 3, 1) := by decide +kernel
theorem dX11_passError_38 : decode cX11_passError 38 = .ok (.aload_n 0, 1) := by decide +kernel
theorem dX11_passError_39 : decode cX11_passError 39 = .ok (.getfield 38, 3) := by decide +kernel
theorem dX11_passError_42 : decode cX11_passError 42 = .ok (.iload_n 1, 1) := by decide +kernel
theorem dX11_passError_43 : decode cX11_passError 43 = .ok (.iload_n 2, 1) := by decide +kernel
theorem dX11_passError_44 : decode cX11_passError 44 = .ok (.iload_n 3, 1) := by decide +kernel
theorem dX11_passError_45 : decode cX11_passError 45 = .ok (.invokevirtual 266, 3) := by decide +kernel
theorem dX11_passError_48 : decode cX11_passError 48 = .ok (.astore 4, 2) := by decide +kernel
theorem dX11_passError_50 : decode cX11_passError 50 = .ok (.aload 4, 2) := by decide +kernel
theorem dX11_passError_52 : decode cX11_passError 52 = .ok (.ifnonnull 6, 3) := by decide +kernel
theorem dX11_passError_55 : decode cX11_passError 55 = .ok (.bipush 15, 2) := by decide +kernel
theorem dX11_passError_57 : decode cX11_passError 57 = .ok (.ireturn, 1) := by decide +kernel
theorem dX11_passError_58 : decode cX11_passError 58 = .ok (.aload_n 0, 1) := by decide +kernel
theorem dX11_passError_59 : decode cX11_passError 59 = .ok (.getfield 14, 3) := by decide +kernel
theorem dX11_passError_62 : decode cX11_passError 62 = .ok (.aload_n 0, 1) := by decide +kernel
theorem dX11_passError_63 : decode cX11_passError 63 = .ok (.getfield 18, 3) := by decide +kernel
theorem dX11_passError_66 : decode cX11_passError 66 = .ok (.aload 4, 2) := by decide +kernel
theorem dX11_passError_68 : decode cX11_passError 68 = .ok (.aload_n 0, 1) := by decide +kernel
theorem dX11_passError_69 : decode cX11_passError 69 = .ok (.getfield 24, 3) := by decide +kernel
theorem dX11_passError_72 : decode cX11_passError 72 = .ok (.invokestatic 270, 3) := by decide +kernel
theorem dX11_passError_75 : decode cX11_passError 75 = .ok (.aload_n 0, 1) := by decide +kernel
theorem dX11_passError_76 : decode cX11_passError 76 = .ok (.getfield 14, 3) := by decide +kernel
theorem dX11_passError_79 : decode cX11_passError 79 = .ok (.aload_n 0, 1) := by decide +kernel
theorem dX11_passError_80 : decode cX11_passError 80 = .ok (.getfield 18, 3) := by decide +kernel
theorem dX11_passError_83 : decode cX11_passError 83 = .ok (.aload 4, 2) := by decide +kernel
theorem dX11_passError_85 : decode cX11_passError 85 = .ok (.aload_n 0, 1) := by decide +kernel
theorem dX11_passError_86 : decode cX11_passError 86 = .ok (.getfield 24, 3) := by decide +kernel
theorem dX11_passError_89 : decode cX11_passError 89 = .ok (.invokestatic 273, 3) := by decide +kernel
theorem dX11_passError_92 : decode cX11_passError 92 = .ok (.aload_n 0, 1) := by decide +kernel
theorem dX11_passError_93 : decode cX11_passError 93 = .ok (.getfield 18, 3) := by decide +kernel
theorem dX11_passError_96 : decode cX11_passError 96 = .ok (.bipush 40, 2) := by decide +kernel
theorem dX11_passError_98 : decode cX11_passError 98 = .ok (.invokestatic 276, 3) := by decide +kernel
theorem dX11_passError_101 : decode cX11_passError 101 = .ok (.iconst 0, 1) := by decide +kernel
theorem dX11_passError_102 : decode cX11_passError 102 = .ok (.ireturn, 1) := by decide +kernel
theorem yv_X11_passError : YV RX11 yX11_passError cX11_passError 5 (some .int) 0 := ⟨kw3_192, kws_16, kw1_1, kw3_193, by decide +kernel⟩
set_option maxHeartbeats 4000000 in
set_option maxRecDepth 100000 in
theorem c_X11_passError0 {l : Launch} {D : va_G} {cy : Nat → ClassId} {ad : Nat → Nat} {tl dy : va_W} {eb es tp os bits F G u nb ns T M id : Nat} {mb mz : Int32} {ft fo : Nat → UInt8} {g : Nat → Int32} {dq ba sa pt ih il ip pn op so fa fp st en : Nat → Nat} {e0 : Nat × Nat} (htp : tp ≤ 1600) (hos : os ≤ 1620) (hsi : SI bits F G) (hu4 : u ≤ 4) (hDY : DY cy e0.1 dy eb es nb ns ba sa pt ih il ip pn op so fa fp st en) (hb_pt : ∀ i, pt i < 2 ^ 31) (hb_ih : ∀ i, ih i < 2 ^ 64) (hb_il : ∀ i, il i < 2 ^ 64) (hb_ip : ∀ i, ip i < 2 ^ 31) (hb_pn : ∀ i, pn i < 2 ^ 31) (hb_op : ∀ i, op i < 2 ^ 31) (hb_fa : ∀ i, fa i < 2 ^ 32) (hb_fp : ∀ i, fp i < 2 ^ 31) (hb_st : ∀ i, st i ≤ 7) (hb_en : ∀ i, en i < 2 ^ 62) {q port num : Nat} (eq0 : q = tg_rd ft tp 37) (eport : port = tg_pr (tg_rd ft tp) (48 + tg_spa q)) (enum : num = tg_first (fun k => decide (g k = nI (tg_qd (tg_rd ft tp) 40))) u) (hz0 : tg_out (tg_rd ft tp) tp bits g u = 0) (herr : tg_isErr (tg_rd ft tp) = true) (hfb : ¬ tg_first (fun k => decide (pt k = q ∧ pn k = num ∧ op k = port)) nb < nb) : RO l yX11_passError cX11_passError 5 (some .int) 4 90 [.ref (ad 0)] D cy ((cW cy ad eb es mb mz tp os bits F G u nb ns T M id ft fo g dq ++ tl) ++ dy) (.int (nI 15)) := by
  refine ROi (by decide) (lv0 := [(0, .ref (ad 0))]) rfl (Nat.le_of_ble_eq_true rfl) ?_
  intro p e s m args below meth c ls Q S hP hK hend hl
  have hx := S.1
  have hb := S.2.1
  have hown : s.vm.findClass RX11 = some m.cls := S.2.2.2.1
  have ht : ∀ w ∈ lw_g, w.before args s = true := fun w h => S.2.2.2.2 w (List.mem_cons_of_mem _ h)
  have hP : va_P D vwCl ((cW cy ad eb es mb mz tp os bits F G u nb ns T M id ft fo g dq ++ tl) ++ dy) s.heap := hP
  have hT : ((cW cy ad eb es mb mz tp os bits F G u nb ns T M id ft fo g dq ++ tl) ++ dy)[8]? = some (tE (ad 8) (ad 9) (ad 10) T) := rfl
  have hLb : ((cW cy ad eb es mb mz tp os bits F G u nb ns T M id ft fo g dq ++ tl) ++ dy)[9]? = some (aL (ad 9) mb eb nb) := rfl
  have hLs : ((cW cy ad eb es mb mz tp os bits F G u nb ns T M id ft fo g dq ++ tl) ++ dy)[10]? = some (aL (ad 10) mz es ns) := rfl
  have hB : TB1 cy ((cW cy ad eb es mb mz tp os bits F G u nb ns T M id ft fo g dq ++ tl) ++ dy) e0.1 eb nb ba pt ih il ip pn op := hDY.1.app
  have hS1 : TS1 cy ((cW cy ad eb es mb mz tp os bits F G u nb ns T M id ft fo g dq ++ tl) ++ dy) e0.1 es ns nb ba sa so fa fp st en := hDY.2.1.app
  have hST : STP ((cW cy ad eb es mb mz tp os bits F G u nb ns T M id ft fo g dq ++ tl) ++ dy) (ad 5) bits F G := STP_of (ks := 5) rfl hsi
  have hPL : PLP cy ((cW cy ad eb es mb mz tp os bits F G u nb ns T M id ft fo g dq ++ tl) ++ dy) (ad 6) g u := PLP_of (kp := 6) (kq := 7) rfl rfl hu4
  have hnb := hB.le
  have hns := hS1.le
  have hou := out0 hz0
  have her := hou.2.2.2 herr
  have hnu : num < u := by rw [enum]; exact (num_is her.2.2).2
  have hq3 : q = 1 ∨ q = 6 ∨ q = 17 := by rw [eq0]; exact her.2.1
  have hport : port < 65536 := by rw [eport]; exact tg_pr_lt _ _ _
  refine lv_aload_n hx hb dX11_passError_0 rfl (lv_at hl 0 rfl) ?_
  refine va_get (ci := 8) (C := RX11) (T := TX11) (N := 8) hx hb ht iFX11 hown hK hP 0 rfl rfl 0 (by decide) (ht _ kw1_123) (fun _ h9 => h9) rfl dX11_passError_1 ?_
  refine nv_bipush (k := 37) hx hb dX11_passError_4 (by decide) ?_
  refine ro_V S (c_X1_octet (PK_of (ws := (cW cy ad eb es mb mz tp os bits F G u nb ns T M id ft fo g dq ++ tl) ++ dy) (kb := 1) (ka := 2) (N := 1600) rfl rfl (by omega) (by omega)) (k := 37) (by omega)) kw3_194 yv_X1_octet ⟨Nat.le_of_ble_eq_true rfl, Nat.le_of_ble_eq_true rfl⟩ hK hP (va_recv hK hP (ci := 2) (q0 := 1) rfl rfl) rfl hl.1 rfl (Nat.le_of_ble_eq_true rfl) dX11_passError_6 ⟨(Nat.zero_le _), (Nat.zero_le _)⟩ ?_
  have hq6 := tg_rd_lt ft tp 37
  rw [← eq0]
  refine lv_istore_n (lv' := [(1, .int (nI q)), (0, .ref (ad 0))]) hx hb dX11_passError_9 rfl hl (by decide) rfl (fun ls hl => ?_)
  refine lv_aload_n hx hb dX11_passError_10 rfl (lv_at hl 1 rfl) ?_
  refine va_get (ci := 8) (C := RX11) (T := TX11) (N := 8) hx hb ht iFX11 hown hK hP 0 rfl rfl 3 (by decide) (ht _ kw1_126) (fun _ h9 => h9) rfl dX11_passError_11 ?_
  refine lv_aload_n hx hb dX11_passError_14 rfl (lv_at hl 1 rfl) ?_
  refine va_get (ci := 8) (C := RX11) (T := TX11) (N := 8) hx hb ht iFX11 hown hK hP 0 rfl rfl 0 (by decide) (ht _ kw1_123) (fun _ h9 => h9) rfl dX11_passError_15 ?_
  refine nv_bipush (k := 40) hx hb dX11_passError_18 (by decide) ?_
  refine ro_V S (c_X1_quad (PK_of (ws := (cW cy ad eb es mb mz tp os bits F G u nb ns T M id ft fo g dq ++ tl) ++ dy) (kb := 1) (ka := 2) (N := 1600) rfl rfl (by omega) (by omega)) (a := 40) (by omega)) kw3_195 yv_X1_quad ⟨Nat.le_of_ble_eq_true rfl, Nat.le_of_ble_eq_true rfl⟩ hK hP (va_recv hK hP (ci := 2) (q0 := 1) rfl rfl) rfl hl.1 rfl (Nat.le_of_ble_eq_true rfl) dX11_passError_20 ⟨(Nat.zero_le _), (Nat.zero_le _)⟩ ?_
  have hq20 := tg_qd_lt ft tp 40
  refine ro_V S (c_X5_numberOf hPL (x := tg_qd (tg_rd ft tp) 40) (tg_qd_lt _ _ _)) kw3_196 yv_X5_numberOf ⟨Nat.le_of_ble_eq_true rfl, Nat.le_of_ble_eq_true rfl⟩ hK hP (va_recv hK hP (ci := 4) (q0 := 6) rfl rfl) rfl hl.1 rfl (Nat.le_of_ble_eq_true rfl) dX11_passError_23 ⟨(Nat.zero_le _), (Nat.zero_le _)⟩ ?_
  rw [(num_is her.2.2).1, ← enum]
  refine lv_istore_n (lv' := [(2, .int (nI num)), (1, .int (nI q)), (0, .ref (ad 0))]) hx hb dX11_passError_26 rfl hl (by decide) rfl (fun ls hl => ?_)
  refine lv_aload_n hx hb dX11_passError_27 rfl (lv_at hl 2 rfl) ?_
  refine va_get (ci := 8) (C := RX11) (T := TX11) (N := 8) hx hb ht iFX11 hown hK hP 0 rfl rfl 0 (by decide) (ht _ kw1_123) (fun _ h9 => h9) rfl dX11_passError_28 ?_
  refine nv_bipush (k := 48) hx hb dX11_passError_31 (by decide) ?_
  refine lv_iload_n hx hb dX11_passError_33 rfl (lv_at hl 1 rfl) ?_
  refine ro_S S (c_X4_sourcePort (PK_of (ws := (cW cy ad eb es mb mz tp os bits F G u nb ns T M id ft fo g dq ++ tl) ++ dy) (kb := 1) (ka := 2) (N := 1600) rfl rfl (by omega) (by omega)) (a := 48) (q := q) (by omega) (by omega)) kw3_197 yv_X4_sourcePort ⟨Nat.le_of_ble_eq_true rfl, Nat.le_of_ble_eq_true rfl⟩ hK hP rfl hl.1 rfl (Nat.le_of_ble_eq_true rfl) dX11_passError_34 ⟨(Nat.zero_le _), (Nat.zero_le _)⟩ ?_
  have hq34 := tg_pr_lt ft tp (48 + tg_spa q)
  rw [← eport]
  refine lv_istore_n (lv' := [(3, .int (nI port)), (2, .int (nI num)), (1, .int (nI q)), (0, .ref (ad 0))]) hx hb dX11_passError_37 rfl hl (by decide) rfl (fun ls hl => ?_)
  refine lv_aload_n hx hb dX11_passError_38 rfl (lv_at hl 3 rfl) ?_
  refine va_get (ci := 8) (C := RX11) (T := TX11) (N := 8) hx hb ht iFX11 hown hK hP 0 rfl rfl 4 (by decide) (ht _ kw1_127) (fun _ h9 => h9) rfl dX11_passError_39 ?_
  refine lv_iload_n hx hb dX11_passError_42 rfl (lv_at hl 2 rfl) ?_
  refine lv_iload_n hx hb dX11_passError_43 rfl (lv_at hl 1 rfl) ?_
  refine lv_iload_n hx hb dX11_passError_44 rfl (lv_at hl 0 rfl) ?_
  refine ro_V S (c_X10_byOuter hT hLb hB hb_pt hb_ih hb_il hb_ip hb_pn hb_op (q9 := q) (num := num) (v := port) (by omega) (by omega) (by omega)) kw3_198 yv_X10_byOuter ⟨Nat.le_of_ble_eq_true rfl, Nat.le_of_ble_eq_true rfl⟩ hK hP (va_recv hK hP (ci := 7) (q0 := 8) rfl rfl) rfl hl.1 rfl (Nat.le_of_ble_eq_true rfl) dX11_passError_45 ⟨(Nat.zero_le _), (Nat.zero_le _)⟩ ?_
  have eX : tg_at ba (fun k => decide (pt k = q ∧ pn k = num ∧ op k = port)) nb = none := if_neg hfb
  rw [eX]
  refine W.eq (g2 := F0 m 48 ls [.null]) rfl ?_
  refine lv_astoreN (lv' := [(4, .null), (3, .int (nI port)), (2, .int (nI num)), (1, .int (nI q)), (0, .ref (ad 0))]) hx hb dX11_passError_48 hl (by decide) rfl (fun ls hl => ?_)
  refine lv_aloadN hx hb dX11_passError_50 (lv_at hl 0 rfl) ?_
  refine lv_ifnonnullN hx hb dX11_passError_52 ?_
  refine nv_bipush (k := 15) hx hb dX11_passError_55 (by decide) ?_
  exact hend (rfl) dX11_passError_57
set_option maxHeartbeats 4000000 in
set_option maxRecDepth 100000 in
theorem c_X11_passError1 {l : Launch} {D : va_G} {cy : Nat → ClassId} {ad : Nat → Nat} {tl dy : va_W} {eb es tp os bits F G u nb ns T M id : Nat} {mb mz : Int32} {ft fo : Nat → UInt8} {g : Nat → Int32} {dq ba sa pt ih il ip pn op so fa fp st en : Nat → Nat} {e0 : Nat × Nat} (htp : tp ≤ 1600) (hos : os ≤ 1620) (hsi : SI bits F G) (hu4 : u ≤ 4) (hDY : DY cy e0.1 dy eb es nb ns ba sa pt ih il ip pn op so fa fp st en) (hb_pt : ∀ i, pt i < 2 ^ 31) (hb_ih : ∀ i, ih i < 2 ^ 64) (hb_il : ∀ i, il i < 2 ^ 64) (hb_ip : ∀ i, ip i < 2 ^ 31) (hb_pn : ∀ i, pn i < 2 ^ 31) (hb_op : ∀ i, op i < 2 ^ 31) (hb_fa : ∀ i, fa i < 2 ^ 32) (hb_fp : ∀ i, fp i < 2 ^ 31) (hb_st : ∀ i, st i ≤ 7) (hb_en : ∀ i, en i < 2 ^ 62) {q port num : Nat} (eq0 : q = tg_rd ft tp 37) (eport : port = tg_pr (tg_rd ft tp) (48 + tg_spa q)) (enum : num = tg_first (fun k => decide (g k = nI (tg_qd (tg_rd ft tp) 40))) u) (hz0 : tg_out (tg_rd ft tp) tp bits g u = 0) (herr : tg_isErr (tg_rd ft tp) = true) {b : Nat} (hb9 : b < nb) (hfb : tg_first (fun k => decide (pt k = q ∧ pn k = num ∧ op k = port)) nb = b) (hip9 : ip b < 65536) : WR (S := Unit) l yX11_passError cX11_passError 5 (some .int) 4 0 0 100 [.ref (ad 0)] D cy ((cW cy ad eb es mb mz tp os bits F G u nb ns T M id ft fo g dq ++ tl) ++ dy) (fun u_ => some (.int (nI 0))) (fun _ => True) (fun _ => (cW cy ad eb es mb mz tp (min (tp + 40) 1280) bits F G u nb ns T M id ft (tg_fin (tg_wi (tg_er1 fo ft tp (ih b) (il b) bits F G) ft tp (min (tp + 40) 1280) q (ip b) (ih b) (il b) bits F G) (min (tp + 40) 1280) 40 58) g dq ++ tl) ++ dy) := by
  refine WRi (by decide) (lv0 := [(0, .ref (ad 0))]) rfl (Nat.le_of_ble_eq_true rfl) ?_
  intro p e s m args below meth c ls A Q S hnm hP hK hD hS hA hend hl
  have hx := S.1
  have hb := S.2.1
  have hown : s.vm.findClass RX11 = some m.cls := S.2.2.2.1
  have ht : ∀ w ∈ lw_g, w.before args s = true := fun w h => S.2.2.2.2 w (List.mem_cons_of_mem _ h)
  have hP : va_P D vwCl ((cW cy ad eb es mb mz tp os bits F G u nb ns T M id ft fo g dq ++ tl) ++ dy) s.heap := hP
  have hT : ((cW cy ad eb es mb mz tp os bits F G u nb ns T M id ft fo g dq ++ tl) ++ dy)[8]? = some (tE (ad 8) (ad 9) (ad 10) T) := rfl
  have hLb : ((cW cy ad eb es mb mz tp os bits F G u nb ns T M id ft fo g dq ++ tl) ++ dy)[9]? = some (aL (ad 9) mb eb nb) := rfl
  have hLs : ((cW cy ad eb es mb mz tp os bits F G u nb ns T M id ft fo g dq ++ tl) ++ dy)[10]? = some (aL (ad 10) mz es ns) := rfl
  have hB : TB1 cy ((cW cy ad eb es mb mz tp os bits F G u nb ns T M id ft fo g dq ++ tl) ++ dy) e0.1 eb nb ba pt ih il ip pn op := hDY.1.app
  have hS1 : TS1 cy ((cW cy ad eb es mb mz tp os bits F G u nb ns T M id ft fo g dq ++ tl) ++ dy) e0.1 es ns nb ba sa so fa fp st en := hDY.2.1.app
  have hST : STP ((cW cy ad eb es mb mz tp os bits F G u nb ns T M id ft fo g dq ++ tl) ++ dy) (ad 5) bits F G := STP_of (ks := 5) rfl hsi
  have hPL : PLP cy ((cW cy ad eb es mb mz tp os bits F G u nb ns T M id ft fo g dq ++ tl) ++ dy) (ad 6) g u := PLP_of (kp := 6) (kq := 7) rfl rfl hu4
  have hnb := hB.le
  have hns := hS1.le
  have hou := out0 hz0
  have her := hou.2.2.2 herr
  have hnu : num < u := by rw [enum]; exact (num_is her.2.2).2
  have hq3 : q = 1 ∨ q = 6 ∨ q = 17 := by rw [eq0]; exact her.2.1
  have hport : port < 65536 := by rw [eport]; exact tg_pr_lt _ _ _
  have hptb : pt b = q := by have h9 := tg_first_is (q := (fun k => decide (pt k = q ∧ pn k = num ∧ op k = port))) (n := nb) (by rw [hfb]; exact hb9); rw [hfb] at h9; exact (of_decide_eq_true h9).1
  refine lv_aload_n hx hb dX11_passError_0 rfl (lv_at hl 0 rfl) ?_
  refine va_get (ci := 8) (C := RX11) (T := TX11) (N := 8) hx hb ht iFX11 hown hK hP 0 rfl rfl 0 (by decide) (ht _ kw1_123) (fun _ h9 => h9) rfl dX11_passError_1 ?_
  refine nv_bipush (k := 37) hx hb dX11_passError_4 (by decide) ?_
  refine ro_V S (c_X1_octet (PK_of (ws := (cW cy ad eb es mb mz tp os bits F G u nb ns T M id ft fo g dq ++ tl) ++ dy) (kb := 1) (ka := 2) (N := 1600) rfl rfl (by omega) (by omega)) (k := 37) (by omega)) kw3_194 yv_X1_octet ⟨Nat.le_of_ble_eq_true rfl, Nat.le_of_ble_eq_true rfl⟩ hK hP (va_recv hK hP (ci := 2) (q0 := 1) rfl rfl) rfl hl.1 rfl (Nat.le_of_ble_eq_true rfl) dX11_passError_6 ⟨(Nat.zero_le _), (Nat.zero_le _)⟩ ?_
  have hq6 := tg_rd_lt ft tp 37
  rw [← eq0]
  refine lv_istore_n (lv' := [(1, .int (nI q)), (0, .ref (ad 0))]) hx hb dX11_passError_9 rfl hl (by decide) rfl (fun ls hl => ?_)
  refine lv_aload_n hx hb dX11_passError_10 rfl (lv_at hl 1 rfl) ?_
  refine va_get (ci := 8) (C := RX11) (T := TX11) (N := 8) hx hb ht iFX11 hown hK hP 0 rfl rfl 3 (by decide) (ht _ kw1_126) (fun _ h9 => h9) rfl dX11_passError_11 ?_
  refine lv_aload_n hx hb dX11_passError_14 rfl (lv_at hl 1 rfl) ?_
  refine va_get (ci := 8) (C := RX11) (T := TX11) (N := 8) hx hb ht iFX11 hown hK hP 0 rfl rfl 0 (by decide) (ht _ kw1_123) (fun _ h9 => h9) rfl dX11_passError_15 ?_
  refine nv_bipush (k := 40) hx hb dX11_passError_18 (by decide) ?_
  refine ro_V S (c_X1_quad (PK_of (ws := (cW cy ad eb es mb mz tp os bits F G u nb ns T M id ft fo g dq ++ tl) ++ dy) (kb := 1) (ka := 2) (N := 1600) rfl rfl (by omega) (by omega)) (a := 40) (by omega)) kw3_195 yv_X1_quad ⟨Nat.le_of_ble_eq_true rfl, Nat.le_of_ble_eq_true rfl⟩ hK hP (va_recv hK hP (ci := 2) (q0 := 1) rfl rfl) rfl hl.1 rfl (Nat.le_of_ble_eq_true rfl) dX11_passError_20 ⟨(Nat.zero_le _), (Nat.zero_le _)⟩ ?_
  have hq20 := tg_qd_lt ft tp 40
  refine ro_V S (c_X5_numberOf hPL (x := tg_qd (tg_rd ft tp) 40) (tg_qd_lt _ _ _)) kw3_196 yv_X5_numberOf ⟨Nat.le_of_ble_eq_true rfl, Nat.le_of_ble_eq_true rfl⟩ hK hP (va_recv hK hP (ci := 4) (q0 := 6) rfl rfl) rfl hl.1 rfl (Nat.le_of_ble_eq_true rfl) dX11_passError_23 ⟨(Nat.zero_le _), (Nat.zero_le _)⟩ ?_
  rw [(num_is her.2.2).1, ← enum]
  refine lv_istore_n (lv' := [(2, .int (nI num)), (1, .int (nI q)), (0, .ref (ad 0))]) hx hb dX11_passError_26 rfl hl (by decide) rfl (fun ls hl => ?_)
  refine lv_aload_n hx hb dX11_passError_27 rfl (lv_at hl 2 rfl) ?_
  refine va_get (ci := 8) (C := RX11) (T := TX11) (N := 8) hx hb ht iFX11 hown hK hP 0 rfl rfl 0 (by decide) (ht _ kw1_123) (fun _ h9 => h9) rfl dX11_passError_28 ?_
  refine nv_bipush (k := 48) hx hb dX11_passError_31 (by decide) ?_
  refine lv_iload_n hx hb dX11_passError_33 rfl (lv_at hl 1 rfl) ?_
  refine ro_S S (c_X4_sourcePort (PK_of (ws := (cW cy ad eb es mb mz tp os bits F G u nb ns T M id ft fo g dq ++ tl) ++ dy) (kb := 1) (ka := 2) (N := 1600) rfl rfl (by omega) (by omega)) (a := 48) (q := q) (by omega) (by omega)) kw3_197 yv_X4_sourcePort ⟨Nat.le_of_ble_eq_true rfl, Nat.le_of_ble_eq_true rfl⟩ hK hP rfl hl.1 rfl (Nat.le_of_ble_eq_true rfl) dX11_passError_34 ⟨(Nat.zero_le _), (Nat.zero_le _)⟩ ?_
  have hq34 := tg_pr_lt ft tp (48 + tg_spa q)
  rw [← eport]
  refine lv_istore_n (lv' := [(3, .int (nI port)), (2, .int (nI num)), (1, .int (nI q)), (0, .ref (ad 0))]) hx hb dX11_passError_37 rfl hl (by decide) rfl (fun ls hl => ?_)
  refine lv_aload_n hx hb dX11_passError_38 rfl (lv_at hl 3 rfl) ?_
  refine va_get (ci := 8) (C := RX11) (T := TX11) (N := 8) hx hb ht iFX11 hown hK hP 0 rfl rfl 4 (by decide) (ht _ kw1_127) (fun _ h9 => h9) rfl dX11_passError_39 ?_
  refine lv_iload_n hx hb dX11_passError_42 rfl (lv_at hl 2 rfl) ?_
  refine lv_iload_n hx hb dX11_passError_43 rfl (lv_at hl 1 rfl) ?_
  refine lv_iload_n hx hb dX11_passError_44 rfl (lv_at hl 0 rfl) ?_
  refine ro_V S (c_X10_byOuter hT hLb hB hb_pt hb_ih hb_il hb_ip hb_pn hb_op (q9 := q) (num := num) (v := port) (by omega) (by omega) (by omega)) kw3_198 yv_X10_byOuter ⟨Nat.le_of_ble_eq_true rfl, Nat.le_of_ble_eq_true rfl⟩ hK hP (va_recv hK hP (ci := 7) (q0 := 8) rfl rfl) rfl hl.1 rfl (Nat.le_of_ble_eq_true rfl) dX11_passError_45 ⟨(Nat.zero_le _), (Nat.zero_le _)⟩ ?_
  have eX : tg_at ba (fun k => decide (pt k = q ∧ pn k = num ∧ op k = port)) nb = some (ba b) := by rw [tg_at, hfb, if_pos hb9]
  rw [eX]
  refine W.eq (g2 := F0 m 48 ls [.ref (ba b)]) rfl ?_
  refine lv_astore (lv' := [(4, .ref (ba b)), (3, .int (nI port)), (2, .int (nI num)), (1, .int (nI q)), (0, .ref (ad 0))]) hx hb dX11_passError_48 hl (by decide) rfl (fun ls hl => ?_)
  refine lv_aload hx hb dX11_passError_50 (lv_at hl 0 rfl) ?_
  refine lv_ifnonnull (tgt := 58) hx hb dX11_passError_52 (by decide) ?_
  refine lv_aload_n hx hb dX11_passError_58 rfl (lv_at hl 4 rfl) ?_
  refine va_get (ci := 8) (C := RX11) (T := TX11) (N := 8) hx hb ht iFX11 hown hK hP 0 rfl rfl 0 (by decide) (ht _ kw1_123) (fun _ h9 => h9) rfl dX11_passError_59 ?_
  refine lv_aload_n hx hb dX11_passError_62 rfl (lv_at hl 4 rfl) ?_
  refine va_get (ci := 8) (C := RX11) (T := TX11) (N := 8) hx hb ht iFX11 hown hK hP 0 rfl rfl 1 (by decide) (ht _ kw1_124) (fun _ h9 => h9) rfl dX11_passError_63 ?_
  refine lv_aload hx hb dX11_passError_66 (lv_at hl 0 rfl) ?_
  refine lv_aload_n hx hb dX11_passError_68 rfl (lv_at hl 4 rfl) ?_
  refine va_get (ci := 8) (C := RX11) (T := TX11) (N := 8) hx hb ht iFX11 hown hK hP 0 rfl rfl 2 (by decide) (ht _ kw1_125) (fun _ h9 => h9) rfl dX11_passError_69 ?_
  obtain ⟨kw9, hkw⟩ := hDY.1.at (i := b) hb9
  refine wr_S S (c_X3_errorToSix (ws := (cW cy ad eb es mb mz tp os bits F G u nb ns T M id ft fo g dq ++ tl) ++ dy) (kb := 3) (ka := 4) rfl rfl (by omega) (by omega) (ki := 1) (kai := 2) rfl rfl (by omega) (by omega) (by decide) (by decide) (by decide) (by decide) (app_r hkw) (by rw [hptb]; exact hq3) (hb_ih b) (hb_il b) hip9 (hb_op b) (cw_ne (by decide)) (cw_ne (by decide)) (ks := 5) rfl hsi (by decide) (by decide) (by omega) (by omega) hou.1.2.2.2) kw3_199 yv_X3_errorToSix ⟨Nat.le_of_ble_eq_true rfl, Nat.le_of_ble_eq_true rfl⟩ hK hP hD hS hA rfl hl.1 rfl (Nat.le_of_ble_eq_true rfl) dX11_passError_72 ⟨(Nat.zero_le _), (Nat.zero_le _)⟩ (fun g72 H locs hg72 hP hD hS => ?_)
  have hP : va_P D vwCl ((cW cy ad eb es mb mz tp (min (tp + 40) 1280) bits F G u nb ns T M id ft g72 g dq ++ tl) ++ dy) H := hP
  have hD : va_D A ((cW cy ad eb es mb mz tp (min (tp + 40) 1280) bits F G u nb ns T M id ft g72 g dq ++ tl) ++ dy) := hD
  refine W.eq (g2 := F0 m 75 ls []) rfl ?_
  refine lv_aload_n hx hb dX11_passError_75 rfl (lv_at hl 4 rfl) ?_
  refine va_get (ci := 8) (C := RX11) (T := TX11) (N := 8) hx hb ht iFX11 hown hK hP 0 rfl rfl 0 (by decide) (ht _ kw1_123) (fun _ h9 => h9) rfl dX11_passError_76 ?_
  refine lv_aload_n hx hb dX11_passError_79 rfl (lv_at hl 4 rfl) ?_
  refine va_get (ci := 8) (C := RX11) (T := TX11) (N := 8) hx hb ht iFX11 hown hK hP 0 rfl rfl 1 (by decide) (ht _ kw1_124) (fun _ h9 => h9) rfl dX11_passError_80 ?_
  refine lv_aload hx hb dX11_passError_83 (lv_at hl 0 rfl) ?_
  refine lv_aload_n hx hb dX11_passError_85 rfl (lv_at hl 4 rfl) ?_
  refine va_get (ci := 8) (C := RX11) (T := TX11) (N := 8) hx hb ht iFX11 hown hK hP 0 rfl rfl 2 (by decide) (ht _ kw1_125) (fun _ h9 => h9) rfl dX11_passError_86 ?_
  refine wr_S S (c_X3_withinToSix (ws := (cW cy ad eb es mb mz tp (min (tp + 40) 1280) bits F G u nb ns T M id ft g72 g dq ++ tl) ++ dy) (kb := 3) (ka := 4) rfl rfl (by omega) (by omega) (ki := 1) (kai := 2) rfl rfl (by omega) (by omega) (by decide) (by decide) (by decide) (by decide) (app_r hkw) (by rw [hptb]; exact hq3) (hb_ih b) (hb_il b) hip9 (hb_op b) (cw_ne (by decide)) (cw_ne (by decide)) (ks := 5) rfl hsi (by decide) (by decide) (by omega) (by omega) (by omega)) kw3_226 yv_X3_withinToSix ⟨Nat.le_of_ble_eq_true rfl, Nat.le_of_ble_eq_true rfl⟩ hK hP hD hS hA rfl hl.1 rfl (Nat.le_of_ble_eq_true rfl) dX11_passError_89 ⟨(Nat.zero_le _), (Nat.zero_le _)⟩ (fun g89 H locs hg89 hP hD hS => ?_)
  have hP : va_P D vwCl ((cW cy ad eb es mb mz tp (min (tp + 40) 1280) bits F G u nb ns T M id ft g89 g dq ++ tl) ++ dy) H := hP
  have hD : va_D A ((cW cy ad eb es mb mz tp (min (tp + 40) 1280) bits F G u nb ns T M id ft g89 g dq ++ tl) ++ dy) := hD
  refine W.eq (g2 := F0 m 92 ls []) rfl ?_
  refine lv_aload_n hx hb dX11_passError_92 rfl (lv_at hl 4 rfl) ?_
  refine va_get (ci := 8) (C := RX11) (T := TX11) (N := 8) hx hb ht iFX11 hown hK hP 0 rfl rfl 1 (by decide) (ht _ kw1_124) (fun _ h9 => h9) rfl dX11_passError_93 ?_
  refine nv_bipush (k := 40) hx hb dX11_passError_96 (by decide) ?_
  rw [hg89, hg72] at hP hD
  rw [hptb] at hP hD
  have hP : va_P D vwCl ((cW cy ad eb es mb mz tp (min (tp + 40) 1280) bits F G u nb ns T M id ft (tg_wi (tg_er1 fo ft tp (ih b) (il b) bits F G) ft tp (min (tp + 40) 1280) q (ip b) (ih b) (il b) bits F G) g dq ++ tl) ++ dy) H := hP
  have hD : va_D A ((cW cy ad eb es mb mz tp (min (tp + 40) 1280) bits F G u nb ns T M id ft (tg_wi (tg_er1 fo ft tp (ih b) (il b) bits F G) ft tp (min (tp + 40) 1280) q (ip b) (ih b) (il b) bits F G) g dq ++ tl) ++ dy) := hD
  refine wr_S S (c_X9_putPart (ws := (cW cy ad eb es mb mz tp (min (tp + 40) 1280) bits F G u nb ns T M id ft (tg_wi (tg_er1 fo ft tp (ih b) (il b) bits F G) ft tp (min (tp + 40) 1280) q (ip b) (ih b) (il b) bits F G) g dq ++ tl) ++ dy) (kb := 3) (ka := 4) rfl rfl (by omega) (by omega) (hd := 40) (q := 58) (Or.inr rfl) (err_proto (by omega)) (by show 40 + 2 + 2 ≤ _; omega)) kw3_229 yv_X9_putPart ⟨Nat.le_of_ble_eq_true rfl, Nat.le_of_ble_eq_true rfl⟩ hK hP hD hS hA rfl hl.1 rfl (Nat.le_of_ble_eq_true rfl) dX11_passError_98 ⟨(Nat.zero_le _), (Nat.zero_le _)⟩ (fun g98 H locs hg98 hP hD hS => ?_)
  have hP : va_P D vwCl ((cW cy ad eb es mb mz tp (min (tp + 40) 1280) bits F G u nb ns T M id ft g98 g dq ++ tl) ++ dy) H := hP
  have hD : va_D A ((cW cy ad eb es mb mz tp (min (tp + 40) 1280) bits F G u nb ns T M id ft g98 g dq ++ tl) ++ dy) := hD
  refine W.eq (g2 := F0 m 101 ls []) rfl ?_
  refine nv_iconst (k := 0) hx hb dX11_passError_101 rfl ?_
  rw [hg98] at hP hD
  exact hend () rfl trivial hP hD hS dX11_passError_102
set_option maxHeartbeats 4000000 in
set_option maxRecDepth 100000 in
theorem c_X11_passFromOutside1 {l : Launch} {D : va_G} {cy : Nat → ClassId} {ad : Nat → Nat} {tl dy : va_W} {eb es tp os bits F G u nb ns T M id : Nat} {mb mz : Int32} {ft fo : Nat → UInt8} {g : Nat → Int32} {dq ba sa pt ih il ip pn op so fa fp st en : Nat → Nat} {e0 : Nat × Nat} (htp : tp ≤ 1600) (hos : os ≤ 1620) (hsi : SI bits F G) (hu4 : u ≤ 4) (hDY : DY cy e0.1 dy eb es nb ns ba sa pt ih il ip pn op so fa fp st en) (hb_pt : ∀ i, pt i < 2 ^ 31) (hb_ih : ∀ i, ih i < 2 ^ 64) (hb_il : ∀ i, il i < 2 ^ 64) (hb_ip : ∀ i, ip i < 2 ^ 31) (hb_pn : ∀ i, pn i < 2 ^ 31) (hb_op : ∀ i, op i < 2 ^ 31) (hb_fa : ∀ i, fa i < 2 ^ 32) (hb_fp : ∀ i, fp i < 2 ^ 31) (hb_st : ∀ i, st i ≤ 7) (hb_en : ∀ i, en i < 2 ^ 62) {q port far fpt ev num : Nat} (eq0 : q = tg_rd ft tp 9) (eport : port = tg_pr (tg_rd ft tp) (20 + tg_dpa q)) (efar : far = tg_qd (tg_rd ft tp) 12) (efpt : fpt = if q = 1 then 0 else tg_pr (tg_rd ft tp) (20 + tg_spa q)) (eev : ev = tg_event (tg_rd ft tp) 20 q) (enum : num = tg_first (fun k => decide (g k = nI (tg_qd (tg_rd ft tp) 16))) u) (hz0 : tg_out (tg_rd ft tp) tp bits g u = 0) (herr : tg_isErr (tg_rd ft tp) = false) {b : Nat} (hb9 : b < nb) (hfb : tg_first (fun k => decide (pt k = q ∧ pn k = num ∧ op k = port)) nb = b) {j : Nat} (hj9 : j < ns) (hfj : tg_first (fun k => decide (so k = b ∧ fa k = far ∧ fp k = fpt)) ns = j) (hip9 : ip b < 65536) : WR (S := va_W) l yX11_passFromOutside cX11_passFromOutside 4 (some .int) 5 1 6 119 [.ref (ad 0)] D cy ((cW cy ad eb es mb mz tp os bits F G u nb ns T M id ft fo g dq ++ tl) ++ dy) (fun u_ => some (.int (nI 0))) (fun z9 => DY cy e0.1 z9 eb es nb ns ba sa pt ih il ip pn op so fa fp (if tg_nxt (st j) ev false = 8 then st else va_up st j (tg_nxt (st j) ev false)) (if tg_nxt (st j) ev false = 8 then en else va_up en j (T + tg_life (tg_nxt (st j) ev false) q))) (fun z9 => (cW cy ad eb es mb mz tp (40 + (tp - 20)) bits F G u nb ns T M id ft (tg_sx fo ft tp q (ip b) (ih b) (il b) bits F G) g dq ++ tl) ++ z9) := by
  refine WRi (by decide) (lv0 := [(0, .ref (ad 0))]) rfl (Nat.le_of_ble_eq_true rfl) ?_
  intro p e s m args below meth c ls A Q S hnm hP hK hD hS hA hend hl
  have hx := S.1
  have hb := S.2.1
  have hown : s.vm.findClass RX11 = some m.cls := S.2.2.2.1
  have ht : ∀ w ∈ lw_g, w.before args s = true := fun w h => S.2.2.2.2 w (List.mem_cons_of_mem _ h)
  have hP : va_P D vwCl ((cW cy ad eb es mb mz tp os bits F G u nb ns T M id ft fo g dq ++ tl) ++ dy) s.heap := hP
  have hT : ((cW cy ad eb es mb mz tp os bits F G u nb ns T M id ft fo g dq ++ tl) ++ dy)[8]? = some (tE (ad 8) (ad 9) (ad 10) T) := rfl
  have hLb : ((cW cy ad eb es mb mz tp os bits F G u nb ns T M id ft fo g dq ++ tl) ++ dy)[9]? = some (aL (ad 9) mb eb nb) := rfl
  have hLs : ((cW cy ad eb es mb mz tp os bits F G u nb ns T M id ft fo g dq ++ tl) ++ dy)[10]? = some (aL (ad 10) mz es ns) := rfl
  have hB : TB1 cy ((cW cy ad eb es mb mz tp os bits F G u nb ns T M id ft fo g dq ++ tl) ++ dy) e0.1 eb nb ba pt ih il ip pn op := hDY.1.app
  have hS1 : TS1 cy ((cW cy ad eb es mb mz tp os bits F G u nb ns T M id ft fo g dq ++ tl) ++ dy) e0.1 es ns nb ba sa so fa fp st en := hDY.2.1.app
  have hST : STP ((cW cy ad eb es mb mz tp os bits F G u nb ns T M id ft fo g dq ++ tl) ++ dy) (ad 5) bits F G := STP_of (ks := 5) rfl hsi
  have hPL : PLP cy ((cW cy ad eb es mb mz tp os bits F G u nb ns T M id ft fo g dq ++ tl) ++ dy) (ad 6) g u := PLP_of (kp := 6) (kq := 7) rfl rfl hu4
  have hnb := hB.le
  have hns := hS1.le
  have hou := out0 hz0
  have hnu : num < u := by rw [enum]; exact (num_is hou.2.2.1).2
  have hq3 : q = 1 ∨ q = 6 ∨ q = 17 := by rw [eq0]; exact hou.1.2.1
  have hq : q < 256 := by omega
  have hport : port < 65536 := by rw [eport]; exact tg_pr_lt _ _ _
  have hfar : far < 2 ^ 32 := by rw [efar]; exact tg_qd_lt _ _ _
  have hfpt : fpt < 65536 := by rw [efpt]; split; omega; exact tg_pr_lt _ _ _
  have hev : ev ≤ 3 := by rw [eev]; exact tg_event_le _ _ _
  have hsum : tg_sumAt (tg_nx q) + 2 ≤ tp - 20 := by have h6 : q = 6 → 20 ≤ tp - 20 := (by rw [eq0]; exact hou.1.2.2.1); have h8 := hou.1.1; unfold tg_nx tg_sumAt; (repeat' split) <;> omega
  have hnum : num < 2 ^ 31 := by omega
  have hptb : pt b = q := by have h9 := tg_first_is (q := (fun k => decide (pt k = q ∧ pn k = num ∧ op k = port))) (n := nb) (by rw [hfb]; exact hb9); rw [hfb] at h9; exact (of_decide_eq_true h9).1
  refine lv_aload_n hx hb dX11_passFromOutside_0 rfl (lv_at hl 0 rfl) ?_
  refine va_get (ci := 8) (C := RX11) (T := TX11) (N := 8) hx hb ht iFX11 hown hK hP 0 rfl rfl 0 (by decide) (ht _ kw1_123) (fun _ h9 => h9) rfl dX11_passFromOutside_1 ?_
  refine lv_aload_n hx hb dX11_passFromOutside_4 rfl (lv_at hl 0 rfl) ?_
  refine va_get (ci := 8) (C := RX11) (T := TX11) (N := 8) hx hb ht iFX11 hown hK hP 0 rfl rfl 2 (by decide) (ht _ kw1_125) (fun _ h9 => h9) rfl dX11_passFromOutside_5 ?_
  refine lv_aload_n hx hb dX11_passFromOutside_8 rfl (lv_at hl 0 rfl) ?_
  refine va_get (ci := 8) (C := RX11) (T := TX11) (N := 8) hx hb ht iFX11 hown hK hP 0 rfl rfl 3 (by decide) (ht _ kw1_126) (fun _ h9 => h9) rfl dX11_passFromOutside_9 ?_
  refine ro_S S (c_X6_faultFromOutside (PK_of (ws := (cW cy ad eb es mb mz tp os bits F G u nb ns T M id ft fo g dq ++ tl) ++ dy) (kb := 1) (ka := 2) (N := 1600) rfl rfl (by omega) (by omega)) hST hPL) kw3_158 yv_X6_faultFromOutside ⟨Nat.le_of_ble_eq_true rfl, Nat.le_of_ble_eq_true rfl⟩ hK hP rfl hl.1 rfl (Nat.le_of_ble_eq_true rfl) dX11_passFromOutside_12 ⟨(by show _ ≤ 1; omega), (by show _ ≤ 6; omega)⟩ ?_
  rw [hz0]
  refine lv_istore_n (lv' := [(1, .int (nI 0)), (0, .ref (ad 0))]) hx hb dX11_passFromOutside_15 rfl hl (by decide) rfl (fun ls hl => ?_)
  refine lv_iload_n hx hb dX11_passFromOutside_16 rfl (lv_at hl 0 rfl) ?_
  refine nv_if_eq (tgt := 22) hx hb dX11_passFromOutside_17 (by decide) (by omega) (fun _ => ?_) (fun h => absurd h (by decide))
  refine lv_aload_n hx hb dX11_passFromOutside_22 rfl (lv_at hl 1 rfl) ?_
  refine va_get (ci := 8) (C := RX11) (T := TX11) (N := 8) hx hb ht iFX11 hown hK hP 0 rfl rfl 0 (by decide) (ht _ kw1_123) (fun _ h9 => h9) rfl dX11_passFromOutside_23 ?_
  refine ro_S S (c_X4_isError (PK_of (ws := (cW cy ad eb es mb mz tp os bits F G u nb ns T M id ft fo g dq ++ tl) ++ dy) (kb := 1) (ka := 2) (N := 1600) rfl rfl (by omega) (by omega))) kw3_189 yv_X4_isError ⟨Nat.le_of_ble_eq_true rfl, Nat.le_of_ble_eq_true rfl⟩ hK hP rfl hl.1 rfl (Nat.le_of_ble_eq_true rfl) dX11_passFromOutside_26 ⟨(by show _ ≤ 1; omega), (by show _ ≤ 6; omega)⟩ ?_
  rw [herr]
  refine nv_if_eqb (tgt := 37) hx hb dX11_passFromOutside_29 (by decide) (fun _ => ?_) (fun h => absurd h (by decide))
  refine lv_aload_n hx hb dX11_passFromOutside_37 rfl (lv_at hl 1 rfl) ?_
  refine va_get (ci := 8) (C := RX11) (T := TX11) (N := 8) hx hb ht iFX11 hown hK hP 0 rfl rfl 0 (by decide) (ht _ kw1_123) (fun _ h9 => h9) rfl dX11_passFromOutside_38 ?_
  refine wr_S S (c_X2_fromOutside (PK_of (ws := (cW cy ad eb es mb mz tp os bits F G u nb ns T M id ft fo g dq ++ tl) ++ dy) (kb := 1) (ka := 2) (N := 1600) rfl rfl (by omega) (by omega))) kw3_230 yv_X2_fromOutside ⟨Nat.le_of_ble_eq_true rfl, Nat.le_of_ble_eq_true rfl⟩ hK hP hD hS hA rfl hl.1 rfl (Nat.le_of_ble_eq_true rfl) dX11_passFromOutside_41 ⟨(by show _ ≤ 1; omega), (by show _ ≤ 6; omega)⟩ (fun fl H locs hfl hP hD hS => ?_)
  rw [List.append_assoc, ← eq0, ← eport, ← efar, ← efpt, ← eev] at hP hD
  have hP : va_P D vwCl ((cW cy ad eb es mb mz tp os bits F G u nb ns T M id ft fo g dq ++ tl) ++ (dy ++ [fE fl false q port far fpt ev])) H := hP
  have hD : va_D A ((cW cy ad eb es mb mz tp os bits F G u nb ns T M id ft fo g dq ++ tl) ++ (dy ++ [fE fl false q port far fpt ev])) := hD
  obtain ⟨kf, hkf⟩ : ∃ z, z = dy.length := ⟨_, rfl⟩
  have hfd : (dy ++ [fE fl false q port far fpt ev])[kf]? = some (fE fl false q port far fpt ev) := by rw [hkf]; exact app_e
  have hDYf : DY cy e0.1 (dy ++ [fE fl false q port far fpt ev]) eb es nb ns ba sa pt ih il ip pn op so fa fp st en := hDY.ext
  have hT : ((cW cy ad eb es mb mz tp os bits F G u nb ns T M id ft fo g dq ++ tl) ++ (dy ++ [fE fl false q port far fpt ev]))[8]? = some (tE (ad 8) (ad 9) (ad 10) T) := rfl
  have hLb : ((cW cy ad eb es mb mz tp os bits F G u nb ns T M id ft fo g dq ++ tl) ++ (dy ++ [fE fl false q port far fpt ev]))[9]? = some (aL (ad 9) mb eb nb) := rfl
  have hLs : ((cW cy ad eb es mb mz tp os bits F G u nb ns T M id ft fo g dq ++ tl) ++ (dy ++ [fE fl false q port far fpt ev]))[10]? = some (aL (ad 10) mz es ns) := rfl
  have hB : TB1 cy ((cW cy ad eb es mb mz tp os bits F G u nb ns T M id ft fo g dq ++ tl) ++ (dy ++ [fE fl false q port far fpt ev])) e0.1 eb nb ba pt ih il ip pn op := hDYf.1.app
  have hS1 : TS1 cy ((cW cy ad eb es mb mz tp os bits F G u nb ns T M id ft fo g dq ++ tl) ++ (dy ++ [fE fl false q port far fpt ev])) e0.1 es ns nb ba sa so fa fp st en := hDYf.2.1.app
  have hf0 : ((cW cy ad eb es mb mz tp os bits F G u nb ns T M id ft fo g dq ++ tl) ++ (dy ++ [fE fl false q port far fpt ev]))[(cW cy ad eb es mb mz tp os bits F G u nb ns T M id ft fo g dq ++ tl).length + kf]? = some (fE fl false q port far fpt ev) := app_r hfd
  have hST : STP ((cW cy ad eb es mb mz tp os bits F G u nb ns T M id ft fo g dq ++ tl) ++ (dy ++ [fE fl false q port far fpt ev])) (ad 5) bits F G := STP_of (ks := 5) rfl hsi
  have hPL : PLP cy ((cW cy ad eb es mb mz tp os bits F G u nb ns T M id ft fo g dq ++ tl) ++ (dy ++ [fE fl false q port far fpt ev])) (ad 6) g u := PLP_of (kp := 6) (kq := 7) rfl rfl hu4
  refine W.eq (g2 := F0 m 44 ls [.ref fl]) rfl ?_
  refine lv_astore_n (lv' := [(2, .ref fl), (1, .int (nI 0)), (0, .ref (ad 0))]) hx hb dX11_passFromOutside_44 rfl hl (by decide) rfl (fun ls hl => ?_)
  refine lv_aload_n hx hb dX11_passFromOutside_45 rfl (lv_at hl 2 rfl) ?_
  refine va_get (ci := 8) (C := RX11) (T := TX11) (N := 8) hx hb ht iFX11 hown hK hP 0 rfl rfl 4 (by decide) (ht _ kw1_127) (fun _ h9 => h9) rfl dX11_passFromOutside_46 ?_
  refine lv_aload_n hx hb dX11_passFromOutside_49 rfl (lv_at hl 0 rfl) ?_
  refine lv_aload_n hx hb dX11_passFromOutside_50 rfl (lv_at hl 2 rfl) ?_
  refine va_get (ci := 8) (C := RX11) (T := TX11) (N := 8) hx hb ht iFX11 hown hK hP 0 rfl rfl 3 (by decide) (ht _ kw1_126) (fun _ h9 => h9) rfl dX11_passFromOutside_51 ?_
  refine lv_aload_n hx hb dX11_passFromOutside_54 rfl (lv_at hl 2 rfl) ?_
  refine va_get (ci := 8) (C := RX11) (T := TX11) (N := 8) hx hb ht iFX11 hown hK hP 0 rfl rfl 0 (by decide) (ht _ kw1_123) (fun _ h9 => h9) rfl dX11_passFromOutside_55 ?_
  refine nv_bipush (k := 16) hx hb dX11_passFromOutside_58 (by decide) ?_
  refine ro_V S (c_X1_quad (PK_of (ws := (cW cy ad eb es mb mz tp os bits F G u nb ns T M id ft fo g dq ++ tl) ++ (dy ++ [fE fl false q port far fpt ev])) (kb := 1) (ka := 2) (N := 1600) rfl rfl (by omega) (by omega)) (a := 16) (by omega)) kw3_195 yv_X1_quad ⟨Nat.le_of_ble_eq_true rfl, Nat.le_of_ble_eq_true rfl⟩ hK hP (va_recv hK hP (ci := 2) (q0 := 1) rfl rfl) rfl hl.1 rfl (Nat.le_of_ble_eq_true rfl) dX11_passFromOutside_60 ⟨(by show _ ≤ 1; omega), (by show _ ≤ 6; omega)⟩ ?_
  have hq60 := tg_qd_lt ft tp 16
  refine ro_V S (c_X5_numberOf hPL (x := tg_qd (tg_rd ft tp) 16) (tg_qd_lt _ _ _)) kw3_196 yv_X5_numberOf ⟨Nat.le_of_ble_eq_true rfl, Nat.le_of_ble_eq_true rfl⟩ hK hP (va_recv hK hP (ci := 4) (q0 := 6) rfl rfl) rfl hl.1 rfl (Nat.le_of_ble_eq_true rfl) dX11_passFromOutside_63 ⟨(by show _ ≤ 1; omega), (by show _ ≤ 6; omega)⟩ ?_
  rw [(num_is hou.2.2.1).1, ← enum]
  refine wr_V S (c_X10_admitFromOutside1 hDYf hb_pt hb_ih hb_il hb_ip hb_pn hb_op hb_fa hb_fp hb_st hb_en hfd hq hport hfar hfpt hev hnum hb9 hfb hj9 hfj) kw3_234 yv_X10_admitFromOutside ⟨Nat.le_of_ble_eq_true rfl, Nat.le_of_ble_eq_true rfl⟩ hK hP hD hS hA (va_recv hK hP (ci := 7) (q0 := 8) rfl rfl) rfl hl.1 rfl (Nat.le_of_ble_eq_true rfl) dX11_passFromOutside_66 ⟨(by show _ ≤ 1; omega), (by show _ ≤ 6; omega)⟩ (fun z1 H locs hz1 hP hD hS => ?_)
  have hP : va_P D vwCl ((cW cy ad eb es mb mz tp os bits F G u nb ns T M id ft fo g dq ++ tl) ++ z1) H := hP
  have hD : va_D A ((cW cy ad eb es mb mz tp os bits F G u nb ns T M id ft fo g dq ++ tl) ++ z1) := hD
  have hT : ((cW cy ad eb es mb mz tp os bits F G u nb ns T M id ft fo g dq ++ tl) ++ z1)[8]? = some (tE (ad 8) (ad 9) (ad 10) T) := rfl
  have hLb : ((cW cy ad eb es mb mz tp os bits F G u nb ns T M id ft fo g dq ++ tl) ++ z1)[9]? = some (aL (ad 9) mb eb nb) := rfl
  have hLs : ((cW cy ad eb es mb mz tp os bits F G u nb ns T M id ft fo g dq ++ tl) ++ z1)[10]? = some (aL (ad 10) mz es ns) := rfl
  have hB : TB1 cy ((cW cy ad eb es mb mz tp os bits F G u nb ns T M id ft fo g dq ++ tl) ++ z1) e0.1 eb nb ba pt ih il ip pn op := hz1.1.1.app
  have hS1 : TS1 cy ((cW cy ad eb es mb mz tp os bits F G u nb ns T M id ft fo g dq ++ tl) ++ z1) e0.1 es ns nb ba sa so fa fp (if tg_nxt (st j) ev false = 8 then st else va_up st j (tg_nxt (st j) ev false)) (if tg_nxt (st j) ev false = 8 then en else va_up en j (T + tg_life (tg_nxt (st j) ev false) q)) := hz1.1.2.1.app
  have hf0 : ((cW cy ad eb es mb mz tp os bits F G u nb ns T M id ft fo g dq ++ tl) ++ z1)[(cW cy ad eb es mb mz tp os bits F G u nb ns T M id ft fo g dq ++ tl).length + kf]? = some (fE fl false q port far fpt ev) := app_r hz1.2
  have hST : STP ((cW cy ad eb es mb mz tp os bits F G u nb ns T M id ft fo g dq ++ tl) ++ z1) (ad 5) bits F G := STP_of (ks := 5) rfl hsi
  have hPL : PLP cy ((cW cy ad eb es mb mz tp os bits F G u nb ns T M id ft fo g dq ++ tl) ++ z1) (ad 6) g u := PLP_of (kp := 6) (kq := 7) rfl rfl hu4
  obtain ⟨kw9, hkw⟩ := hz1.1.1.at (i := b) hb9
  refine W.eq (g2 := F0 m 69 ls [.ref (ba b)]) rfl ?_
  refine lv_astore_n (lv' := [(3, .ref (ba b)), (2, .ref fl), (1, .int (nI 0)), (0, .ref (ad 0))]) hx hb dX11_passFromOutside_69 rfl hl (by decide) rfl (fun ls hl => ?_)
  refine lv_aload_n hx hb dX11_passFromOutside_70 rfl (lv_at hl 0 rfl) ?_
  refine lv_ifnonnull (tgt := 77) hx hb dX11_passFromOutside_71 (by decide) ?_
  refine lv_aload_n hx hb dX11_passFromOutside_77 rfl (lv_at hl 3 rfl) ?_
  refine va_get (ci := 8) (C := RX11) (T := TX11) (N := 8) hx hb ht iFX11 hown hK hP 0 rfl rfl 0 (by decide) (ht _ kw1_123) (fun _ h9 => h9) rfl dX11_passFromOutside_78 ?_
  refine lv_aload_n hx hb dX11_passFromOutside_81 rfl (lv_at hl 3 rfl) ?_
  refine va_get (ci := 8) (C := RX11) (T := TX11) (N := 8) hx hb ht iFX11 hown hK hP 0 rfl rfl 1 (by decide) (ht _ kw1_124) (fun _ h9 => h9) rfl dX11_passFromOutside_82 ?_
  refine lv_aload_n hx hb dX11_passFromOutside_85 rfl (lv_at hl 0 rfl) ?_
  refine lv_aload_n hx hb dX11_passFromOutside_86 rfl (lv_at hl 3 rfl) ?_
  refine va_get (ci := 8) (C := RX11) (T := TX11) (N := 8) hx hb ht iFX11 hown hK hP 0 rfl rfl 2 (by decide) (ht _ kw1_125) (fun _ h9 => h9) rfl dX11_passFromOutside_87 ?_
  refine wr_S S (c_X3_toSix (ws := (cW cy ad eb es mb mz tp os bits F G u nb ns T M id ft fo g dq ++ tl) ++ z1) (kb := 3) (ka := 4) rfl rfl (by omega) (by omega) (ki := 1) (kai := 2) rfl rfl (by omega) (by omega) (by decide) (by decide) (by decide) (by decide) (app_r hkw) (by rw [hptb]; exact hq3) (hb_ih b) (hb_il b) hip9 (hb_op b) (cw_ne (by decide)) (cw_ne (by decide)) (ks := 5) rfl hsi (by decide) (by decide) (by omega) (by omega) (by rw [hptb]; exact hsum) (by omega) hou.1.2.2.2) kw3_238 yv_X3_toSix ⟨Nat.le_of_ble_eq_true rfl, Nat.le_of_ble_eq_true rfl⟩ hK hP hD hS hA rfl hl.1 rfl (Nat.le_of_ble_eq_true rfl) dX11_passFromOutside_90 ⟨(by show _ ≤ 1; omega), (by show _ ≤ 6; omega)⟩ (fun g90 H locs hg90 hP hD hS => ?_)
  have hP : va_P D vwCl ((cW cy ad eb es mb mz tp (40 + (tp - 20)) bits F G u nb ns T M id ft g90 g dq ++ tl) ++ z1) H := hP
  have hD : va_D A ((cW cy ad eb es mb mz tp (40 + (tp - 20)) bits F G u nb ns T M id ft g90 g dq ++ tl) ++ z1) := hD
  refine W.eq (g2 := F0 m 93 ls []) rfl ?_
  refine nv_iconst (k := 0) hx hb dX11_passFromOutside_93 rfl ?_
  rw [hg90, hptb] at hP hD
  refine W.widen (k := 1) (n := 6) (by omega) (by omega) ?_
  exact hend z1 rfl hz1.1 hP hD hS dX11_passFromOutside_94
set_option maxHeartbeats 4000000 in
set_option maxRecDepth 100000 in
theorem c_X11_passFromOutside2 {l : Launch} {D : va_G} {cy : Nat → ClassId} {e0 : Nat × Nat} {ad : Nat → Nat} {tl dy : va_W} {eb es tp os bits F G u nb ns T M id : Nat} {mb mz : Int32} {ft fo : Nat → UInt8} {g : Nat → Int32} {dq ba sa pt ih il ip pn op so fa fp st en : Nat → Nat} (htp : tp ≤ 1600) (hos : os ≤ 1620) (hsi : SI bits F G) (hu4 : u ≤ 4) (hDY : DY cy e0.1 dy eb es nb ns ba sa pt ih il ip pn op so fa fp st en) (hb_pt : ∀ i, pt i < 2 ^ 31) (hb_ih : ∀ i, ih i < 2 ^ 64) (hb_il : ∀ i, il i < 2 ^ 64) (hb_ip : ∀ i, ip i < 2 ^ 31) (hb_pn : ∀ i, pn i < 2 ^ 31) (hb_op : ∀ i, op i < 2 ^ 31) (hb_fa : ∀ i, fa i < 2 ^ 32) (hb_fp : ∀ i, fp i < 2 ^ 31) (hb_st : ∀ i, st i ≤ 7) (hb_en : ∀ i, en i < 2 ^ 62) {q port far fpt ev num : Nat} (eq0 : q = tg_rd ft tp 9) (eport : port = tg_pr (tg_rd ft tp) (20 + tg_dpa q)) (efar : far = tg_qd (tg_rd ft tp) 12) (efpt : fpt = if q = 1 then 0 else tg_pr (tg_rd ft tp) (20 + tg_spa q)) (eev : ev = tg_event (tg_rd ft tp) 20 q) (enum : num = tg_first (fun k => decide (g k = nI (tg_qd (tg_rd ft tp) 16))) u) (hz0 : tg_out (tg_rd ft tp) tp bits g u = 0) (herr : tg_isErr (tg_rd ft tp) = false) {b : Nat} (hb9 : b < nb) (hfb : tg_first (fun k => decide (pt k = q ∧ pn k = num ∧ op k = port)) nb = b) (hfj : ¬ tg_first (fun k => decide (so k = b ∧ fa k = far ∧ fp k = fpt)) ns < ns) (hmay : (q ≠ 6 ∨ ev = 2) ∧ ns < 128) (hip9 : ip b < 65536) : WRX (S := (Nat × Nat × va_W)) l yX11_passFromOutside cX11_passFromOutside 4 (some .int) 8 3 311 184 [.ref (ad 0)] D cy e0 ((cW cy ad eb es mb mz tp os bits F G u nb ns T M id ft fo g dq ++ tl) ++ dy) (fun u_ => some (.int (nI 0))) (fun z9 => DY cy e0.1 z9.2.2 eb z9.2.1 nb (ns + 1) ba (va_up sa ns z9.1) pt ih il ip pn op (va_up so ns b) (va_up fa ns far) (va_up fp ns fpt) (va_up st ns (tg_first_st q false)) (va_up en ns (T + tg_life (tg_first_st q false) q))) (fun z9 => (cW cy ad eb z9.2.1 mb (mz + nI 1) tp (40 + (tp - 20)) bits F G u nb (ns + 1) T M id ft (tg_sx fo ft tp q (ip b) (ih b) (il b) bits F G) g dq ++ tl) ++ z9.2.2) := by
  refine WRXi (by decide) (lv0 := [(0, .ref (ad 0))]) rfl (Nat.le_of_ble_eq_true rfl) ?_
  intro p e s m args below meth c ls A Q S hnm hP hK hD hS hA hE hend hl
  have hx := S.1
  have hb := S.2.1
  have hown : s.vm.findClass RX11 = some m.cls := S.2.2.2.1
  have ht : ∀ w ∈ lw_g, w.before args s = true := fun w h => S.2.2.2.2 w (List.mem_cons_of_mem _ h)
  have hP : va_P D vwCl ((cW cy ad eb es mb mz tp os bits F G u nb ns T M id ft fo g dq ++ tl) ++ dy) s.heap := hP
  have hT : ((cW cy ad eb es mb mz tp os bits F G u nb ns T M id ft fo g dq ++ tl) ++ dy)[8]? = some (tE (ad 8) (ad 9) (ad 10) T) := rfl
  have hLb : ((cW cy ad eb es mb mz tp os bits F G u nb ns T M id ft fo g dq ++ tl) ++ dy)[9]? = some (aL (ad 9) mb eb nb) := rfl
  have hLs : ((cW cy ad eb es mb mz tp os bits F G u nb ns T M id ft fo g dq ++ tl) ++ dy)[10]? = some (aL (ad 10) mz es ns) := rfl
  have hB : TB1 cy ((cW cy ad eb es mb mz tp os bits F G u nb ns T M id ft fo g dq ++ tl) ++ dy) e0.1 eb nb ba pt ih il ip pn op := hDY.1.app
  have hS1 : TS1 cy ((cW cy ad eb es mb mz tp os bits F G u nb ns T M id ft fo g dq ++ tl) ++ dy) e0.1 es ns nb ba sa so fa fp st en := hDY.2.1.app
  have hST : STP ((cW cy ad eb es mb mz tp os bits F G u nb ns T M id ft fo g dq ++ tl) ++ dy) (ad 5) bits F G := STP_of (ks := 5) rfl hsi
  have hPL : PLP cy ((cW cy ad eb es mb mz tp os bits F G u nb ns T M id ft fo g dq ++ tl) ++ dy) (ad 6) g u := PLP_of (kp := 6) (kq := 7) rfl rfl hu4
  have hnb := hB.le
  have hns := hS1.le
  have hou := out0 hz0
  have hnu : num < u := by rw [enum]; exact (num_is hou.2.2.1).2
  have hq3 : q = 1 ∨ q = 6 ∨ q = 17 := by rw [eq0]; exact hou.1.2.1
  have hq : q < 256 := by omega
  have hport : port < 65536 := by rw [eport]; exact tg_pr_lt _ _ _
  have hfar : far < 2 ^ 32 := by rw [efar]; exact tg_qd_lt _ _ _
  have hfpt : fpt < 65536 := by rw [efpt]; split; omega; exact tg_pr_lt _ _ _
  have hev : ev ≤ 3 := by rw [eev]; exact tg_event_le _ _ _
  have hsum : tg_sumAt (tg_nx q) + 2 ≤ tp - 20 := by have h6 : q = 6 → 20 ≤ tp - 20 := (by rw [eq0]; exact hou.1.2.2.1); have h8 := hou.1.1; unfold tg_nx tg_sumAt; (repeat' split) <;> omega
  have hnum : num < 2 ^ 31 := by omega
  have hptb : pt b = q := by have h9 := tg_first_is (q := (fun k => decide (pt k = q ∧ pn k = num ∧ op k = port))) (n := nb) (by rw [hfb]; exact hb9); rw [hfb] at h9; exact (of_decide_eq_true h9).1
  refine lv_aload_n hx hb dX11_passFromOutside_0 rfl (lv_at hl 0 rfl) ?_
  refine va_get (ci := 8) (C := RX11) (T := TX11) (N := 8) hx hb ht iFX11 hown hK hP 0 rfl rfl 0 (by decide) (ht _ kw1_123) (fun _ h9 => h9) rfl dX11_passFromOutside_1 ?_
  refine lv_aload_n hx hb dX11_passFromOutside_4 rfl (lv_at hl 0 rfl) ?_
  refine va_get (ci := 8) (C := RX11) (T := TX11) (N := 8) hx hb ht iFX11 hown hK hP 0 rfl rfl 2 (by decide) (ht _ kw1_125) (fun _ h9 => h9) rfl dX11_passFromOutside_5 ?_
  refine lv_aload_n hx hb dX11_passFromOutside_8 rfl (lv_at hl 0 rfl) ?_
  refine va_get (ci := 8) (C := RX11) (T := TX11) (N := 8) hx hb ht iFX11 hown hK hP 0 rfl rfl 3 (by decide) (ht _ kw1_126) (fun _ h9 => h9) rfl dX11_passFromOutside_9 ?_
  refine ro_S S (c_X6_faultFromOutside (PK_of (ws := (cW cy ad eb es mb mz tp os bits F G u nb ns T M id ft fo g dq ++ tl) ++ dy) (kb := 1) (ka := 2) (N := 1600) rfl rfl (by omega) (by omega)) hST hPL) kw3_158 yv_X6_faultFromOutside ⟨Nat.le_of_ble_eq_true rfl, Nat.le_of_ble_eq_true rfl⟩ hK hP rfl hl.1 rfl (Nat.le_of_ble_eq_true rfl) dX11_passFromOutside_12 ⟨(by show _ ≤ 3; omega), (by show _ ≤ 311; omega)⟩ ?_
  rw [hz0]
  refine lv_istore_n (lv' := [(1, .int (nI 0)), (0, .ref (ad 0))]) hx hb dX11_passFromOutside_15 rfl hl (by decide) rfl (fun ls hl => ?_)
  refine lv_iload_n hx hb dX11_passFromOutside_16 rfl (lv_at hl 0 rfl) ?_
  refine nv_if_eq (tgt := 22) hx hb dX11_passFromOutside_17 (by decide) (by omega) (fun _ => ?_) (fun h => absurd h (by decide))
  refine lv_aload_n hx hb dX11_passFromOutside_22 rfl (lv_at hl 1 rfl) ?_
  refine va_get (ci := 8) (C := RX11) (T := TX11) (N := 8) hx hb ht iFX11 hown hK hP 0 rfl rfl 0 (by decide) (ht _ kw1_123) (fun _ h9 => h9) rfl dX11_passFromOutside_23 ?_
  refine ro_S S (c_X4_isError (PK_of (ws := (cW cy ad eb es mb mz tp os bits F G u nb ns T M id ft fo g dq ++ tl) ++ dy) (kb := 1) (ka := 2) (N := 1600) rfl rfl (by omega) (by omega))) kw3_189 yv_X4_isError ⟨Nat.le_of_ble_eq_true rfl, Nat.le_of_ble_eq_true rfl⟩ hK hP rfl hl.1 rfl (Nat.le_of_ble_eq_true rfl) dX11_passFromOutside_26 ⟨(by show _ ≤ 3; omega), (by show _ ≤ 311; omega)⟩ ?_
  rw [herr]
  refine nv_if_eqb (tgt := 37) hx hb dX11_passFromOutside_29 (by decide) (fun _ => ?_) (fun h => absurd h (by decide))
  refine lv_aload_n hx hb dX11_passFromOutside_37 rfl (lv_at hl 1 rfl) ?_
  refine va_get (ci := 8) (C := RX11) (T := TX11) (N := 8) hx hb ht iFX11 hown hK hP 0 rfl rfl 0 (by decide) (ht _ kw1_123) (fun _ h9 => h9) rfl dX11_passFromOutside_38 ?_
  refine wr_S S (c_X2_fromOutside (PK_of (ws := (cW cy ad eb es mb mz tp os bits F G u nb ns T M id ft fo g dq ++ tl) ++ dy) (kb := 1) (ka := 2) (N := 1600) rfl rfl (by omega) (by omega))) kw3_230 yv_X2_fromOutside ⟨Nat.le_of_ble_eq_true rfl, Nat.le_of_ble_eq_true rfl⟩ hK hP hD hS hA rfl hl.1 rfl (Nat.le_of_ble_eq_true rfl) dX11_passFromOutside_41 ⟨(by show _ ≤ 3; omega), (by show _ ≤ 311; omega)⟩ (fun fl H locs hfl hP hD hS => ?_)
  rw [List.append_assoc, ← eq0, ← eport, ← efar, ← efpt, ← eev] at hP hD
  have hP : va_P D vwCl ((cW cy ad eb es mb mz tp os bits F G u nb ns T M id ft fo g dq ++ tl) ++ (dy ++ [fE fl false q port far fpt ev])) H := hP
  have hD : va_D A ((cW cy ad eb es mb mz tp os bits F G u nb ns T M id ft fo g dq ++ tl) ++ (dy ++ [fE fl false q port far fpt ev])) := hD
  obtain ⟨kf, hkf⟩ : ∃ z, z = dy.length := ⟨_, rfl⟩
  have hfd : (dy ++ [fE fl false q port far fpt ev])[kf]? = some (fE fl false q port far fpt ev) := by rw [hkf]; exact app_e
  have hDYf : DY cy e0.1 (dy ++ [fE fl false q port far fpt ev]) eb es nb ns ba sa pt ih il ip pn op so fa fp st en := hDY.ext
  have hT : ((cW cy ad eb es mb mz tp os bits F G u nb ns T M id ft fo g dq ++ tl) ++ (dy ++ [fE fl false q port far fpt ev]))[8]? = some (tE (ad 8) (ad 9) (ad 10) T) := rfl
  have hLb : ((cW cy ad eb es mb mz tp os bits F G u nb ns T M id ft fo g dq ++ tl) ++ (dy ++ [fE fl false q port far fpt ev]))[9]? = some (aL (ad 9) mb eb nb) := rfl
  have hLs : ((cW cy ad eb es mb mz tp os bits F G u nb ns T M id ft fo g dq ++ tl) ++ (dy ++ [fE fl false q port far fpt ev]))[10]? = some (aL (ad 10) mz es ns) := rfl
  have hB : TB1 cy ((cW cy ad eb es mb mz tp os bits F G u nb ns T M id ft fo g dq ++ tl) ++ (dy ++ [fE fl false q port far fpt ev])) e0.1 eb nb ba pt ih il ip pn op := hDYf.1.app
  have hS1 : TS1 cy ((cW cy ad eb es mb mz tp os bits F G u nb ns T M id ft fo g dq ++ tl) ++ (dy ++ [fE fl false q port far fpt ev])) e0.1 es ns nb ba sa so fa fp st en := hDYf.2.1.app
  have hf0 : ((cW cy ad eb es mb mz tp os bits F G u nb ns T M id ft fo g dq ++ tl) ++ (dy ++ [fE fl false q port far fpt ev]))[(cW cy ad eb es mb mz tp os bits F G u nb ns T M id ft fo g dq ++ tl).length + kf]? = some (fE fl false q port far fpt ev) := app_r hfd
  have hST : STP ((cW cy ad eb es mb mz tp os bits F G u nb ns T M id ft fo g dq ++ tl) ++ (dy ++ [fE fl false q port far fpt ev])) (ad 5) bits F G := STP_of (ks := 5) rfl hsi
  have hPL : PLP cy ((cW cy ad eb es mb mz tp os bits F G u nb ns T M id ft fo g dq ++ tl) ++ (dy ++ [fE fl false q port far fpt ev])) (ad 6) g u := PLP_of (kp := 6) (kq := 7) rfl rfl hu4
  refine W.eq (g2 := F0 m 44 ls [.ref fl]) rfl ?_
  refine lv_astore_n (lv' := [(2, .ref fl), (1, .int (nI 0)), (0, .ref (ad 0))]) hx hb dX11_passFromOutside_44 rfl hl (by decide) rfl (fun ls hl => ?_)
  refine lv_aload_n hx hb dX11_passFromOutside_45 rfl (lv_at hl 2 rfl) ?_
  refine va_get (ci := 8) (C := RX11) (T := TX11) (N := 8) hx hb ht iFX11 hown hK hP 0 rfl rfl 4 (by decide) (ht _ kw1_127) (fun _ h9 => h9) rfl dX11_passFromOutside_46 ?_
  refine lv_aload_n hx hb dX11_passFromOutside_49 rfl (lv_at hl 0 rfl) ?_
  refine lv_aload_n hx hb dX11_passFromOutside_50 rfl (lv_at hl 2 rfl) ?_
  refine va_get (ci := 8) (C := RX11) (T := TX11) (N := 8) hx hb ht iFX11 hown hK hP 0 rfl rfl 3 (by decide) (ht _ kw1_126) (fun _ h9 => h9) rfl dX11_passFromOutside_51 ?_
  refine lv_aload_n hx hb dX11_passFromOutside_54 rfl (lv_at hl 2 rfl) ?_
  refine va_get (ci := 8) (C := RX11) (T := TX11) (N := 8) hx hb ht iFX11 hown hK hP 0 rfl rfl 0 (by decide) (ht _ kw1_123) (fun _ h9 => h9) rfl dX11_passFromOutside_55 ?_
  refine nv_bipush (k := 16) hx hb dX11_passFromOutside_58 (by decide) ?_
  refine ro_V S (c_X1_quad (PK_of (ws := (cW cy ad eb es mb mz tp os bits F G u nb ns T M id ft fo g dq ++ tl) ++ (dy ++ [fE fl false q port far fpt ev])) (kb := 1) (ka := 2) (N := 1600) rfl rfl (by omega) (by omega)) (a := 16) (by omega)) kw3_195 yv_X1_quad ⟨Nat.le_of_ble_eq_true rfl, Nat.le_of_ble_eq_true rfl⟩ hK hP (va_recv hK hP (ci := 2) (q0 := 1) rfl rfl) rfl hl.1 rfl (Nat.le_of_ble_eq_true rfl) dX11_passFromOutside_60 ⟨(by show _ ≤ 3; omega), (by show _ ≤ 311; omega)⟩ ?_
  have hq60 := tg_qd_lt ft tp 16
  refine ro_V S (c_X5_numberOf hPL (x := tg_qd (tg_rd ft tp) 16) (tg_qd_lt _ _ _)) kw3_196 yv_X5_numberOf ⟨Nat.le_of_ble_eq_true rfl, Nat.le_of_ble_eq_true rfl⟩ hK hP (va_recv hK hP (ci := 4) (q0 := 6) rfl rfl) rfl hl.1 rfl (Nat.le_of_ble_eq_true rfl) dX11_passFromOutside_63 ⟨(by show _ ≤ 3; omega), (by show _ ≤ 311; omega)⟩ ?_
  rw [(num_is hou.2.2.1).1, ← enum]
  refine wx_V S (c_X10_admitFromOutside2 hDYf hb_pt hb_ih hb_il hb_ip hb_pn hb_op hb_fa hb_fp hb_st hb_en hfd hq hport hfar hfpt hev hnum hb9 hfb hfj hmay) kw3_234 yv_X10_admitFromOutside ⟨Nat.le_of_ble_eq_true rfl, Nat.le_of_ble_eq_true rfl⟩ hK hP hD hS hA hE (va_recv hK hP (ci := 7) (q0 := 8) rfl rfl) rfl hl.1 rfl (Nat.le_of_ble_eq_true rfl) dX11_passFromOutside_66 ⟨(by show _ ≤ 3; omega), (by show _ ≤ 311; omega)⟩ (fun z1 H locs hz1 hP hD hS => ?_)
  have hP : va_P D vwCl ((cW cy ad eb z1.2.1 mb (mz + nI 1) tp os bits F G u nb (ns + 1) T M id ft fo g dq ++ tl) ++ z1.2.2) H := hP
  have hD : va_D A ((cW cy ad eb z1.2.1 mb (mz + nI 1) tp os bits F G u nb (ns + 1) T M id ft fo g dq ++ tl) ++ z1.2.2) := hD
  have hT : ((cW cy ad eb z1.2.1 mb (mz + nI 1) tp os bits F G u nb (ns + 1) T M id ft fo g dq ++ tl) ++ z1.2.2)[8]? = some (tE (ad 8) (ad 9) (ad 10) T) := rfl
  have hLb : ((cW cy ad eb z1.2.1 mb (mz + nI 1) tp os bits F G u nb (ns + 1) T M id ft fo g dq ++ tl) ++ z1.2.2)[9]? = some (aL (ad 9) mb eb nb) := rfl
  have hLs : ((cW cy ad eb z1.2.1 mb (mz + nI 1) tp os bits F G u nb (ns + 1) T M id ft fo g dq ++ tl) ++ z1.2.2)[10]? = some (aL (ad 10) (mz + nI 1) z1.2.1 (ns + 1)) := rfl
  have hB : TB1 cy ((cW cy ad eb z1.2.1 mb (mz + nI 1) tp os bits F G u nb (ns + 1) T M id ft fo g dq ++ tl) ++ z1.2.2) e0.1 eb nb ba pt ih il ip pn op := hz1.1.1.app
  have hS1 : TS1 cy ((cW cy ad eb z1.2.1 mb (mz + nI 1) tp os bits F G u nb (ns + 1) T M id ft fo g dq ++ tl) ++ z1.2.2) e0.1 z1.2.1 (ns + 1) nb ba (va_up sa ns z1.1) (va_up so ns b) (va_up fa ns far) (va_up fp ns fpt) (va_up st ns (tg_first_st q false)) (va_up en ns (T + tg_life (tg_first_st q false) q)) := hz1.1.2.1.app
  have hf0 : ((cW cy ad eb z1.2.1 mb (mz + nI 1) tp os bits F G u nb (ns + 1) T M id ft fo g dq ++ tl) ++ z1.2.2)[(cW cy ad eb z1.2.1 mb (mz + nI 1) tp os bits F G u nb (ns + 1) T M id ft fo g dq ++ tl).length + kf]? = some (fE fl false q port far fpt ev) := app_r hz1.2
  have hST : STP ((cW cy ad eb z1.2.1 mb (mz + nI 1) tp os bits F G u nb (ns + 1) T M id ft fo g dq ++ tl) ++ z1.2.2) (ad 5) bits F G := STP_of (ks := 5) rfl hsi
  have hPL : PLP cy ((cW cy ad eb z1.2.1 mb (mz + nI 1) tp os bits F G u nb (ns + 1) T M id ft fo g dq ++ tl) ++ z1.2.2) (ad 6) g u := PLP_of (kp := 6) (kq := 7) rfl rfl hu4
  obtain ⟨kw9, hkw⟩ := hz1.1.1.at (i := b) hb9
  refine W.eq (g2 := F0 m 69 ls [.ref (ba b)]) rfl ?_
  refine lv_astore_n (lv' := [(3, .ref (ba b)), (2, .ref fl), (1, .int (nI 0)), (0, .ref (ad 0))]) hx hb dX11_passFromOutside_69 rfl hl (by decide) rfl (fun ls hl => ?_)
  refine lv_aload_n hx hb dX11_passFromOutside_70 rfl (lv_at hl 0 rfl) ?_
  refine lv_ifnonnull (tgt := 77) hx hb dX11_passFromOutside_71 (by decide) ?_
  refine lv_aload_n hx hb dX11_passFromOutside_77 rfl (lv_at hl 3 rfl) ?_
  refine va_get (ci := 8) (C := RX11) (T := TX11) (N := 8) hx hb ht iFX11 hown hK hP 0 rfl rfl 0 (by decide) (ht _ kw1_123) (fun _ h9 => h9) rfl dX11_passFromOutside_78 ?_
  refine lv_aload_n hx hb dX11_passFromOutside_81 rfl (lv_at hl 3 rfl) ?_
  refine va_get (ci := 8) (C := RX11) (T := TX11) (N := 8) hx hb ht iFX11 hown hK hP 0 rfl rfl 1 (by decide) (ht _ kw1_124) (fun _ h9 => h9) rfl dX11_passFromOutside_82 ?_
  refine lv_aload_n hx hb dX11_passFromOutside_85 rfl (lv_at hl 0 rfl) ?_
  refine lv_aload_n hx hb dX11_passFromOutside_86 rfl (lv_at hl 3 rfl) ?_
  refine va_get (ci := 8) (C := RX11) (T := TX11) (N := 8) hx hb ht iFX11 hown hK hP 0 rfl rfl 2 (by decide) (ht _ kw1_125) (fun _ h9 => h9) rfl dX11_passFromOutside_87 ?_
  refine wr_S S (c_X3_toSix (ws := (cW cy ad eb z1.2.1 mb (mz + nI 1) tp os bits F G u nb (ns + 1) T M id ft fo g dq ++ tl) ++ z1.2.2) (kb := 3) (ka := 4) rfl rfl (by omega) (by omega) (ki := 1) (kai := 2) rfl rfl (by omega) (by omega) (by decide) (by decide) (by decide) (by decide) (app_r hkw) (by rw [hptb]; exact hq3) (hb_ih b) (hb_il b) hip9 (hb_op b) (cw_ne (by decide)) (cw_ne (by decide)) (ks := 5) rfl hsi (by decide) (by decide) (by omega) (by omega) (by rw [hptb]; exact hsum) (by omega) hou.1.2.2.2) kw3_238 yv_X3_toSix ⟨Nat.le_of_ble_eq_true rfl, Nat.le_of_ble_eq_true rfl⟩ hK hP hD hS hA rfl hl.1 rfl (Nat.le_of_ble_eq_true rfl) dX11_passFromOutside_90 ⟨(by show _ ≤ 3; omega), (by show _ ≤ 311; omega)⟩ (fun g90 H locs hg90 hP hD hS => ?_)
  have hP : va_P D vwCl ((cW cy ad eb z1.2.1 mb (mz + nI 1) tp (40 + (tp - 20)) bits F G u nb (ns + 1) T M id ft g90 g dq ++ tl) ++ z1.2.2) H := hP
  have hD : va_D A ((cW cy ad eb z1.2.1 mb (mz + nI 1) tp (40 + (tp - 20)) bits F G u nb (ns + 1) T M id ft g90 g dq ++ tl) ++ z1.2.2) := hD
  refine W.eq (g2 := F0 m 93 ls []) rfl ?_
  refine nv_iconst (k := 0) hx hb dX11_passFromOutside_93 rfl ?_
  rw [hg90, hptb] at hP hD
  refine W.widen (k := 3) (n := 311) (by omega) (by omega) ?_
  exact hend z1 rfl hz1.1 hP hD hS dX11_passFromOutside_94
set_option maxHeartbeats 4000000 in
set_option maxRecDepth 100000 in
theorem c_X11_passFromOutsidea {l : Launch} {D : va_G} {cy : Nat → ClassId} {ad : Nat → Nat} {tl dy : va_W} {eb es tp os bits F G u nb ns T M id : Nat} {mb mz : Int32} {ft fo : Nat → UInt8} {g : Nat → Int32} {dq ba sa pt ih il ip pn op so fa fp st en : Nat → Nat} {e0 : Nat × Nat} (htp : tp ≤ 1600) (hos : os ≤ 1620) (hsi : SI bits F G) (hu4 : u ≤ 4) (hDY : DY cy e0.1 dy eb es nb ns ba sa pt ih il ip pn op so fa fp st en) (hb_pt : ∀ i, pt i < 2 ^ 31) (hb_ih : ∀ i, ih i < 2 ^ 64) (hb_il : ∀ i, il i < 2 ^ 64) (hb_ip : ∀ i, ip i < 2 ^ 31) (hb_pn : ∀ i, pn i < 2 ^ 31) (hb_op : ∀ i, op i < 2 ^ 31) (hb_fa : ∀ i, fa i < 2 ^ 32) (hb_fp : ∀ i, fp i < 2 ^ 31) (hb_st : ∀ i, st i ≤ 7) (hb_en : ∀ i, en i < 2 ^ 62) {q port far fpt ev num : Nat} (eq0 : q = tg_rd ft tp 9) (eport : port = tg_pr (tg_rd ft tp) (20 + tg_dpa q)) (efar : far = tg_qd (tg_rd ft tp) 12) (efpt : fpt = if q = 1 then 0 else tg_pr (tg_rd ft tp) (20 + tg_spa q)) (eev : ev = tg_event (tg_rd ft tp) 20 q) (enum : num = tg_first (fun k => decide (g k = nI (tg_qd (tg_rd ft tp) 16))) u) (hz0 : tg_out (tg_rd ft tp) tp bits g u = 0) (herr : tg_isErr (tg_rd ft tp) = false) {b : Nat} (hb9 : b < nb) (hfb : tg_first (fun k => decide (pt k = q ∧ pn k = num ∧ op k = port)) nb = b) (hfj : ¬ tg_first (fun k => decide (so k = b ∧ fa k = far ∧ fp k = fpt)) ns < ns) (hmay : ¬ ((q ≠ 6 ∨ ev = 2) ∧ ns < 128)) : WR (S := va_W) l yX11_passFromOutside cX11_passFromOutside 4 (some .int) 5 1 6 116 [.ref (ad 0)] D cy ((cW cy ad eb es mb mz tp os bits F G u nb ns T M id ft fo g dq ++ tl) ++ dy) (fun u_ => some (.int (nI 15))) (fun z9 => DY cy e0.1 z9 eb es nb ns ba sa pt ih il ip pn op so fa fp st en) (fun z9 => (cW cy ad eb es mb mz tp os bits F G u nb ns T M id ft fo g dq ++ tl) ++ z9) := by
  refine WRi (by decide) (lv0 := [(0, .ref (ad 0))]) rfl (Nat.le_of_ble_eq_true rfl) ?_
  intro p e s m args below meth c ls A Q S hnm hP hK hD hS hA hend hl
  have hx := S.1
  have hb := S.2.1
  have hown : s.vm.findClass RX11 = some m.cls := S.2.2.2.1
  have ht : ∀ w ∈ lw_g, w.before args s = true := fun w h => S.2.2.2.2 w (List.mem_cons_of_mem _ h)
  have hP : va_P D vwCl ((cW cy ad eb es mb mz tp os bits F G u nb ns T M id ft fo g dq ++ tl) ++ dy) s.heap := hP
  have hT : ((cW cy ad eb es mb mz tp os bits F G u nb ns T M id ft fo g dq ++ tl) ++ dy)[8]? = some (tE (ad 8) (ad 9) (ad 10) T) := rfl
  have hLb : ((cW cy ad eb es mb mz tp os bits F G u nb ns T M id ft fo g dq ++ tl) ++ dy)[9]? = some (aL (ad 9) mb eb nb) := rfl
  have hLs : ((cW cy ad eb es mb mz tp os bits F G u nb ns T M id ft fo g dq ++ tl) ++ dy)[10]? = some (aL (ad 10) mz es ns) := rfl
  have hB : TB1 cy ((cW cy ad eb es mb mz tp os bits F G u nb ns T M id ft fo g dq ++ tl) ++ dy) e0.1 eb nb ba pt ih il ip pn op := hDY.1.app
  have hS1 : TS1 cy ((cW cy ad eb es mb mz tp os bits F G u nb ns T M id ft fo g dq ++ tl) ++ dy) e0.1 es ns nb ba sa so fa fp st en := hDY.2.1.app
  have hST : STP ((cW cy ad eb es mb mz tp os bits F G u nb ns T M id ft fo g dq ++ tl) ++ dy) (ad 5) bits F G := STP_of (ks := 5) rfl hsi
  have hPL : PLP cy ((cW cy ad eb es mb mz tp os bits F G u nb ns T M id ft fo g dq ++ tl) ++ dy) (ad 6) g u := PLP_of (kp := 6) (kq := 7) rfl rfl hu4
  have hnb := hB.le
  have hns := hS1.le
  have hou := out0 hz0
  have hnu : num < u := by rw [enum]; exact (num_is hou.2.2.1).2
  have hq3 : q = 1 ∨ q = 6 ∨ q = 17 := by rw [eq0]; exact hou.1.2.1
  have hq : q < 256 := by omega
  have hport : port < 65536 := by rw [eport]; exact tg_pr_lt _ _ _
  have hfar : far < 2 ^ 32 := by rw [efar]; exact tg_qd_lt _ _ _
  have hfpt : fpt < 65536 := by rw [efpt]; split; omega; exact tg_pr_lt _ _ _
  have hev : ev ≤ 3 := by rw [eev]; exact tg_event_le _ _ _
  have hsum : tg_sumAt (tg_nx q) + 2 ≤ tp - 20 := by have h6 : q = 6 → 20 ≤ tp - 20 := (by rw [eq0]; exact hou.1.2.2.1); have h8 := hou.1.1; unfold tg_nx tg_sumAt; (repeat' split) <;> omega
  have hnum : num < 2 ^ 31 := by omega
  refine lv_aload_n hx hb dX11_passFromOutside_0 rfl (lv_at hl 0 rfl) ?_
  refine va_get (ci := 8) (C := RX11) (T := TX11) (N := 8) hx hb ht iFX11 hown hK hP 0 rfl rfl 0 (by decide) (ht _ kw1_123) (fun _ h9 => h9) rfl dX11_passFromOutside_1 ?_
  refine lv_aload_n hx hb dX11_passFromOutside_4 rfl (lv_at hl 0 rfl) ?_
  refine va_get (ci := 8) (C := RX11) (T := TX11) (N := 8) hx hb ht iFX11 hown hK hP 0 rfl rfl 2 (by decide) (ht _ kw1_125) (fun _ h9 => h9) rfl dX11_passFromOutside_5 ?_
  refine lv_aload_n hx hb dX11_passFromOutside_8 rfl (lv_at hl 0 rfl) ?_
  refine va_get (ci := 8) (C := RX11) (T := TX11) (N := 8) hx hb ht iFX11 hown hK hP 0 rfl rfl 3 (by decide) (ht _ kw1_126) (fun _ h9 => h9) rfl dX11_passFromOutside_9 ?_
  refine ro_S S (c_X6_faultFromOutside (PK_of (ws := (cW cy ad eb es mb mz tp os bits F G u nb ns T M id ft fo g dq ++ tl) ++ dy) (kb := 1) (ka := 2) (N := 1600) rfl rfl (by omega) (by omega)) hST hPL) kw3_158 yv_X6_faultFromOutside ⟨Nat.le_of_ble_eq_true rfl, Nat.le_of_ble_eq_true rfl⟩ hK hP rfl hl.1 rfl (Nat.le_of_ble_eq_true rfl) dX11_passFromOutside_12 ⟨(by show _ ≤ 1; omega), (by show _ ≤ 6; omega)⟩ ?_
  rw [hz0]
  refine lv_istore_n (lv' := [(1, .int (nI 0)), (0, .ref (ad 0))]) hx hb dX11_passFromOutside_15 rfl hl (by decide) rfl (fun ls hl => ?_)
  refine lv_iload_n hx hb dX11_passFromOutside_16 rfl (lv_at hl 0 rfl) ?_
  refine nv_if_eq (tgt := 22) hx hb dX11_passFromOutside_17 (by decide) (by omega) (fun _ => ?_) (fun h => absurd h (by decide))
  refine lv_aload_n hx hb dX11_passFromOutside_22 rfl (lv_at hl 1 rfl) ?_
  refine va_get (ci := 8) (C := RX11) (T := TX11) (N := 8) hx hb ht iFX11 hown hK hP 0 rfl rfl 0 (by decide) (ht _ kw1_123) (fun _ h9 => h9) rfl dX11_passFromOutside_23 ?_
  refine ro_S S (c_X4_isError (PK_of (ws := (cW cy ad eb es mb mz tp os bits F G u nb ns T M id ft fo g dq ++ tl) ++ dy) (kb := 1) (ka := 2) (N := 1600) rfl rfl (by omega) (by omega))) kw3_189 yv_X4_isError ⟨Nat.le_of_ble_eq_true rfl, Nat.le_of_ble_eq_true rfl⟩ hK hP rfl hl.1 rfl (Nat.le_of_ble_eq_true rfl) dX11_passFromOutside_26 ⟨(by show _ ≤ 1; omega), (by show _ ≤ 6; omega)⟩ ?_
  rw [herr]
  refine nv_if_eqb (tgt := 37) hx hb dX11_passFromOutside_29 (by decide) (fun _ => ?_) (fun h => absurd h (by decide))
  refine lv_aload_n hx hb dX11_passFromOutside_37 rfl (lv_at hl 1 rfl) ?_
  refine va_get (ci := 8) (C := RX11) (T := TX11) (N := 8) hx hb ht iFX11 hown hK hP 0 rfl rfl 0 (by decide) (ht _ kw1_123) (fun _ h9 => h9) rfl dX11_passFromOutside_38 ?_
  refine wr_S S (c_X2_fromOutside (PK_of (ws := (cW cy ad eb es mb mz tp os bits F G u nb ns T M id ft fo g dq ++ tl) ++ dy) (kb := 1) (ka := 2) (N := 1600) rfl rfl (by omega) (by omega))) kw3_230 yv_X2_fromOutside ⟨Nat.le_of_ble_eq_true rfl, Nat.le_of_ble_eq_true rfl⟩ hK hP hD hS hA rfl hl.1 rfl (Nat.le_of_ble_eq_true rfl) dX11_passFromOutside_41 ⟨(by show _ ≤ 1; omega), (by show _ ≤ 6; omega)⟩ (fun fl H locs hfl hP hD hS => ?_)
  rw [List.append_assoc, ← eq0, ← eport, ← efar, ← efpt, ← eev] at hP hD
  have hP : va_P D vwCl ((cW cy ad eb es mb mz tp os bits F G u nb ns T M id ft fo g dq ++ tl) ++ (dy ++ [fE fl false q port far fpt ev])) H := hP
  have hD : va_D A ((cW cy ad eb es mb mz tp os bits F G u nb ns T M id ft fo g dq ++ tl) ++ (dy ++ [fE fl false q port far fpt ev])) := hD
  obtain ⟨kf, hkf⟩ : ∃ z, z = dy.length := ⟨_, rfl⟩
  have hfd : (dy ++ [fE fl false q port far fpt ev])[kf]? = some (fE fl false q port far fpt ev) := by rw [hkf]; exact app_e
  have hDYf : DY cy e0.1 (dy ++ [fE fl false q port far fpt ev]) eb es nb ns ba sa pt ih il ip pn op so fa fp st en := hDY.ext
  have hT : ((cW cy ad eb es mb mz tp os bits F G u nb ns T M id ft fo g dq ++ tl) ++ (dy ++ [fE fl false q port far fpt ev]))[8]? = some (tE (ad 8) (ad 9) (ad 10) T) := rfl
  have hLb : ((cW cy ad eb es mb mz tp os bits F G u nb ns T M id ft fo g dq ++ tl) ++ (dy ++ [fE fl false q port far fpt ev]))[9]? = some (aL (ad 9) mb eb nb) := rfl
  have hLs : ((cW cy ad eb es mb mz tp os bits F G u nb ns T M id ft fo g dq ++ tl) ++ (dy ++ [fE fl false q port far fpt ev]))[10]? = some (aL (ad 10) mz es ns) := rfl
  have hB : TB1 cy ((cW cy ad eb es mb mz tp os bits F G u nb ns T M id ft fo g dq ++ tl) ++ (dy ++ [fE fl false q port far fpt ev])) e0.1 eb nb ba pt ih il ip pn op := hDYf.1.app
  have hS1 : TS1 cy ((cW cy ad eb es mb mz tp os bits F G u nb ns T M id ft fo g dq ++ tl) ++ (dy ++ [fE fl false q port far fpt ev])) e0.1 es ns nb ba sa so fa fp st en := hDYf.2.1.app
  have hf0 : ((cW cy ad eb es mb mz tp os bits F G u nb ns T M id ft fo g dq ++ tl) ++ (dy ++ [fE fl false q port far fpt ev]))[(cW cy ad eb es mb mz tp os bits F G u nb ns T M id ft fo g dq ++ tl).length + kf]? = some (fE fl false q port far fpt ev) := app_r hfd
  have hST : STP ((cW cy ad eb es mb mz tp os bits F G u nb ns T M id ft fo g dq ++ tl) ++ (dy ++ [fE fl false q port far fpt ev])) (ad 5) bits F G := STP_of (ks := 5) rfl hsi
  have hPL : PLP cy ((cW cy ad eb es mb mz tp os bits F G u nb ns T M id ft fo g dq ++ tl) ++ (dy ++ [fE fl false q port far fpt ev])) (ad 6) g u := PLP_of (kp := 6) (kq := 7) rfl rfl hu4
  refine W.eq (g2 := F0 m 44 ls [.ref fl]) rfl ?_
  refine lv_astore_n (lv' := [(2, .ref fl), (1, .int (nI 0)), (0, .ref (ad 0))]) hx hb dX11_passFromOutside_44 rfl hl (by decide) rfl (fun ls hl => ?_)
  refine lv_aload_n hx hb dX11_passFromOutside_45 rfl (lv_at hl 2 rfl) ?_
  refine va_get (ci := 8) (C := RX11) (T := TX11) (N := 8) hx hb ht iFX11 hown hK hP 0 rfl rfl 4 (by decide) (ht _ kw1_127) (fun _ h9 => h9) rfl dX11_passFromOutside_46 ?_
  refine lv_aload_n hx hb dX11_passFromOutside_49 rfl (lv_at hl 0 rfl) ?_
  refine lv_aload_n hx hb dX11_passFromOutside_50 rfl (lv_at hl 2 rfl) ?_
  refine va_get (ci := 8) (C := RX11) (T := TX11) (N := 8) hx hb ht iFX11 hown hK hP 0 rfl rfl 3 (by decide) (ht _ kw1_126) (fun _ h9 => h9) rfl dX11_passFromOutside_51 ?_
  refine lv_aload_n hx hb dX11_passFromOutside_54 rfl (lv_at hl 2 rfl) ?_
  refine va_get (ci := 8) (C := RX11) (T := TX11) (N := 8) hx hb ht iFX11 hown hK hP 0 rfl rfl 0 (by decide) (ht _ kw1_123) (fun _ h9 => h9) rfl dX11_passFromOutside_55 ?_
  refine nv_bipush (k := 16) hx hb dX11_passFromOutside_58 (by decide) ?_
  refine ro_V S (c_X1_quad (PK_of (ws := (cW cy ad eb es mb mz tp os bits F G u nb ns T M id ft fo g dq ++ tl) ++ (dy ++ [fE fl false q port far fpt ev])) (kb := 1) (ka := 2) (N := 1600) rfl rfl (by omega) (by omega)) (a := 16) (by omega)) kw3_195 yv_X1_quad ⟨Nat.le_of_ble_eq_true rfl, Nat.le_of_ble_eq_true rfl⟩ hK hP (va_recv hK hP (ci := 2) (q0 := 1) rfl rfl) rfl hl.1 rfl (Nat.le_of_ble_eq_true rfl) dX11_passFromOutside_60 ⟨(by show _ ≤ 1; omega), (by show _ ≤ 6; omega)⟩ ?_
  have hq60 := tg_qd_lt ft tp 16
  refine ro_V S (c_X5_numberOf hPL (x := tg_qd (tg_rd ft tp) 16) (tg_qd_lt _ _ _)) kw3_196 yv_X5_numberOf ⟨Nat.le_of_ble_eq_true rfl, Nat.le_of_ble_eq_true rfl⟩ hK hP (va_recv hK hP (ci := 4) (q0 := 6) rfl rfl) rfl hl.1 rfl (Nat.le_of_ble_eq_true rfl) dX11_passFromOutside_63 ⟨(by show _ ≤ 1; omega), (by show _ ≤ 6; omega)⟩ ?_
  rw [(num_is hou.2.2.1).1, ← enum]
  refine ro_V S (c_X10_admitFromOutsidea hT hLb hB hLs hS1 hb_pt hb_ih hb_il hb_ip hb_pn hb_op hb_fa hb_fp hb_st hb_en hf0 hq hport hfar hfpt hev hnum hb9 hfb hfj hmay) kw3_234 yv_X10_admitFromOutside ⟨Nat.le_of_ble_eq_true rfl, Nat.le_of_ble_eq_true rfl⟩ hK hP (va_recv hK hP (ci := 7) (q0 := 8) rfl rfl) rfl hl.1 rfl (Nat.le_of_ble_eq_true rfl) dX11_passFromOutside_66 ⟨(by show _ ≤ 1; omega), (by show _ ≤ 6; omega)⟩ ?_
  refine W.eq (g2 := F0 m 69 ls [.null]) rfl ?_
  refine lv_astore_nN (lv' := [(3, .null), (2, .ref fl), (1, .int (nI 0)), (0, .ref (ad 0))]) hx hb dX11_passFromOutside_69 rfl hl (by decide) rfl (fun ls hl => ?_)
  refine lv_aload_nN hx hb dX11_passFromOutside_70 rfl (lv_at hl 0 rfl) ?_
  refine lv_ifnonnullN hx hb dX11_passFromOutside_71 ?_
  refine nv_bipush (k := 15) hx hb dX11_passFromOutside_74 (by decide) ?_
  exact hend _ rfl hDYf hP hD hS dX11_passFromOutside_76
set_option maxHeartbeats 4000000 in
set_option maxRecDepth 100000 in
theorem c_X11_passFromOutsideb {l : Launch} {D : va_G} {cy : Nat → ClassId} {ad : Nat → Nat} {tl dy : va_W} {eb es tp os bits F G u nb ns T M id : Nat} {mb mz : Int32} {ft fo : Nat → UInt8} {g : Nat → Int32} {dq ba sa pt ih il ip pn op so fa fp st en : Nat → Nat} {e0 : Nat × Nat} (htp : tp ≤ 1600) (hos : os ≤ 1620) (hsi : SI bits F G) (hu4 : u ≤ 4) (hDY : DY cy e0.1 dy eb es nb ns ba sa pt ih il ip pn op so fa fp st en) (hb_pt : ∀ i, pt i < 2 ^ 31) (hb_ih : ∀ i, ih i < 2 ^ 64) (hb_il : ∀ i, il i < 2 ^ 64) (hb_ip : ∀ i, ip i < 2 ^ 31) (hb_pn : ∀ i, pn i < 2 ^ 31) (hb_op : ∀ i, op i < 2 ^ 31) (hb_fa : ∀ i, fa i < 2 ^ 32) (hb_fp : ∀ i, fp i < 2 ^ 31) (hb_st : ∀ i, st i ≤ 7) (hb_en : ∀ i, en i < 2 ^ 62) {q port far fpt ev num : Nat} (eq0 : q = tg_rd ft tp 9) (eport : port = tg_pr (tg_rd ft tp) (20 + tg_dpa q)) (efar : far = tg_qd (tg_rd ft tp) 12) (efpt : fpt = if q = 1 then 0 else tg_pr (tg_rd ft tp) (20 + tg_spa q)) (eev : ev = tg_event (tg_rd ft tp) 20 q) (enum : num = tg_first (fun k => decide (g k = nI (tg_qd (tg_rd ft tp) 16))) u) (hz0 : tg_out (tg_rd ft tp) tp bits g u = 0) (herr : tg_isErr (tg_rd ft tp) = false) (hfb : ¬ tg_first (fun k => decide (pt k = q ∧ pn k = num ∧ op k = port)) nb < nb) : WR (S := va_W) l yX11_passFromOutside cX11_passFromOutside 4 (some .int) 5 1 6 116 [.ref (ad 0)] D cy ((cW cy ad eb es mb mz tp os bits F G u nb ns T M id ft fo g dq ++ tl) ++ dy) (fun u_ => some (.int (nI 15))) (fun z9 => DY cy e0.1 z9 eb es nb ns ba sa pt ih il ip pn op so fa fp st en) (fun z9 => (cW cy ad eb es mb mz tp os bits F G u nb ns T M id ft fo g dq ++ tl) ++ z9) := by
  refine WRi (by decide) (lv0 := [(0, .ref (ad 0))]) rfl (Nat.le_of_ble_eq_true rfl) ?_
  intro p e s m args below meth c ls A Q S hnm hP hK hD hS hA hend hl
  have hx := S.1
  have hb := S.2.1
  have hown : s.vm.findClass RX11 = some m.cls := S.2.2.2.1
  have ht : ∀ w ∈ lw_g, w.before args s = true := fun w h => S.2.2.2.2 w (List.mem_cons_of_mem _ h)
  have hP : va_P D vwCl ((cW cy ad eb es mb mz tp os bits F G u nb ns T M id ft fo g dq ++ tl) ++ dy) s.heap := hP
  have hT : ((cW cy ad eb es mb mz tp os bits F G u nb ns T M id ft fo g dq ++ tl) ++ dy)[8]? = some (tE (ad 8) (ad 9) (ad 10) T) := rfl
  have hLb : ((cW cy ad eb es mb mz tp os bits F G u nb ns T M id ft fo g dq ++ tl) ++ dy)[9]? = some (aL (ad 9) mb eb nb) := rfl
  have hLs : ((cW cy ad eb es mb mz tp os bits F G u nb ns T M id ft fo g dq ++ tl) ++ dy)[10]? = some (aL (ad 10) mz es ns) := rfl
  have hB : TB1 cy ((cW cy ad eb es mb mz tp os bits F G u nb ns T M id ft fo g dq ++ tl) ++ dy) e0.1 eb nb ba pt ih il ip pn op := hDY.1.app
  have hS1 : TS1 cy ((cW cy ad eb es mb mz tp os bits F G u nb ns T M id ft fo g dq ++ tl) ++ dy) e0.1 es ns nb ba sa so fa fp st en := hDY.2.1.app
  have hST : STP ((cW cy ad eb es mb mz tp os bits F G u nb ns T M id ft fo g dq ++ tl) ++ dy) (ad 5) bits F G := STP_of (ks := 5) rfl hsi
  have hPL : PLP cy ((cW cy ad eb es mb mz tp os bits F G u nb ns T M id ft fo g dq ++ tl) ++ dy) (ad 6) g u := PLP_of (kp := 6) (kq := 7) rfl rfl hu4
  have hnb := hB.le
  have hns := hS1.le
  have hou := out0 hz0
  have hnu : num < u := by rw [enum]; exact (num_is hou.2.2.1).2
  have hq3 : q = 1 ∨ q = 6 ∨ q = 17 := by rw [eq0]; exact hou.1.2.1
  have hq : q < 256 := by omega
  have hport : port < 65536 := by rw [eport]; exact tg_pr_lt _ _ _
  have hfar : far < 2 ^ 32 := by rw [efar]; exact tg_qd_lt _ _ _
  have hfpt : fpt < 65536 := by rw [efpt]; split; omega; exact tg_pr_lt _ _ _
  have hev : ev ≤ 3 := by rw [eev]; exact tg_event_le _ _ _
  have hsum : tg_sumAt (tg_nx q) + 2 ≤ tp - 20 := by have h6 : q = 6 → 20 ≤ tp - 20 := (by rw [eq0]; exact hou.1.2.2.1); have h8 := hou.1.1; unfold tg_nx tg_sumAt; (repeat' split) <;> omega
  have hnum : num < 2 ^ 31 := by omega
  refine lv_aload_n hx hb dX11_passFromOutside_0 rfl (lv_at hl 0 rfl) ?_
  refine va_get (ci := 8) (C := RX11) (T := TX11) (N := 8) hx hb ht iFX11 hown hK hP 0 rfl rfl 0 (by decide) (ht _ kw1_123) (fun _ h9 => h9) rfl dX11_passFromOutside_1 ?_
  refine lv_aload_n hx hb dX11_passFromOutside_4 rfl (lv_at hl 0 rfl) ?_
  refine va_get (ci := 8) (C := RX11) (T := TX11) (N := 8) hx hb ht iFX11 hown hK hP 0 rfl rfl 2 (by decide) (ht _ kw1_125) (fun _ h9 => h9) rfl dX11_passFromOutside_5 ?_
  refine lv_aload_n hx hb dX11_passFromOutside_8 rfl (lv_at hl 0 rfl) ?_
  refine va_get (ci := 8) (C := RX11) (T := TX11) (N := 8) hx hb ht iFX11 hown hK hP 0 rfl rfl 3 (by decide) (ht _ kw1_126) (fun _ h9 => h9) rfl dX11_passFromOutside_9 ?_
  refine ro_S S (c_X6_faultFromOutside (PK_of (ws := (cW cy ad eb es mb mz tp os bits F G u nb ns T M id ft fo g dq ++ tl) ++ dy) (kb := 1) (ka := 2) (N := 1600) rfl rfl (by omega) (by omega)) hST hPL) kw3_158 yv_X6_faultFromOutside ⟨Nat.le_of_ble_eq_true rfl, Nat.le_of_ble_eq_true rfl⟩ hK hP rfl hl.1 rfl (Nat.le_of_ble_eq_true rfl) dX11_passFromOutside_12 ⟨(by show _ ≤ 1; omega), (by show _ ≤ 6; omega)⟩ ?_
  rw [hz0]
  refine lv_istore_n (lv' := [(1, .int (nI 0)), (0, .ref (ad 0))]) hx hb dX11_passFromOutside_15 rfl hl (by decide) rfl (fun ls hl => ?_)
  refine lv_iload_n hx hb dX11_passFromOutside_16 rfl (lv_at hl 0 rfl) ?_
  refine nv_if_eq (tgt := 22) hx hb dX11_passFromOutside_17 (by decide) (by omega) (fun _ => ?_) (fun h => absurd h (by decide))
  refine lv_aload_n hx hb dX11_passFromOutside_22 rfl (lv_at hl 1 rfl) ?_
  refine va_get (ci := 8) (C := RX11) (T := TX11) (N := 8) hx hb ht iFX11 hown hK hP 0 rfl rfl 0 (by decide) (ht _ kw1_123) (fun _ h9 => h9) rfl dX11_passFromOutside_23 ?_
  refine ro_S S (c_X4_isError (PK_of (ws := (cW cy ad eb es mb mz tp os bits F G u nb ns T M id ft fo g dq ++ tl) ++ dy) (kb := 1) (ka := 2) (N := 1600) rfl rfl (by omega) (by omega))) kw3_189 yv_X4_isError ⟨Nat.le_of_ble_eq_true rfl, Nat.le_of_ble_eq_true rfl⟩ hK hP rfl hl.1 rfl (Nat.le_of_ble_eq_true rfl) dX11_passFromOutside_26 ⟨(by show _ ≤ 1; omega), (by show _ ≤ 6; omega)⟩ ?_
  rw [herr]
  refine nv_if_eqb (tgt := 37) hx hb dX11_passFromOutside_29 (by decide) (fun _ => ?_) (fun h => absurd h (by decide))
  refine lv_aload_n hx hb dX11_passFromOutside_37 rfl (lv_at hl 1 rfl) ?_
  refine va_get (ci := 8) (C := RX11) (T := TX11) (N := 8) hx hb ht iFX11 hown hK hP 0 rfl rfl 0 (by decide) (ht _ kw1_123) (fun _ h9 => h9) rfl dX11_passFromOutside_38 ?_
  refine wr_S S (c_X2_fromOutside (PK_of (ws := (cW cy ad eb es mb mz tp os bits F G u nb ns T M id ft fo g dq ++ tl) ++ dy) (kb := 1) (ka := 2) (N := 1600) rfl rfl (by omega) (by omega))) kw3_230 yv_X2_fromOutside ⟨Nat.le_of_ble_eq_true rfl, Nat.le_of_ble_eq_true rfl⟩ hK hP hD hS hA rfl hl.1 rfl (Nat.le_of_ble_eq_true rfl) dX11_passFromOutside_41 ⟨(by show _ ≤ 1; omega), (by show _ ≤ 6; omega)⟩ (fun fl H locs hfl hP hD hS => ?_)
  rw [List.append_assoc, ← eq0, ← eport, ← efar, ← efpt, ← eev] at hP hD
  have hP : va_P D vwCl ((cW cy ad eb es mb mz tp os bits F G u nb ns T M id ft fo g dq ++ tl) ++ (dy ++ [fE fl false q port far fpt ev])) H := hP
  have hD : va_D A ((cW cy ad eb es mb mz tp os bits F G u nb ns T M id ft fo g dq ++ tl) ++ (dy ++ [fE fl false q port far fpt ev])) := hD
  obtain ⟨kf, hkf⟩ : ∃ z, z = dy.length := ⟨_, rfl⟩
  have hfd : (dy ++ [fE fl false q port far fpt ev])[kf]? = some (fE fl false q port far fpt ev) := by rw [hkf]; exact app_e
  have hDYf : DY cy e0.1 (dy ++ [fE fl false q port far fpt ev]) eb es nb ns ba sa pt ih il ip pn op so fa fp st en := hDY.ext
  have hT : ((cW cy ad eb es mb mz tp os bits F G u nb ns T M id ft fo g dq ++ tl) ++ (dy ++ [fE fl false q port far fpt ev]))[8]? = some (tE (ad 8) (ad 9) (ad 10) T) := rfl
  have hLb : ((cW cy ad eb es mb mz tp os bits F G u nb ns T M id ft fo g dq ++ tl) ++ (dy ++ [fE fl false q port far fpt ev]))[9]? = some (aL (ad 9) mb eb nb) := rfl
  have hLs : ((cW cy ad eb es mb mz tp os bits F G u nb ns T M id ft fo g dq ++ tl) ++ (dy ++ [fE fl false q port far fpt ev]))[10]? = some (aL (ad 10) mz es ns) := rfl
  have hB : TB1 cy ((cW cy ad eb es mb mz tp os bits F G u nb ns T M id ft fo g dq ++ tl) ++ (dy ++ [fE fl false q port far fpt ev])) e0.1 eb nb ba pt ih il ip pn op := hDYf.1.app
  have hS1 : TS1 cy ((cW cy ad eb es mb mz tp os bits F G u nb ns T M id ft fo g dq ++ tl) ++ (dy ++ [fE fl false q port far fpt ev])) e0.1 es ns nb ba sa so fa fp st en := hDYf.2.1.app
  have hf0 : ((cW cy ad eb es mb mz tp os bits F G u nb ns T M id ft fo g dq ++ tl) ++ (dy ++ [fE fl false q port far fpt ev]))[(cW cy ad eb es mb mz tp os bits F G u nb ns T M id ft fo g dq ++ tl).length + kf]? = some (fE fl false q port far fpt ev) := app_r hfd
  have hST : STP ((cW cy ad eb es mb mz tp os bits F G u nb ns T M id ft fo g dq ++ tl) ++ (dy ++ [fE fl false q port far fpt ev])) (ad 5) bits F G := STP_of (ks := 5) rfl hsi
  have hPL : PLP cy ((cW cy ad eb es mb mz tp os bits F G u nb ns T M id ft fo g dq ++ tl) ++ (dy ++ [fE fl false q port far fpt ev])) (ad 6) g u := PLP_of (kp := 6) (kq := 7) rfl rfl hu4
  refine W.eq (g2 := F0 m 44 ls [.ref fl]) rfl ?_
  refine lv_astore_n (lv' := [(2, .ref fl), (1, .int (nI 0)), (0, .ref (ad 0))]) hx hb dX11_passFromOutside_44 rfl hl (by decide) rfl (fun ls hl => ?_)
  refine lv_aload_n hx hb dX11_passFromOutside_45 rfl (lv_at hl 2 rfl) ?_
  refine va_get (ci := 8) (C := RX11) (T := TX11) (N := 8) hx hb ht iFX11 hown hK hP 0 rfl rfl 4 (by decide) (ht _ kw1_127) (fun _ h9 => h9) rfl dX11_passFromOutside_46 ?_
  refine lv_aload_n hx hb dX11_passFromOutside_49 rfl (lv_at hl 0 rfl) ?_
  refine lv_aload_n hx hb dX11_passFromOutside_50 rfl (lv_at hl 2 rfl) ?_
  refine va_get (ci := 8) (C := RX11) (T := TX11) (N := 8) hx hb ht iFX11 hown hK hP 0 rfl rfl 3 (by decide) (ht _ kw1_126) (fun _ h9 => h9) rfl dX11_passFromOutside_51 ?_
  refine lv_aload_n hx hb dX11_passFromOutside_54 rfl (lv_at hl 2 rfl) ?_
  refine va_get (ci := 8) (C := RX11) (T := TX11) (N := 8) hx hb ht iFX11 hown hK hP 0 rfl rfl 0 (by decide) (ht _ kw1_123) (fun _ h9 => h9) rfl dX11_passFromOutside_55 ?_
  refine nv_bipush (k := 16) hx hb dX11_passFromOutside_58 (by decide) ?_
  refine ro_V S (c_X1_quad (PK_of (ws := (cW cy ad eb es mb mz tp os bits F G u nb ns T M id ft fo g dq ++ tl) ++ (dy ++ [fE fl false q port far fpt ev])) (kb := 1) (ka := 2) (N := 1600) rfl rfl (by omega) (by omega)) (a := 16) (by omega)) kw3_195 yv_X1_quad ⟨Nat.le_of_ble_eq_true rfl, Nat.le_of_ble_eq_true rfl⟩ hK hP (va_recv hK hP (ci := 2) (q0 := 1) rfl rfl) rfl hl.1 rfl (Nat.le_of_ble_eq_true rfl) dX11_passFromOutside_60 ⟨(by show _ ≤ 1; omega), (by show _ ≤ 6; omega)⟩ ?_
  have hq60 := tg_qd_lt ft tp 16
  refine ro_V S (c_X5_numberOf hPL (x := tg_qd (tg_rd ft tp) 16) (tg_qd_lt _ _ _)) kw3_196 yv_X5_numberOf ⟨Nat.le_of_ble_eq_true rfl, Nat.le_of_ble_eq_true rfl⟩ hK hP (va_recv hK hP (ci := 4) (q0 := 6) rfl rfl) rfl hl.1 rfl (Nat.le_of_ble_eq_true rfl) dX11_passFromOutside_63 ⟨(by show _ ≤ 1; omega), (by show _ ≤ 6; omega)⟩ ?_
  rw [(num_is hou.2.2.1).1, ← enum]
  refine ro_V S (c_X10_admitFromOutsideb hT hLb hB hLs hS1 hb_pt hb_ih hb_il hb_ip hb_pn hb_op hb_fa hb_fp hb_st hb_en hf0 hq hport hfar hfpt hev hnum hfb) kw3_234 yv_X10_admitFromOutside ⟨Nat.le_of_ble_eq_true rfl, Nat.le_of_ble_eq_true rfl⟩ hK hP (va_recv hK hP (ci := 7) (q0 := 8) rfl rfl) rfl hl.1 rfl (Nat.le_of_ble_eq_true rfl) dX11_passFromOutside_66 ⟨(by show _ ≤ 1; omega), (by show _ ≤ 6; omega)⟩ ?_
  refine W.eq (g2 := F0 m 69 ls [.null]) rfl ?_
  refine lv_astore_nN (lv' := [(3, .null), (2, .ref fl), (1, .int (nI 0)), (0, .ref (ad 0))]) hx hb dX11_passFromOutside_69 rfl hl (by decide) rfl (fun ls hl => ?_)
  refine lv_aload_nN hx hb dX11_passFromOutside_70 rfl (lv_at hl 0 rfl) ?_
  refine lv_ifnonnullN hx hb dX11_passFromOutside_71 ?_
  refine nv_bipush (k := 15) hx hb dX11_passFromOutside_74 (by decide) ?_
  exact hend _ rfl hDYf hP hD hS dX11_passFromOutside_76
set_option maxHeartbeats 4000000 in
set_option maxRecDepth 100000 in
theorem c_X11_passFromOutsidec {l : Launch} {D : va_G} {cy : Nat → ClassId} {ad : Nat → Nat} {tl dy : va_W} {eb es tp os bits F G u nb ns T M id : Nat} {mb mz : Int32} {ft fo : Nat → UInt8} {g : Nat → Int32} {dq ba sa pt ih il ip pn op so fa fp st en : Nat → Nat} {e0 : Nat × Nat} (htp : tp ≤ 1600) (hos : os ≤ 1620) (hsi : SI bits F G) (hu4 : u ≤ 4) (hDY : DY cy e0.1 dy eb es nb ns ba sa pt ih il ip pn op so fa fp st en) (hb_pt : ∀ i, pt i < 2 ^ 31) (hb_ih : ∀ i, ih i < 2 ^ 64) (hb_il : ∀ i, il i < 2 ^ 64) (hb_ip : ∀ i, ip i < 2 ^ 31) (hb_pn : ∀ i, pn i < 2 ^ 31) (hb_op : ∀ i, op i < 2 ^ 31) (hb_fa : ∀ i, fa i < 2 ^ 32) (hb_fp : ∀ i, fp i < 2 ^ 31) (hb_st : ∀ i, st i ≤ 7) (hb_en : ∀ i, en i < 2 ^ 62) {q port num : Nat} (eq0 : q = tg_rd ft tp 37) (eport : port = tg_pr (tg_rd ft tp) (48 + tg_spa q)) (enum : num = tg_first (fun k => decide (g k = nI (tg_qd (tg_rd ft tp) 40))) u) (hz0 : tg_out (tg_rd ft tp) tp bits g u = 0) (herr : tg_isErr (tg_rd ft tp) = true) (hfb : ¬ tg_first (fun k => decide (pt k = q ∧ pn k = num ∧ op k = port)) nb < nb) : RO l yX11_passFromOutside cX11_passFromOutside 4 (some .int) 5 116 [.ref (ad 0)] D cy ((cW cy ad eb es mb mz tp os bits F G u nb ns T M id ft fo g dq ++ tl) ++ dy) (.int (nI 15)) := by
  refine ROi (by decide) (lv0 := [(0, .ref (ad 0))]) rfl (Nat.le_of_ble_eq_true rfl) ?_
  intro p e s m args below meth c ls Q S hP hK hend hl
  have hx := S.1
  have hb := S.2.1
  have hown : s.vm.findClass RX11 = some m.cls := S.2.2.2.1
  have ht : ∀ w ∈ lw_g, w.before args s = true := fun w h => S.2.2.2.2 w (List.mem_cons_of_mem _ h)
  have hP : va_P D vwCl ((cW cy ad eb es mb mz tp os bits F G u nb ns T M id ft fo g dq ++ tl) ++ dy) s.heap := hP
  have hT : ((cW cy ad eb es mb mz tp os bits F G u nb ns T M id ft fo g dq ++ tl) ++ dy)[8]? = some (tE (ad 8) (ad 9) (ad 10) T) := rfl
  have hLb : ((cW cy ad eb es mb mz tp os bits F G u nb ns T M id ft fo g dq ++ tl) ++ dy)[9]? = some (aL (ad 9) mb eb nb) := rfl
  have hLs : ((cW cy ad eb es mb mz tp os bits F G u nb ns T M id ft fo g dq ++ tl) ++ dy)[10]? = some (aL (ad 10) mz es ns) := rfl
  have hB : TB1 cy ((cW cy ad eb es mb mz tp os bits F G u nb ns T M id ft fo g dq ++ tl) ++ dy) e0.1 eb nb ba pt ih il ip pn op := hDY.1.app
  have hS1 : TS1 cy ((cW cy ad eb es mb mz tp os bits F G u nb ns T M id ft fo g dq ++ tl) ++ dy) e0.1 es ns nb ba sa so fa fp st en := hDY.2.1.app
  have hST : STP ((cW cy ad eb es mb mz tp os bits F G u nb ns T M id ft fo g dq ++ tl) ++ dy) (ad 5) bits F G := STP_of (ks := 5) rfl hsi
  have hPL : PLP cy ((cW cy ad eb es mb mz tp os bits F G u nb ns T M id ft fo g dq ++ tl) ++ dy) (ad 6) g u := PLP_of (kp := 6) (kq := 7) rfl rfl hu4
  have hnb := hB.le
  have hns := hS1.le
  have hou := out0 hz0
  have her := hou.2.2.2 herr
  have hnu : num < u := by rw [enum]; exact (num_is her.2.2).2
  have hq3 : q = 1 ∨ q = 6 ∨ q = 17 := by rw [eq0]; exact her.2.1
  have hport : port < 65536 := by rw [eport]; exact tg_pr_lt _ _ _
  refine lv_aload_n hx hb dX11_passFromOutside_0 rfl (lv_at hl 0 rfl) ?_
  refine va_get (ci := 8) (C := RX11) (T := TX11) (N := 8) hx hb ht iFX11 hown hK hP 0 rfl rfl 0 (by decide) (ht _ kw1_123) (fun _ h9 => h9) rfl dX11_passFromOutside_1 ?_
  refine lv_aload_n hx hb dX11_passFromOutside_4 rfl (lv_at hl 0 rfl) ?_
  refine va_get (ci := 8) (C := RX11) (T := TX11) (N := 8) hx hb ht iFX11 hown hK hP 0 rfl rfl 2 (by decide) (ht _ kw1_125) (fun _ h9 => h9) rfl dX11_passFromOutside_5 ?_
  refine lv_aload_n hx hb dX11_passFromOutside_8 rfl (lv_at hl 0 rfl) ?_
  refine va_get (ci := 8) (C := RX11) (T := TX11) (N := 8) hx hb ht iFX11 hown hK hP 0 rfl rfl 3 (by decide) (ht _ kw1_126) (fun _ h9 => h9) rfl dX11_passFromOutside_9 ?_
  refine ro_S S (c_X6_faultFromOutside (PK_of (ws := (cW cy ad eb es mb mz tp os bits F G u nb ns T M id ft fo g dq ++ tl) ++ dy) (kb := 1) (ka := 2) (N := 1600) rfl rfl (by omega) (by omega)) hST hPL) kw3_158 yv_X6_faultFromOutside ⟨Nat.le_of_ble_eq_true rfl, Nat.le_of_ble_eq_true rfl⟩ hK hP rfl hl.1 rfl (Nat.le_of_ble_eq_true rfl) dX11_passFromOutside_12 ⟨(Nat.zero_le _), (Nat.zero_le _)⟩ ?_
  rw [hz0]
  refine lv_istore_n (lv' := [(1, .int (nI 0)), (0, .ref (ad 0))]) hx hb dX11_passFromOutside_15 rfl hl (by decide) rfl (fun ls hl => ?_)
  refine lv_iload_n hx hb dX11_passFromOutside_16 rfl (lv_at hl 0 rfl) ?_
  refine nv_if_eq (tgt := 22) hx hb dX11_passFromOutside_17 (by decide) (by omega) (fun _ => ?_) (fun h => absurd h (by decide))
  refine lv_aload_n hx hb dX11_passFromOutside_22 rfl (lv_at hl 1 rfl) ?_
  refine va_get (ci := 8) (C := RX11) (T := TX11) (N := 8) hx hb ht iFX11 hown hK hP 0 rfl rfl 0 (by decide) (ht _ kw1_123) (fun _ h9 => h9) rfl dX11_passFromOutside_23 ?_
  refine ro_S S (c_X4_isError (PK_of (ws := (cW cy ad eb es mb mz tp os bits F G u nb ns T M id ft fo g dq ++ tl) ++ dy) (kb := 1) (ka := 2) (N := 1600) rfl rfl (by omega) (by omega))) kw3_189 yv_X4_isError ⟨Nat.le_of_ble_eq_true rfl, Nat.le_of_ble_eq_true rfl⟩ hK hP rfl hl.1 rfl (Nat.le_of_ble_eq_true rfl) dX11_passFromOutside_26 ⟨(Nat.zero_le _), (Nat.zero_le _)⟩ ?_
  rw [herr]
  refine nv_if_eqb (tgt := 37) hx hb dX11_passFromOutside_29 (by decide) (fun h => absurd h (by decide)) (fun _ => ?_)
  refine lv_aload_n hx hb dX11_passFromOutside_32 rfl (lv_at hl 1 rfl) ?_
  refine ro_V S (c_X11_passError0 (e0 := e0) htp hos hsi hu4 hDY hb_pt hb_ih hb_il hb_ip hb_pn hb_op hb_fa hb_fp hb_st hb_en eq0 eport enum hz0 herr hfb) kw3_190 yv_X11_passError ⟨Nat.le_of_ble_eq_true rfl, Nat.le_of_ble_eq_true rfl⟩ hK hP (va_recv hK hP (ci := 8) (q0 := 0) rfl rfl) rfl hl.1 rfl (Nat.le_of_ble_eq_true rfl) dX11_passFromOutside_33 ⟨(Nat.zero_le _), (Nat.zero_le _)⟩ ?_
  exact hend (rfl) dX11_passFromOutside_36
set_option maxHeartbeats 4000000 in
set_option maxRecDepth 100000 in
theorem c_X11_passFromOutsidee {l : Launch} {D : va_G} {cy : Nat → ClassId} {ad : Nat → Nat} {tl dy : va_W} {eb es tp os bits F G u nb ns T M id : Nat} {mb mz : Int32} {ft fo : Nat → UInt8} {g : Nat → Int32} {dq ba sa pt ih il ip pn op so fa fp st en : Nat → Nat} {e0 : Nat × Nat} (htp : tp ≤ 1600) (hos : os ≤ 1620) (hsi : SI bits F G) (hu4 : u ≤ 4) (hDY : DY cy e0.1 dy eb es nb ns ba sa pt ih il ip pn op so fa fp st en) (hb_pt : ∀ i, pt i < 2 ^ 31) (hb_ih : ∀ i, ih i < 2 ^ 64) (hb_il : ∀ i, il i < 2 ^ 64) (hb_ip : ∀ i, ip i < 2 ^ 31) (hb_pn : ∀ i, pn i < 2 ^ 31) (hb_op : ∀ i, op i < 2 ^ 31) (hb_fa : ∀ i, fa i < 2 ^ 32) (hb_fp : ∀ i, fp i < 2 ^ 31) (hb_st : ∀ i, st i ≤ 7) (hb_en : ∀ i, en i < 2 ^ 62) {q port num : Nat} (eq0 : q = tg_rd ft tp 37) (eport : port = tg_pr (tg_rd ft tp) (48 + tg_spa q)) (enum : num = tg_first (fun k => decide (g k = nI (tg_qd (tg_rd ft tp) 40))) u) (hz0 : tg_out (tg_rd ft tp) tp bits g u = 0) (herr : tg_isErr (tg_rd ft tp) = true) {b : Nat} (hb9 : b < nb) (hfb : tg_first (fun k => decide (pt k = q ∧ pn k = num ∧ op k = port)) nb = b) (hip9 : ip b < 65536) : WR (S := Unit) l yX11_passFromOutside cX11_passFromOutside 4 (some .int) 5 0 0 124 [.ref (ad 0)] D cy ((cW cy ad eb es mb mz tp os bits F G u nb ns T M id ft fo g dq ++ tl) ++ dy) (fun u_ => some (.int (nI 0))) (fun _ => True) (fun _ => (cW cy ad eb es mb mz tp (min (tp + 40) 1280) bits F G u nb ns T M id ft (tg_fin (tg_wi (tg_er1 fo ft tp (ih b) (il b) bits F G) ft tp (min (tp + 40) 1280) q (ip b) (ih b) (il b) bits F G) (min (tp + 40) 1280) 40 58) g dq ++ tl) ++ dy) := by
  refine WRi (by decide) (lv0 := [(0, .ref (ad 0))]) rfl (Nat.le_of_ble_eq_true rfl) ?_
  intro p e s m args below meth c ls A Q S hnm hP hK hD hS hA hend hl
  have hx := S.1
  have hb := S.2.1
  have hown : s.vm.findClass RX11 = some m.cls := S.2.2.2.1
  have ht : ∀ w ∈ lw_g, w.before args s = true := fun w h => S.2.2.2.2 w (List.mem_cons_of_mem _ h)
  have hP : va_P D vwCl ((cW cy ad eb es mb mz tp os bits F G u nb ns T M id ft fo g dq ++ tl) ++ dy) s.heap := hP
  have hT : ((cW cy ad eb es mb mz tp os bits F G u nb ns T M id ft fo g dq ++ tl) ++ dy)[8]? = some (tE (ad 8) (ad 9) (ad 10) T) := rfl
  have hLb : ((cW cy ad eb es mb mz tp os bits F G u nb ns T M id ft fo g dq ++ tl) ++ dy)[9]? = some (aL (ad 9) mb eb nb) := rfl
  have hLs : ((cW cy ad eb es mb mz tp os bits F G u nb ns T M id ft fo g dq ++ tl) ++ dy)[10]? = some (aL (ad 10) mz es ns) := rfl
  have hB : TB1 cy ((cW cy ad eb es mb mz tp os bits F G u nb ns T M id ft fo g dq ++ tl) ++ dy) e0.1 eb nb ba pt ih il ip pn op := hDY.1.app
  have hS1 : TS1 cy ((cW cy ad eb es mb mz tp os bits F G u nb ns T M id ft fo g dq ++ tl) ++ dy) e0.1 es ns nb ba sa so fa fp st en := hDY.2.1.app
  have hST : STP ((cW cy ad eb es mb mz tp os bits F G u nb ns T M id ft fo g dq ++ tl) ++ dy) (ad 5) bits F G := STP_of (ks := 5) rfl hsi
  have hPL : PLP cy ((cW cy ad eb es mb mz tp os bits F G u nb ns T M id ft fo g dq ++ tl) ++ dy) (ad 6) g u := PLP_of (kp := 6) (kq := 7) rfl rfl hu4
  have hnb := hB.le
  have hns := hS1.le
  have hou := out0 hz0
  have her := hou.2.2.2 herr
  have hnu : num < u := by rw [enum]; exact (num_is her.2.2).2
  have hq3 : q = 1 ∨ q = 6 ∨ q = 17 := by rw [eq0]; exact her.2.1
  have hport : port < 65536 := by rw [eport]; exact tg_pr_lt _ _ _
  refine lv_aload_n hx hb dX11_passFromOutside_0 rfl (lv_at hl 0 rfl) ?_
  refine va_get (ci := 8) (C := RX11) (T := TX11) (N := 8) hx hb ht iFX11 hown hK hP 0 rfl rfl 0 (by decide) (ht _ kw1_123) (fun _ h9 => h9) rfl dX11_passFromOutside_1 ?_
  refine lv_aload_n hx hb dX11_passFromOutside_4 rfl (lv_at hl 0 rfl) ?_
  refine va_get (ci := 8) (C := RX11) (T := TX11) (N := 8) hx hb ht iFX11 hown hK hP 0 rfl rfl 2 (by decide) (ht _ kw1_125) (fun _ h9 => h9) rfl dX11_passFromOutside_5 ?_
  refine lv_aload_n hx hb dX11_passFromOutside_8 rfl (lv_at hl 0 rfl) ?_
  refine va_get (ci := 8) (C := RX11) (T := TX11) (N := 8) hx hb ht iFX11 hown hK hP 0 rfl rfl 3 (by decide) (ht _ kw1_126) (fun _ h9 => h9) rfl dX11_passFromOutside_9 ?_
  refine ro_S S (c_X6_faultFromOutside (PK_of (ws := (cW cy ad eb es mb mz tp os bits F G u nb ns T M id ft fo g dq ++ tl) ++ dy) (kb := 1) (ka := 2) (N := 1600) rfl rfl (by omega) (by omega)) hST hPL) kw3_158 yv_X6_faultFromOutside ⟨Nat.le_of_ble_eq_true rfl, Nat.le_of_ble_eq_true rfl⟩ hK hP rfl hl.1 rfl (Nat.le_of_ble_eq_true rfl) dX11_passFromOutside_12 ⟨(Nat.zero_le _), (Nat.zero_le _)⟩ ?_
  rw [hz0]
  refine lv_istore_n (lv' := [(1, .int (nI 0)), (0, .ref (ad 0))]) hx hb dX11_passFromOutside_15 rfl hl (by decide) rfl (fun ls hl => ?_)
  refine lv_iload_n hx hb dX11_passFromOutside_16 rfl (lv_at hl 0 rfl) ?_
  refine nv_if_eq (tgt := 22) hx hb dX11_passFromOutside_17 (by decide) (by omega) (fun _ => ?_) (fun h => absurd h (by decide))
  refine lv_aload_n hx hb dX11_passFromOutside_22 rfl (lv_at hl 1 rfl) ?_
  refine va_get (ci := 8) (C := RX11) (T := TX11) (N := 8) hx hb ht iFX11 hown hK hP 0 rfl rfl 0 (by decide) (ht _ kw1_123) (fun _ h9 => h9) rfl dX11_passFromOutside_23 ?_
  refine ro_S S (c_X4_isError (PK_of (ws := (cW cy ad eb es mb mz tp os bits F G u nb ns T M id ft fo g dq ++ tl) ++ dy) (kb := 1) (ka := 2) (N := 1600) rfl rfl (by omega) (by omega))) kw3_189 yv_X4_isError ⟨Nat.le_of_ble_eq_true rfl, Nat.le_of_ble_eq_true rfl⟩ hK hP rfl hl.1 rfl (Nat.le_of_ble_eq_true rfl) dX11_passFromOutside_26 ⟨(Nat.zero_le _), (Nat.zero_le _)⟩ ?_
  rw [herr]
  refine nv_if_eqb (tgt := 37) hx hb dX11_passFromOutside_29 (by decide) (fun h => absurd h (by decide)) (fun _ => ?_)
  refine lv_aload_n hx hb dX11_passFromOutside_32 rfl (lv_at hl 1 rfl) ?_
  refine wr_V S (c_X11_passError1 (e0 := e0) htp hos hsi hu4 hDY hb_pt hb_ih hb_il hb_ip hb_pn hb_op hb_fa hb_fp hb_st hb_en eq0 eport enum hz0 herr hb9 hfb hip9) kw3_190 yv_X11_passError ⟨Nat.le_of_ble_eq_true rfl, Nat.le_of_ble_eq_true rfl⟩ hK hP hD hS hA (va_recv hK hP (ci := 8) (q0 := 0) rfl rfl) rfl hl.1 rfl (Nat.le_of_ble_eq_true rfl) dX11_passFromOutside_33 ⟨(Nat.zero_le _), (Nat.zero_le _)⟩ (fun z1 H locs hz1 hP hD hS => ?_)
  have hP : va_P D vwCl ((cW cy ad eb es mb mz tp (min (tp + 40) 1280) bits F G u nb ns T M id ft (tg_fin (tg_wi (tg_er1 fo ft tp (ih b) (il b) bits F G) ft tp (min (tp + 40) 1280) q (ip b) (ih b) (il b) bits F G) (min (tp + 40) 1280) 40 58) g dq ++ tl) ++ dy) H := hP
  have hD : va_D A ((cW cy ad eb es mb mz tp (min (tp + 40) 1280) bits F G u nb ns T M id ft (tg_fin (tg_wi (tg_er1 fo ft tp (ih b) (il b) bits F G) ft tp (min (tp + 40) 1280) q (ip b) (ih b) (il b) bits F G) (min (tp + 40) 1280) 40 58) g dq ++ tl) ++ dy) := hD
  refine W.eq (g2 := F0 m 36 ls [.int (nI 0)]) rfl ?_
  exact hend () rfl trivial hP hD hS dX11_passFromOutside_36
set_option maxHeartbeats 4000000 in
set_option maxRecDepth 100000 in
theorem c_X11_outside0 {l : Launch} {D : va_G} {cy : Nat → ClassId} {ad : Nat → Nat} {tl dy : va_W} {eb es tp os bits F G u nb ns T M id : Nat} {mb mz : Int32} {ft fo : Nat → UInt8} {g : Nat → Int32} {dq : Nat → Nat} (htp : tp ≤ 1600) (hos : os ≤ 1620) (hsi : SI bits F G) (hu4 : u ≤ 4) {n9 : Nat} (hn9 : n9 ≤ tp) (hz0 : tg_out (tg_rd ft n9) n9 bits g u ≠ 0) : WR (S := Unit) l yX11_outside cX11_outside 2 (some .int) 6 0 0 139 [.ref (ad 0), .int (nI n9)] D cy ((cW cy ad eb es mb mz tp os bits F G u nb ns T M id ft fo g dq ++ tl) ++ dy) (fun u_ => some (.int (- nI (tg_out (tg_rd ft n9) n9 bits g u)))) (fun _ => True) (fun _ => (cW cy ad eb es mb mz 0 os bits F G u nb ns T M id ft fo g (va_up dq ((tg_out (tg_rd ft n9) n9 bits g u) - 10) (dq ((tg_out (tg_rd ft n9) n9 bits g u) - 10) + 1)) ++ tl) ++ dy) := by
  refine WRi (by decide) (lv0 := [(0, .ref (ad 0)), (1, .int (nI n9))]) rfl (Nat.le_of_ble_eq_true rfl) ?_
  intro p e s m args below meth c ls A Q S hnm hP hK hD hS hA hend hl
  have hx := S.1
  have hb := S.2.1
  have hown : s.vm.findClass RX11 = some m.cls := S.2.2.2.1
  have ht : ∀ w ∈ lw_g, w.before args s = true := fun w h => S.2.2.2.2 w (List.mem_cons_of_mem _ h)
  have hP : va_P D vwCl ((cW cy ad eb es mb mz tp os bits F G u nb ns T M id ft fo g dq ++ tl) ++ dy) s.heap := hP
  have hT : ((cW cy ad eb es mb mz tp os bits F G u nb ns T M id ft fo g dq ++ tl) ++ dy)[8]? = some (tE (ad 8) (ad 9) (ad 10) T) := rfl
  have hLb : ((cW cy ad eb es mb mz tp os bits F G u nb ns T M id ft fo g dq ++ tl) ++ dy)[9]? = some (aL (ad 9) mb eb nb) := rfl
  have hLs : ((cW cy ad eb es mb mz tp os bits F G u nb ns T M id ft fo g dq ++ tl) ++ dy)[10]? = some (aL (ad 10) mz es ns) := rfl
  have hST : STP ((cW cy ad eb es mb mz tp os bits F G u nb ns T M id ft fo g dq ++ tl) ++ dy) (ad 5) bits F G := STP_of (ks := 5) rfl hsi
  have hPL : PLP cy ((cW cy ad eb es mb mz tp os bits F G u nb ns T M id ft fo g dq ++ tl) ++ dy) (ad 6) g u := PLP_of (kp := 6) (kq := 7) rfl rfl hu4
  refine lv_iload_n hx hb dX11_outside_0 rfl (lv_at hl 1 rfl) ?_
  refine nv_if_lt (tgt := 15) hx hb dX11_outside_1 (by decide) (by omega) ?_
  refine lv_iload_n hx hb dX11_outside_4 rfl (lv_at hl 1 rfl) ?_
  refine lv_aload_n hx hb dX11_outside_5 rfl (lv_at hl 0 rfl) ?_
  refine va_get (ci := 8) (C := RX11) (T := TX11) (N := 8) hx hb ht iFX11 hown hK hP 0 rfl rfl 0 (by decide) (ht _ kw1_123) (fun _ h9 => h9) rfl dX11_outside_6 ?_
  refine ro_V S (c_X1_length (PK_of (ws := (cW cy ad eb es mb mz tp os bits F G u nb ns T M id ft fo g dq ++ tl) ++ dy) (kb := 1) (ka := 2) (N := 1600) rfl rfl (by omega) (by omega))) kw1_220 yv_X1_length ⟨Nat.le_of_ble_eq_true rfl, Nat.le_of_ble_eq_true rfl⟩ hK hP (va_recv hK hP (ci := 2) (q0 := 1) rfl rfl) rfl hl.1 rfl (Nat.le_of_ble_eq_true rfl) dX11_outside_9 ⟨(Nat.zero_le _), (Nat.zero_le _)⟩ ?_
  refine nv_icmp_le (tgt := 17) hx hb dX11_outside_12 (by decide) (by omega) (by omega) (fun h12 => ?_) (fun h12 => ?_)
  · skip
    refine lv_aload_n hx hb dX11_outside_17 rfl (lv_at hl 0 rfl) ?_
    refine va_get (ci := 8) (C := RX11) (T := TX11) (N := 8) hx hb ht iFX11 hown hK hP 0 rfl rfl 0 (by decide) (ht _ kw1_123) (fun _ h9 => h9) rfl dX11_outside_18 ?_
    refine lv_iload_n hx hb dX11_outside_21 rfl (lv_at hl 1 rfl) ?_
    refine wr_V S (c_X1_resize (ws := (cW cy ad eb es mb mz tp os bits F G u nb ns T M id ft fo g dq ++ tl) ++ dy) (kb := 1) (ka := 2) rfl rfl (by omega) (by omega) (x := n9) (by omega)) kw1_224 yv_X1_resize ⟨Nat.le_of_ble_eq_true rfl, Nat.le_of_ble_eq_true rfl⟩ hK hP hD hS hA (va_recv hK hP (ci := 2) (q0 := 1) rfl rfl) rfl hl.1 rfl (Nat.le_of_ble_eq_true rfl) dX11_outside_22 ⟨(Nat.zero_le _), (Nat.zero_le _)⟩ (fun g22 H locs hg22 hP hD hS => ?_)
    have hP : va_P D vwCl ((cW cy ad eb es mb mz n9 os bits F G u nb ns T M id ft fo g dq ++ tl) ++ dy) H := hP
    have hD : va_D A ((cW cy ad eb es mb mz n9 os bits F G u nb ns T M id ft fo g dq ++ tl) ++ dy) := hD
    refine W.eq (g2 := F0 m 25 ls []) rfl ?_
    refine lv_aload_n hx hb dX11_outside_25 rfl (lv_at hl 0 rfl) ?_
    refine lv_aload_n hx hb dX11_outside_26 rfl (lv_at hl 0 rfl) ?_
    refine ro_V S (c_X11_passFromOutside0 (by omega) (by omega) hsi hu4 hz0) kw3_154 yv_X11_passFromOutside ⟨Nat.le_of_ble_eq_true rfl, Nat.le_of_ble_eq_true rfl⟩ hK hP (va_recv hK hP (ci := 8) (q0 := 0) rfl rfl) rfl hl.1 rfl (Nat.le_of_ble_eq_true rfl) dX11_outside_27 ⟨(Nat.zero_le _), (Nat.zero_le _)⟩ ?_
    have hle9 : tg_out (tg_rd ft n9) n9 bits g u ≤ 14 ∧ (tg_out (tg_rd ft n9) n9 bits g u = 0 ∨ 10 ≤ tg_out (tg_rd ft n9) n9 bits g u) := by unfold tg_out; (repeat' split) <;> omega
    refine wr_V S (c_X11_closePacketD (by omega) (by omega) hsi hu4 (x := tg_out (tg_rd ft n9) n9 bits g u) (by omega) (by omega)) kw3_146 yv_X11_closePacket ⟨Nat.le_of_ble_eq_true rfl, Nat.le_of_ble_eq_true rfl⟩ hK hP hD hS hA (va_recv hK hP (ci := 8) (q0 := 0) rfl rfl) rfl hl.1 rfl (Nat.le_of_ble_eq_true rfl) dX11_outside_30 ⟨(Nat.zero_le _), (Nat.zero_le _)⟩ (fun u30 H locs hu30 hP hD hS => ?_)
    have hP : va_P D vwCl ((cW cy ad eb es mb mz 0 os bits F G u nb ns T M id ft fo g (va_up dq ((tg_out (tg_rd ft n9) n9 bits g u) - 10) (dq ((tg_out (tg_rd ft n9) n9 bits g u) - 10) + 1)) ++ tl) ++ dy) H := hP
    have hD : va_D A ((cW cy ad eb es mb mz 0 os bits F G u nb ns T M id ft fo g (va_up dq ((tg_out (tg_rd ft n9) n9 bits g u) - 10) (dq ((tg_out (tg_rd ft n9) n9 bits g u) - 10) + 1)) ++ tl) ++ dy) := hD
    refine W.eq (g2 := F0 m 33 ls [.int (- nI (tg_out (tg_rd ft n9) n9 bits g u))]) rfl ?_
    exact hend () rfl trivial hP hD hS dX11_outside_33
  exact absurd h12 (by omega)
set_option maxHeartbeats 4000000 in
set_option maxRecDepth 100000 in
theorem c_X11_outside1 {l : Launch} {D : va_G} {cy : Nat → ClassId} {ad : Nat → Nat} {tl dy : va_W} {eb es tp os bits F G u nb ns T M id : Nat} {mb mz : Int32} {ft fo : Nat → UInt8} {g : Nat → Int32} {dq ba sa pt ih il ip pn op so fa fp st en : Nat → Nat} {e0 : Nat × Nat} (htp : tp ≤ 1600) (hos : os ≤ 1620) (hsi : SI bits F G) (hu4 : u ≤ 4) (hDY : DY cy e0.1 dy eb es nb ns ba sa pt ih il ip pn op so fa fp st en) (hb_pt : ∀ i, pt i < 2 ^ 31) (hb_ih : ∀ i, ih i < 2 ^ 64) (hb_il : ∀ i, il i < 2 ^ 64) (hb_ip : ∀ i, ip i < 2 ^ 31) (hb_pn : ∀ i, pn i < 2 ^ 31) (hb_op : ∀ i, op i < 2 ^ 31) (hb_fa : ∀ i, fa i < 2 ^ 32) (hb_fp : ∀ i, fp i < 2 ^ 31) (hb_st : ∀ i, st i ≤ 7) (hb_en : ∀ i, en i < 2 ^ 62) {n9 : Nat} (hn9 : n9 ≤ tp) {q port far fpt ev num : Nat} (eq0 : q = tg_rd ft n9 9) (eport : port = tg_pr (tg_rd ft n9) (20 + tg_dpa q)) (efar : far = tg_qd (tg_rd ft n9) 12) (efpt : fpt = if q = 1 then 0 else tg_pr (tg_rd ft n9) (20 + tg_spa q)) (eev : ev = tg_event (tg_rd ft n9) 20 q) (enum : num = tg_first (fun k => decide (g k = nI (tg_qd (tg_rd ft n9) 16))) u) (hz0 : tg_out (tg_rd ft n9) n9 bits g u = 0) (herr : tg_isErr (tg_rd ft n9) = false) {b : Nat} (hb9 : b < nb) (hfb : tg_first (fun k => decide (pt k = q ∧ pn k = num ∧ op k = port)) nb = b) {j : Nat} (hj9 : j < ns) (hfj : tg_first (fun k => decide (so k = b ∧ fa k = far ∧ fp k = fpt)) ns = j) (hip9 : ip b < 65536) : WR (S := va_W) l yX11_outside cX11_outside 2 (some .int) 6 1 6 142 [.ref (ad 0), .int (nI n9)] D cy ((cW cy ad eb es mb mz tp os bits F G u nb ns T M id ft fo g dq ++ tl) ++ dy) (fun u_ => some (.int (nI (40 + (n9 - 20))))) (fun z9 => DY cy e0.1 z9 eb es nb ns ba sa pt ih il ip pn op so fa fp (if tg_nxt (st j) ev false = 8 then st else va_up st j (tg_nxt (st j) ev false)) (if tg_nxt (st j) ev false = 8 then en else va_up en j (T + tg_life (tg_nxt (st j) ev false) q))) (fun z9 => (cW cy ad eb es mb mz 0 (40 + (n9 - 20)) bits F G u nb ns T (M + 1) id ft (tg_sx fo ft n9 q (ip b) (ih b) (il b) bits F G) g dq ++ tl) ++ z9) := by
  refine WRi (by decide) (lv0 := [(0, .ref (ad 0)), (1, .int (nI n9))]) rfl (Nat.le_of_ble_eq_true rfl) ?_
  intro p e s m args below meth c ls A Q S hnm hP hK hD hS hA hend hl
  have hx := S.1
  have hb := S.2.1
  have hown : s.vm.findClass RX11 = some m.cls := S.2.2.2.1
  have ht : ∀ w ∈ lw_g, w.before args s = true := fun w h => S.2.2.2.2 w (List.mem_cons_of_mem _ h)
  have hP : va_P D vwCl ((cW cy ad eb es mb mz tp os bits F G u nb ns T M id ft fo g dq ++ tl) ++ dy) s.heap := hP
  have hT : ((cW cy ad eb es mb mz tp os bits F G u nb ns T M id ft fo g dq ++ tl) ++ dy)[8]? = some (tE (ad 8) (ad 9) (ad 10) T) := rfl
  have hLb : ((cW cy ad eb es mb mz tp os bits F G u nb ns T M id ft fo g dq ++ tl) ++ dy)[9]? = some (aL (ad 9) mb eb nb) := rfl
  have hLs : ((cW cy ad eb es mb mz tp os bits F G u nb ns T M id ft fo g dq ++ tl) ++ dy)[10]? = some (aL (ad 10) mz es ns) := rfl
  have hB : TB1 cy ((cW cy ad eb es mb mz tp os bits F G u nb ns T M id ft fo g dq ++ tl) ++ dy) e0.1 eb nb ba pt ih il ip pn op := hDY.1.app
  have hS1 : TS1 cy ((cW cy ad eb es mb mz tp os bits F G u nb ns T M id ft fo g dq ++ tl) ++ dy) e0.1 es ns nb ba sa so fa fp st en := hDY.2.1.app
  have hST : STP ((cW cy ad eb es mb mz tp os bits F G u nb ns T M id ft fo g dq ++ tl) ++ dy) (ad 5) bits F G := STP_of (ks := 5) rfl hsi
  have hPL : PLP cy ((cW cy ad eb es mb mz tp os bits F G u nb ns T M id ft fo g dq ++ tl) ++ dy) (ad 6) g u := PLP_of (kp := 6) (kq := 7) rfl rfl hu4
  have hnb := hB.le
  have hns := hS1.le
  have hn40 : 28 ≤ n9 := (out0 hz0).1.1
  refine lv_iload_n hx hb dX11_outside_0 rfl (lv_at hl 1 rfl) ?_
  refine nv_if_lt (tgt := 15) hx hb dX11_outside_1 (by decide) (by omega) ?_
  refine lv_iload_n hx hb dX11_outside_4 rfl (lv_at hl 1 rfl) ?_
  refine lv_aload_n hx hb dX11_outside_5 rfl (lv_at hl 0 rfl) ?_
  refine va_get (ci := 8) (C := RX11) (T := TX11) (N := 8) hx hb ht iFX11 hown hK hP 0 rfl rfl 0 (by decide) (ht _ kw1_123) (fun _ h9 => h9) rfl dX11_outside_6 ?_
  refine ro_V S (c_X1_length (PK_of (ws := (cW cy ad eb es mb mz tp os bits F G u nb ns T M id ft fo g dq ++ tl) ++ dy) (kb := 1) (ka := 2) (N := 1600) rfl rfl (by omega) (by omega))) kw1_220 yv_X1_length ⟨Nat.le_of_ble_eq_true rfl, Nat.le_of_ble_eq_true rfl⟩ hK hP (va_recv hK hP (ci := 2) (q0 := 1) rfl rfl) rfl hl.1 rfl (Nat.le_of_ble_eq_true rfl) dX11_outside_9 ⟨(by show _ ≤ 1; omega), (by show _ ≤ 6; omega)⟩ ?_
  refine nv_icmp_le (tgt := 17) hx hb dX11_outside_12 (by decide) (by omega) (by omega) (fun h12 => ?_) (fun h12 => ?_)
  · skip
    refine lv_aload_n hx hb dX11_outside_17 rfl (lv_at hl 0 rfl) ?_
    refine va_get (ci := 8) (C := RX11) (T := TX11) (N := 8) hx hb ht iFX11 hown hK hP 0 rfl rfl 0 (by decide) (ht _ kw1_123) (fun _ h9 => h9) rfl dX11_outside_18 ?_
    refine lv_iload_n hx hb dX11_outside_21 rfl (lv_at hl 1 rfl) ?_
    refine wr_V S (c_X1_resize (ws := (cW cy ad eb es mb mz tp os bits F G u nb ns T M id ft fo g dq ++ tl) ++ dy) (kb := 1) (ka := 2) rfl rfl (by omega) (by omega) (x := n9) (by omega)) kw1_224 yv_X1_resize ⟨Nat.le_of_ble_eq_true rfl, Nat.le_of_ble_eq_true rfl⟩ hK hP hD hS hA (va_recv hK hP (ci := 2) (q0 := 1) rfl rfl) rfl hl.1 rfl (Nat.le_of_ble_eq_true rfl) dX11_outside_22 ⟨(by show _ ≤ 1; omega), (by show _ ≤ 6; omega)⟩ (fun g22 H locs hg22 hP hD hS => ?_)
    have hP : va_P D vwCl ((cW cy ad eb es mb mz n9 os bits F G u nb ns T M id ft fo g dq ++ tl) ++ dy) H := hP
    have hD : va_D A ((cW cy ad eb es mb mz n9 os bits F G u nb ns T M id ft fo g dq ++ tl) ++ dy) := hD
    refine W.eq (g2 := F0 m 25 ls []) rfl ?_
    refine lv_aload_n hx hb dX11_outside_25 rfl (lv_at hl 0 rfl) ?_
    refine lv_aload_n hx hb dX11_outside_26 rfl (lv_at hl 0 rfl) ?_
    refine wr_V S (c_X11_passFromOutside1 (e0 := e0) (by omega) (by omega) hsi hu4 hDY hb_pt hb_ih hb_il hb_ip hb_pn hb_op hb_fa hb_fp hb_st hb_en eq0 eport efar efpt eev enum hz0 herr hb9 hfb hj9 hfj hip9) kw3_154 yv_X11_passFromOutside ⟨Nat.le_of_ble_eq_true rfl, Nat.le_of_ble_eq_true rfl⟩ hK hP hD hS hA (va_recv hK hP (ci := 8) (q0 := 0) rfl rfl) rfl hl.1 rfl (Nat.le_of_ble_eq_true rfl) dX11_outside_27 ⟨(by show _ ≤ 1; omega), (by show _ ≤ 6; omega)⟩ (fun z1 H locs hz1 hP hD hS => ?_)
    have hP : va_P D vwCl ((cW cy ad eb es mb mz n9 (40 + (n9 - 20)) bits F G u nb ns T M id ft (tg_sx fo ft n9 q (ip b) (ih b) (il b) bits F G) g dq ++ tl) ++ z1) H := hP
    have hD : va_D A ((cW cy ad eb es mb mz n9 (40 + (n9 - 20)) bits F G u nb ns T M id ft (tg_sx fo ft n9 q (ip b) (ih b) (il b) bits F G) g dq ++ tl) ++ z1) := hD
    refine W.eq (g2 := F0 m 30 ls [.int (nI 0), .ref (ad 0)]) rfl ?_
    refine wr_V S (c_X11_closePacketM (by omega) (by omega) hsi hu4) kw3_146 yv_X11_closePacket ⟨Nat.le_of_ble_eq_true rfl, Nat.le_of_ble_eq_true rfl⟩ hK hP hD hS hA (va_recv hK hP (ci := 8) (q0 := 0) rfl rfl) rfl hl.1 rfl (Nat.le_of_ble_eq_true rfl) dX11_outside_30 ⟨(by show _ ≤ 1; omega), (by show _ ≤ 6; omega)⟩ (fun u30 H locs hu30 hP hD hS => ?_)
    have hP : va_P D vwCl ((cW cy ad eb es mb mz 0 (40 + (n9 - 20)) bits F G u nb ns T (M + 1) id ft (tg_sx fo ft n9 q (ip b) (ih b) (il b) bits F G) g dq ++ tl) ++ z1) H := hP
    have hD : va_D A ((cW cy ad eb es mb mz 0 (40 + (n9 - 20)) bits F G u nb ns T (M + 1) id ft (tg_sx fo ft n9 q (ip b) (ih b) (il b) bits F G) g dq ++ tl) ++ z1) := hD
    refine W.eq (g2 := F0 m 33 ls [.int (nI (40 + (n9 - 20)))]) rfl ?_
    refine W.widen (k := 1) (n := 6) (by omega) (by omega) ?_
    exact hend z1 rfl hz1 hP hD hS dX11_outside_33
  exact absurd h12 (by omega)
set_option maxHeartbeats 4000000 in
set_option maxRecDepth 100000 in
theorem c_X11_outside2 {l : Launch} {D : va_G} {cy : Nat → ClassId} {e0 : Nat × Nat} {ad : Nat → Nat} {tl dy : va_W} {eb es tp os bits F G u nb ns T M id : Nat} {mb mz : Int32} {ft fo : Nat → UInt8} {g : Nat → Int32} {dq ba sa pt ih il ip pn op so fa fp st en : Nat → Nat} (htp : tp ≤ 1600) (hos : os ≤ 1620) (hsi : SI bits F G) (hu4 : u ≤ 4) (hDY : DY cy e0.1 dy eb es nb ns ba sa pt ih il ip pn op so fa fp st en) (hb_pt : ∀ i, pt i < 2 ^ 31) (hb_ih : ∀ i, ih i < 2 ^ 64) (hb_il : ∀ i, il i < 2 ^ 64) (hb_ip : ∀ i, ip i < 2 ^ 31) (hb_pn : ∀ i, pn i < 2 ^ 31) (hb_op : ∀ i, op i < 2 ^ 31) (hb_fa : ∀ i, fa i < 2 ^ 32) (hb_fp : ∀ i, fp i < 2 ^ 31) (hb_st : ∀ i, st i ≤ 7) (hb_en : ∀ i, en i < 2 ^ 62) {n9 : Nat} (hn9 : n9 ≤ tp) {q port far fpt ev num : Nat} (eq0 : q = tg_rd ft n9 9) (eport : port = tg_pr (tg_rd ft n9) (20 + tg_dpa q)) (efar : far = tg_qd (tg_rd ft n9) 12) (efpt : fpt = if q = 1 then 0 else tg_pr (tg_rd ft n9) (20 + tg_spa q)) (eev : ev = tg_event (tg_rd ft n9) 20 q) (enum : num = tg_first (fun k => decide (g k = nI (tg_qd (tg_rd ft n9) 16))) u) (hz0 : tg_out (tg_rd ft n9) n9 bits g u = 0) (herr : tg_isErr (tg_rd ft n9) = false) {b : Nat} (hb9 : b < nb) (hfb : tg_first (fun k => decide (pt k = q ∧ pn k = num ∧ op k = port)) nb = b) (hfj : ¬ tg_first (fun k => decide (so k = b ∧ fa k = far ∧ fp k = fpt)) ns < ns) (hmay : (q ≠ 6 ∨ ev = 2) ∧ ns < 128) (hip9 : ip b < 65536) : WRX (S := (Nat × Nat × va_W)) l yX11_outside cX11_outside 2 (some .int) 9 3 311 207 [.ref (ad 0), .int (nI n9)] D cy e0 ((cW cy ad eb es mb mz tp os bits F G u nb ns T M id ft fo g dq ++ tl) ++ dy) (fun u_ => some (.int (nI (40 + (n9 - 20))))) (fun z9 => DY cy e0.1 z9.2.2 eb z9.2.1 nb (ns + 1) ba (va_up sa ns z9.1) pt ih il ip pn op (va_up so ns b) (va_up fa ns far) (va_up fp ns fpt) (va_up st ns (tg_first_st q false)) (va_up en ns (T + tg_life (tg_first_st q false) q))) (fun z9 => (cW cy ad eb z9.2.1 mb (mz + nI 1) 0 (40 + (n9 - 20)) bits F G u nb (ns + 1) T (M + 1) id ft (tg_sx fo ft n9 q (ip b) (ih b) (il b) bits F G) g dq ++ tl) ++ z9.2.2) := by
  refine WRXi (by decide) (lv0 := [(0, .ref (ad 0)), (1, .int (nI n9))]) rfl (Nat.le_of_ble_eq_true rfl) ?_
  intro p e s m args below meth c ls A Q S hnm hP hK hD hS hA hE hend hl
  have hx := S.1
  have hb := S.2.1
  have hown : s.vm.findClass RX11 = some m.cls := S.2.2.2.1
  have ht : ∀ w ∈ lw_g, w.before args s = true := fun w h => S.2.2.2.2 w (List.mem_cons_of_mem _ h)
  have hP : va_P D vwCl ((cW cy ad eb es mb mz tp os bits F G u nb ns T M id ft fo g dq ++ tl) ++ dy) s.heap := hP
  have hT : ((cW cy ad eb es mb mz tp os bits F G u nb ns T M id ft fo g dq ++ tl) ++ dy)[8]? = some (tE (ad 8) (ad 9) (ad 10) T) := rfl
  have hLb : ((cW cy ad eb es mb mz tp os bits F G u nb ns T M id ft fo g dq ++ tl) ++ dy)[9]? = some (aL (ad 9) mb eb nb) := rfl
  have hLs : ((cW cy ad eb es mb mz tp os bits F G u nb ns T M id ft fo g dq ++ tl) ++ dy)[10]? = some (aL (ad 10) mz es ns) := rfl
  have hB : TB1 cy ((cW cy ad eb es mb mz tp os bits F G u nb ns T M id ft fo g dq ++ tl) ++ dy) e0.1 eb nb ba pt ih il ip pn op := hDY.1.app
  have hS1 : TS1 cy ((cW cy ad eb es mb mz tp os bits F G u nb ns T M id ft fo g dq ++ tl) ++ dy) e0.1 es ns nb ba sa so fa fp st en := hDY.2.1.app
  have hST : STP ((cW cy ad eb es mb mz tp os bits F G u nb ns T M id ft fo g dq ++ tl) ++ dy) (ad 5) bits F G := STP_of (ks := 5) rfl hsi
  have hPL : PLP cy ((cW cy ad eb es mb mz tp os bits F G u nb ns T M id ft fo g dq ++ tl) ++ dy) (ad 6) g u := PLP_of (kp := 6) (kq := 7) rfl rfl hu4
  have hnb := hB.le
  have hns := hS1.le
  have hn40 : 28 ≤ n9 := (out0 hz0).1.1
  refine lv_iload_n hx hb dX11_outside_0 rfl (lv_at hl 1 rfl) ?_
  refine nv_if_lt (tgt := 15) hx hb dX11_outside_1 (by decide) (by omega) ?_
  refine lv_iload_n hx hb dX11_outside_4 rfl (lv_at hl 1 rfl) ?_
  refine lv_aload_n hx hb dX11_outside_5 rfl (lv_at hl 0 rfl) ?_
  refine va_get (ci := 8) (C := RX11) (T := TX11) (N := 8) hx hb ht iFX11 hown hK hP 0 rfl rfl 0 (by decide) (ht _ kw1_123) (fun _ h9 => h9) rfl dX11_outside_6 ?_
  refine ro_V S (c_X1_length (PK_of (ws := (cW cy ad eb es mb mz tp os bits F G u nb ns T M id ft fo g dq ++ tl) ++ dy) (kb := 1) (ka := 2) (N := 1600) rfl rfl (by omega) (by omega))) kw1_220 yv_X1_length ⟨Nat.le_of_ble_eq_true rfl, Nat.le_of_ble_eq_true rfl⟩ hK hP (va_recv hK hP (ci := 2) (q0 := 1) rfl rfl) rfl hl.1 rfl (Nat.le_of_ble_eq_true rfl) dX11_outside_9 ⟨(by show _ ≤ 3; omega), (by show _ ≤ 311; omega)⟩ ?_
  refine nv_icmp_le (tgt := 17) hx hb dX11_outside_12 (by decide) (by omega) (by omega) (fun h12 => ?_) (fun h12 => ?_)
  · skip
    refine lv_aload_n hx hb dX11_outside_17 rfl (lv_at hl 0 rfl) ?_
    refine va_get (ci := 8) (C := RX11) (T := TX11) (N := 8) hx hb ht iFX11 hown hK hP 0 rfl rfl 0 (by decide) (ht _ kw1_123) (fun _ h9 => h9) rfl dX11_outside_18 ?_
    refine lv_iload_n hx hb dX11_outside_21 rfl (lv_at hl 1 rfl) ?_
    refine wr_V S (c_X1_resize (ws := (cW cy ad eb es mb mz tp os bits F G u nb ns T M id ft fo g dq ++ tl) ++ dy) (kb := 1) (ka := 2) rfl rfl (by omega) (by omega) (x := n9) (by omega)) kw1_224 yv_X1_resize ⟨Nat.le_of_ble_eq_true rfl, Nat.le_of_ble_eq_true rfl⟩ hK hP hD hS hA (va_recv hK hP (ci := 2) (q0 := 1) rfl rfl) rfl hl.1 rfl (Nat.le_of_ble_eq_true rfl) dX11_outside_22 ⟨(by show _ ≤ 3; omega), (by show _ ≤ 311; omega)⟩ (fun g22 H locs hg22 hP hD hS => ?_)
    have hP : va_P D vwCl ((cW cy ad eb es mb mz n9 os bits F G u nb ns T M id ft fo g dq ++ tl) ++ dy) H := hP
    have hD : va_D A ((cW cy ad eb es mb mz n9 os bits F G u nb ns T M id ft fo g dq ++ tl) ++ dy) := hD
    refine W.eq (g2 := F0 m 25 ls []) rfl ?_
    refine lv_aload_n hx hb dX11_outside_25 rfl (lv_at hl 0 rfl) ?_
    refine lv_aload_n hx hb dX11_outside_26 rfl (lv_at hl 0 rfl) ?_
    refine wx_V S (c_X11_passFromOutside2 (by omega) (by omega) hsi hu4 hDY hb_pt hb_ih hb_il hb_ip hb_pn hb_op hb_fa hb_fp hb_st hb_en eq0 eport efar efpt eev enum hz0 herr hb9 hfb hfj hmay hip9) kw3_154 yv_X11_passFromOutside ⟨Nat.le_of_ble_eq_true rfl, Nat.le_of_ble_eq_true rfl⟩ hK hP hD hS hA hE (va_recv hK hP (ci := 8) (q0 := 0) rfl rfl) rfl hl.1 rfl (Nat.le_of_ble_eq_true rfl) dX11_outside_27 ⟨(by show _ ≤ 3; omega), (by show _ ≤ 311; omega)⟩ (fun z1 H locs hz1 hP hD hS => ?_)
    have hP : va_P D vwCl ((cW cy ad eb z1.2.1 mb (mz + nI 1) n9 (40 + (n9 - 20)) bits F G u nb (ns + 1) T M id ft (tg_sx fo ft n9 q (ip b) (ih b) (il b) bits F G) g dq ++ tl) ++ z1.2.2) H := hP
    have hD : va_D A ((cW cy ad eb z1.2.1 mb (mz + nI 1) n9 (40 + (n9 - 20)) bits F G u nb (ns + 1) T M id ft (tg_sx fo ft n9 q (ip b) (ih b) (il b) bits F G) g dq ++ tl) ++ z1.2.2) := hD
    refine W.eq (g2 := F0 m 30 ls [.int (nI 0), .ref (ad 0)]) rfl ?_
    refine wr_V S (c_X11_closePacketM (by omega) (by omega) hsi hu4) kw3_146 yv_X11_closePacket ⟨Nat.le_of_ble_eq_true rfl, Nat.le_of_ble_eq_true rfl⟩ hK hP hD hS hA (va_recv hK hP (ci := 8) (q0 := 0) rfl rfl) rfl hl.1 rfl (Nat.le_of_ble_eq_true rfl) dX11_outside_30 ⟨(by show _ ≤ 3; omega), (by show _ ≤ 311; omega)⟩ (fun u30 H locs hu30 hP hD hS => ?_)
    have hP : va_P D vwCl ((cW cy ad eb z1.2.1 mb (mz + nI 1) 0 (40 + (n9 - 20)) bits F G u nb (ns + 1) T (M + 1) id ft (tg_sx fo ft n9 q (ip b) (ih b) (il b) bits F G) g dq ++ tl) ++ z1.2.2) H := hP
    have hD : va_D A ((cW cy ad eb z1.2.1 mb (mz + nI 1) 0 (40 + (n9 - 20)) bits F G u nb (ns + 1) T (M + 1) id ft (tg_sx fo ft n9 q (ip b) (ih b) (il b) bits F G) g dq ++ tl) ++ z1.2.2) := hD
    refine W.eq (g2 := F0 m 33 ls [.int (nI (40 + (n9 - 20)))]) rfl ?_
    refine W.widen (k := 3) (n := 311) (by omega) (by omega) ?_
    exact hend z1 rfl hz1 hP hD hS dX11_outside_33
  exact absurd h12 (by omega)
set_option maxHeartbeats 4000000 in
set_option maxRecDepth 100000 in
theorem c_X11_outsidea {l : Launch} {D : va_G} {cy : Nat → ClassId} {ad : Nat → Nat} {tl dy : va_W} {eb es tp os bits F G u nb ns T M id : Nat} {mb mz : Int32} {ft fo : Nat → UInt8} {g : Nat → Int32} {dq ba sa pt ih il ip pn op so fa fp st en : Nat → Nat} {e0 : Nat × Nat} (htp : tp ≤ 1600) (hos : os ≤ 1620) (hsi : SI bits F G) (hu4 : u ≤ 4) (hDY : DY cy e0.1 dy eb es nb ns ba sa pt ih il ip pn op so fa fp st en) (hb_pt : ∀ i, pt i < 2 ^ 31) (hb_ih : ∀ i, ih i < 2 ^ 64) (hb_il : ∀ i, il i < 2 ^ 64) (hb_ip : ∀ i, ip i < 2 ^ 31) (hb_pn : ∀ i, pn i < 2 ^ 31) (hb_op : ∀ i, op i < 2 ^ 31) (hb_fa : ∀ i, fa i < 2 ^ 32) (hb_fp : ∀ i, fp i < 2 ^ 31) (hb_st : ∀ i, st i ≤ 7) (hb_en : ∀ i, en i < 2 ^ 62) {n9 : Nat} (hn9 : n9 ≤ tp) {q port far fpt ev num : Nat} (eq0 : q = tg_rd ft n9 9) (eport : port = tg_pr (tg_rd ft n9) (20 + tg_dpa q)) (efar : far = tg_qd (tg_rd ft n9) 12) (efpt : fpt = if q = 1 then 0 else tg_pr (tg_rd ft n9) (20 + tg_spa q)) (eev : ev = tg_event (tg_rd ft n9) 20 q) (enum : num = tg_first (fun k => decide (g k = nI (tg_qd (tg_rd ft n9) 16))) u) (hz0 : tg_out (tg_rd ft n9) n9 bits g u = 0) (herr : tg_isErr (tg_rd ft n9) = false) {b : Nat} (hb9 : b < nb) (hfb : tg_first (fun k => decide (pt k = q ∧ pn k = num ∧ op k = port)) nb = b) (hfj : ¬ tg_first (fun k => decide (so k = b ∧ fa k = far ∧ fp k = fpt)) ns < ns) (hmay : ¬ ((q ≠ 6 ∨ ev = 2) ∧ ns < 128)) : WR (S := va_W) l yX11_outside cX11_outside 2 (some .int) 6 1 6 139 [.ref (ad 0), .int (nI n9)] D cy ((cW cy ad eb es mb mz tp os bits F G u nb ns T M id ft fo g dq ++ tl) ++ dy) (fun u_ => some (.int (- nI 15))) (fun z9 => DY cy e0.1 z9 eb es nb ns ba sa pt ih il ip pn op so fa fp st en) (fun z9 => (cW cy ad eb es mb mz 0 os bits F G u nb ns T M id ft fo g (va_up dq 5 (dq 5 + 1)) ++ tl) ++ z9) := by
  refine WRi (by decide) (lv0 := [(0, .ref (ad 0)), (1, .int (nI n9))]) rfl (Nat.le_of_ble_eq_true rfl) ?_
  intro p e s m args below meth c ls A Q S hnm hP hK hD hS hA hend hl
  have hx := S.1
  have hb := S.2.1
  have hown : s.vm.findClass RX11 = some m.cls := S.2.2.2.1
  have ht : ∀ w ∈ lw_g, w.before args s = true := fun w h => S.2.2.2.2 w (List.mem_cons_of_mem _ h)
  have hP : va_P D vwCl ((cW cy ad eb es mb mz tp os bits F G u nb ns T M id ft fo g dq ++ tl) ++ dy) s.heap := hP
  have hT : ((cW cy ad eb es mb mz tp os bits F G u nb ns T M id ft fo g dq ++ tl) ++ dy)[8]? = some (tE (ad 8) (ad 9) (ad 10) T) := rfl
  have hLb : ((cW cy ad eb es mb mz tp os bits F G u nb ns T M id ft fo g dq ++ tl) ++ dy)[9]? = some (aL (ad 9) mb eb nb) := rfl
  have hLs : ((cW cy ad eb es mb mz tp os bits F G u nb ns T M id ft fo g dq ++ tl) ++ dy)[10]? = some (aL (ad 10) mz es ns) := rfl
  have hB : TB1 cy ((cW cy ad eb es mb mz tp os bits F G u nb ns T M id ft fo g dq ++ tl) ++ dy) e0.1 eb nb ba pt ih il ip pn op := hDY.1.app
  have hS1 : TS1 cy ((cW cy ad eb es mb mz tp os bits F G u nb ns T M id ft fo g dq ++ tl) ++ dy) e0.1 es ns nb ba sa so fa fp st en := hDY.2.1.app
  have hST : STP ((cW cy ad eb es mb mz tp os bits F G u nb ns T M id ft fo g dq ++ tl) ++ dy) (ad 5) bits F G := STP_of (ks := 5) rfl hsi
  have hPL : PLP cy ((cW cy ad eb es mb mz tp os bits F G u nb ns T M id ft fo g dq ++ tl) ++ dy) (ad 6) g u := PLP_of (kp := 6) (kq := 7) rfl rfl hu4
  have hnb := hB.le
  have hns := hS1.le
  have hn40 : 28 ≤ n9 := (out0 hz0).1.1
  refine lv_iload_n hx hb dX11_outside_0 rfl (lv_at hl 1 rfl) ?_
  refine nv_if_lt (tgt := 15) hx hb dX11_outside_1 (by decide) (by omega) ?_
  refine lv_iload_n hx hb dX11_outside_4 rfl (lv_at hl 1 rfl) ?_
  refine lv_aload_n hx hb dX11_outside_5 rfl (lv_at hl 0 rfl) ?_
  refine va_get (ci := 8) (C := RX11) (T := TX11) (N := 8) hx hb ht iFX11 hown hK hP 0 rfl rfl 0 (by decide) (ht _ kw1_123) (fun _ h9 => h9) rfl dX11_outside_6 ?_
  refine ro_V S (c_X1_length (PK_of (ws := (cW cy ad eb es mb mz tp os bits F G u nb ns T M id ft fo g dq ++ tl) ++ dy) (kb := 1) (ka := 2) (N := 1600) rfl rfl (by omega) (by omega))) kw1_220 yv_X1_length ⟨Nat.le_of_ble_eq_true rfl, Nat.le_of_ble_eq_true rfl⟩ hK hP (va_recv hK hP (ci := 2) (q0 := 1) rfl rfl) rfl hl.1 rfl (Nat.le_of_ble_eq_true rfl) dX11_outside_9 ⟨(by show _ ≤ 1; omega), (by show _ ≤ 6; omega)⟩ ?_
  refine nv_icmp_le (tgt := 17) hx hb dX11_outside_12 (by decide) (by omega) (by omega) (fun h12 => ?_) (fun h12 => ?_)
  · skip
    refine lv_aload_n hx hb dX11_outside_17 rfl (lv_at hl 0 rfl) ?_
    refine va_get (ci := 8) (C := RX11) (T := TX11) (N := 8) hx hb ht iFX11 hown hK hP 0 rfl rfl 0 (by decide) (ht _ kw1_123) (fun _ h9 => h9) rfl dX11_outside_18 ?_
    refine lv_iload_n hx hb dX11_outside_21 rfl (lv_at hl 1 rfl) ?_
    refine wr_V S (c_X1_resize (ws := (cW cy ad eb es mb mz tp os bits F G u nb ns T M id ft fo g dq ++ tl) ++ dy) (kb := 1) (ka := 2) rfl rfl (by omega) (by omega) (x := n9) (by omega)) kw1_224 yv_X1_resize ⟨Nat.le_of_ble_eq_true rfl, Nat.le_of_ble_eq_true rfl⟩ hK hP hD hS hA (va_recv hK hP (ci := 2) (q0 := 1) rfl rfl) rfl hl.1 rfl (Nat.le_of_ble_eq_true rfl) dX11_outside_22 ⟨(by show _ ≤ 1; omega), (by show _ ≤ 6; omega)⟩ (fun g22 H locs hg22 hP hD hS => ?_)
    have hP : va_P D vwCl ((cW cy ad eb es mb mz n9 os bits F G u nb ns T M id ft fo g dq ++ tl) ++ dy) H := hP
    have hD : va_D A ((cW cy ad eb es mb mz n9 os bits F G u nb ns T M id ft fo g dq ++ tl) ++ dy) := hD
    refine W.eq (g2 := F0 m 25 ls []) rfl ?_
    refine lv_aload_n hx hb dX11_outside_25 rfl (lv_at hl 0 rfl) ?_
    refine lv_aload_n hx hb dX11_outside_26 rfl (lv_at hl 0 rfl) ?_
    refine wr_V S (c_X11_passFromOutsidea (e0 := e0) (by omega) (by omega) hsi hu4 hDY hb_pt hb_ih hb_il hb_ip hb_pn hb_op hb_fa hb_fp hb_st hb_en eq0 eport efar efpt eev enum hz0 herr hb9 hfb hfj hmay) kw3_154 yv_X11_passFromOutside ⟨Nat.le_of_ble_eq_true rfl, Nat.le_of_ble_eq_true rfl⟩ hK hP hD hS hA (va_recv hK hP (ci := 8) (q0 := 0) rfl rfl) rfl hl.1 rfl (Nat.le_of_ble_eq_true rfl) dX11_outside_27 ⟨(by show _ ≤ 1; omega), (by show _ ≤ 6; omega)⟩ (fun z1 H locs hz1 hP hD hS => ?_)
    have hP : va_P D vwCl ((cW cy ad eb es mb mz n9 os bits F G u nb ns T M id ft fo g dq ++ tl) ++ z1) H := hP
    have hD : va_D A ((cW cy ad eb es mb mz n9 os bits F G u nb ns T M id ft fo g dq ++ tl) ++ z1) := hD
    refine W.eq (g2 := F0 m 30 ls [.int (nI 15), .ref (ad 0)]) rfl ?_
    refine wr_V S (c_X11_closePacketD (by omega) (by omega) hsi hu4 (x := 15) (by omega) (by omega)) kw3_146 yv_X11_closePacket ⟨Nat.le_of_ble_eq_true rfl, Nat.le_of_ble_eq_true rfl⟩ hK hP hD hS hA (va_recv hK hP (ci := 8) (q0 := 0) rfl rfl) rfl hl.1 rfl (Nat.le_of_ble_eq_true rfl) dX11_outside_30 ⟨(by show _ ≤ 1; omega), (by show _ ≤ 6; omega)⟩ (fun u30 H locs hu30 hP hD hS => ?_)
    have hP : va_P D vwCl ((cW cy ad eb es mb mz 0 os bits F G u nb ns T M id ft fo g (va_up dq (15 - 10) (dq (15 - 10) + 1)) ++ tl) ++ z1) H := hP
    have hD : va_D A ((cW cy ad eb es mb mz 0 os bits F G u nb ns T M id ft fo g (va_up dq (15 - 10) (dq (15 - 10) + 1)) ++ tl) ++ z1) := hD
    refine W.eq (g2 := F0 m 33 ls [.int (- nI 15)]) rfl ?_
    refine W.widen (k := 1) (n := 6) (by omega) (by omega) ?_
    exact hend z1 rfl hz1 hP hD hS dX11_outside_33
  exact absurd h12 (by omega)
set_option maxHeartbeats 4000000 in
set_option maxRecDepth 100000 in
theorem c_X11_outsideb {l : Launch} {D : va_G} {cy : Nat → ClassId} {ad : Nat → Nat} {tl dy : va_W} {eb es tp os bits F G u nb ns T M id : Nat} {mb mz : Int32} {ft fo : Nat → UInt8} {g : Nat → Int32} {dq ba sa pt ih il ip pn op so fa fp st en : Nat → Nat} {e0 : Nat × Nat} (htp : tp ≤ 1600) (hos : os ≤ 1620) (hsi : SI bits F G) (hu4 : u ≤ 4) (hDY : DY cy e0.1 dy eb es nb ns ba sa pt ih il ip pn op so fa fp st en) (hb_pt : ∀ i, pt i < 2 ^ 31) (hb_ih : ∀ i, ih i < 2 ^ 64) (hb_il : ∀ i, il i < 2 ^ 64) (hb_ip : ∀ i, ip i < 2 ^ 31) (hb_pn : ∀ i, pn i < 2 ^ 31) (hb_op : ∀ i, op i < 2 ^ 31) (hb_fa : ∀ i, fa i < 2 ^ 32) (hb_fp : ∀ i, fp i < 2 ^ 31) (hb_st : ∀ i, st i ≤ 7) (hb_en : ∀ i, en i < 2 ^ 62) {n9 : Nat} (hn9 : n9 ≤ tp) {q port far fpt ev num : Nat} (eq0 : q = tg_rd ft n9 9) (eport : port = tg_pr (tg_rd ft n9) (20 + tg_dpa q)) (efar : far = tg_qd (tg_rd ft n9) 12) (efpt : fpt = if q = 1 then 0 else tg_pr (tg_rd ft n9) (20 + tg_spa q)) (eev : ev = tg_event (tg_rd ft n9) 20 q) (enum : num = tg_first (fun k => decide (g k = nI (tg_qd (tg_rd ft n9) 16))) u) (hz0 : tg_out (tg_rd ft n9) n9 bits g u = 0) (herr : tg_isErr (tg_rd ft n9) = false) (hfb : ¬ tg_first (fun k => decide (pt k = q ∧ pn k = num ∧ op k = port)) nb < nb) : WR (S := va_W) l yX11_outside cX11_outside 2 (some .int) 6 1 6 139 [.ref (ad 0), .int (nI n9)] D cy ((cW cy ad eb es mb mz tp os bits F G u nb ns T M id ft fo g dq ++ tl) ++ dy) (fun u_ => some (.int (- nI 15))) (fun z9 => DY cy e0.1 z9 eb es nb ns ba sa pt ih il ip pn op so fa fp st en) (fun z9 => (cW cy ad eb es mb mz 0 os bits F G u nb ns T M id ft fo g (va_up dq 5 (dq 5 + 1)) ++ tl) ++ z9) := by
  refine WRi (by decide) (lv0 := [(0, .ref (ad 0)), (1, .int (nI n9))]) rfl (Nat.le_of_ble_eq_true rfl) ?_
  intro p e s m args below meth c ls A Q S hnm hP hK hD hS hA hend hl
  have hx := S.1
  have hb := S.2.1
  have hown : s.vm.findClass RX11 = some m.cls := S.2.2.2.1
  have ht : ∀ w ∈ lw_g, w.before args s = true := fun w h => S.2.2.2.2 w (List.mem_cons_of_mem _ h)
  have hP : va_P D vwCl ((cW cy ad eb es mb mz tp os bits F G u nb ns T M id ft fo g dq ++ tl) ++ dy) s.heap := hP
  have hT : ((cW cy ad eb es mb mz tp os bits F G u nb ns T M id ft fo g dq ++ tl) ++ dy)[8]? = some (tE (ad 8) (ad 9) (ad 10) T) := rfl
  have hLb : ((cW cy ad eb es mb mz tp os bits F G u nb ns T M id ft fo g dq ++ tl) ++ dy)[9]? = some (aL (ad 9) mb eb nb) := rfl
  have hLs : ((cW cy ad eb es mb mz tp os bits F G u nb ns T M id ft fo g dq ++ tl) ++ dy)[10]? = some (aL (ad 10) mz es ns) := rfl
  have hB : TB1 cy ((cW cy ad eb es mb mz tp os bits F G u nb ns T M id ft fo g dq ++ tl) ++ dy) e0.1 eb nb ba pt ih il ip pn op := hDY.1.app
  have hS1 : TS1 cy ((cW cy ad eb es mb mz tp os bits F G u nb ns T M id ft fo g dq ++ tl) ++ dy) e0.1 es ns nb ba sa so fa fp st en := hDY.2.1.app
  have hST : STP ((cW cy ad eb es mb mz tp os bits F G u nb ns T M id ft fo g dq ++ tl) ++ dy) (ad 5) bits F G := STP_of (ks := 5) rfl hsi
  have hPL : PLP cy ((cW cy ad eb es mb mz tp os bits F G u nb ns T M id ft fo g dq ++ tl) ++ dy) (ad 6) g u := PLP_of (kp := 6) (kq := 7) rfl rfl hu4
  have hnb := hB.le
  have hns := hS1.le
  have hn40 : 28 ≤ n9 := (out0 hz0).1.1
  refine lv_iload_n hx hb dX11_outside_0 rfl (lv_at hl 1 rfl) ?_
  refine nv_if_lt (tgt := 15) hx hb dX11_outside_1 (by decide) (by omega) ?_
  refine lv_iload_n hx hb dX11_outside_4 rfl (lv_at hl 1 rfl) ?_
  refine lv_aload_n hx hb dX11_outside_5 rfl (lv_at hl 0 rfl) ?_
  refine va_get (ci := 8) (C := RX11) (T := TX11) (N := 8) hx hb ht iFX11 hown hK hP 0 rfl rfl 0 (by decide) (ht _ kw1_123) (fun _ h9 => h9) rfl dX11_outside_6 ?_
  refine ro_V S (c_X1_length (PK_of (ws := (cW cy ad eb es mb mz tp os bits F G u nb ns T M id ft fo g dq ++ tl) ++ dy) (kb := 1) (ka := 2) (N := 1600) rfl rfl (by omega) (by omega))) kw1_220 yv_X1_length ⟨Nat.le_of_ble_eq_true rfl, Nat.le_of_ble_eq_true rfl⟩ hK hP (va_recv hK hP (ci := 2) (q0 := 1) rfl rfl) rfl hl.1 rfl (Nat.le_of_ble_eq_true rfl) dX11_outside_9 ⟨(by show _ ≤ 1; omega), (by show _ ≤ 6; omega)⟩ ?_
  refine nv_icmp_le (tgt := 17) hx hb dX11_outside_12 (by decide) (by omega) (by omega) (fun h12 => ?_) (fun h12 => ?_)
  · skip
    refine lv_aload_n hx hb dX11_outside_17 rfl (lv_at hl 0 rfl) ?_
    refine va_get (ci := 8) (C := RX11) (T := TX11) (N := 8) hx hb ht iFX11 hown hK hP 0 rfl rfl 0 (by decide) (ht _ kw1_123) (fun _ h9 => h9) rfl dX11_outside_18 ?_
    refine lv_iload_n hx hb dX11_outside_21 rfl (lv_at hl 1 rfl) ?_
    refine wr_V S (c_X1_resize (ws := (cW cy ad eb es mb mz tp os bits F G u nb ns T M id ft fo g dq ++ tl) ++ dy) (kb := 1) (ka := 2) rfl rfl (by omega) (by omega) (x := n9) (by omega)) kw1_224 yv_X1_resize ⟨Nat.le_of_ble_eq_true rfl, Nat.le_of_ble_eq_true rfl⟩ hK hP hD hS hA (va_recv hK hP (ci := 2) (q0 := 1) rfl rfl) rfl hl.1 rfl (Nat.le_of_ble_eq_true rfl) dX11_outside_22 ⟨(by show _ ≤ 1; omega), (by show _ ≤ 6; omega)⟩ (fun g22 H locs hg22 hP hD hS => ?_)
    have hP : va_P D vwCl ((cW cy ad eb es mb mz n9 os bits F G u nb ns T M id ft fo g dq ++ tl) ++ dy) H := hP
    have hD : va_D A ((cW cy ad eb es mb mz n9 os bits F G u nb ns T M id ft fo g dq ++ tl) ++ dy) := hD
    refine W.eq (g2 := F0 m 25 ls []) rfl ?_
    refine lv_aload_n hx hb dX11_outside_25 rfl (lv_at hl 0 rfl) ?_
    refine lv_aload_n hx hb dX11_outside_26 rfl (lv_at hl 0 rfl) ?_
    refine wr_V S (c_X11_passFromOutsideb (e0 := e0) (by omega) (by omega) hsi hu4 hDY hb_pt hb_ih hb_il hb_ip hb_pn hb_op hb_fa hb_fp hb_st hb_en eq0 eport efar efpt eev enum hz0 herr hfb) kw3_154 yv_X11_passFromOutside ⟨Nat.le_of_ble_eq_true rfl, Nat.le_of_ble_eq_true rfl⟩ hK hP hD hS hA (va_recv hK hP (ci := 8) (q0 := 0) rfl rfl) rfl hl.1 rfl (Nat.le_of_ble_eq_true rfl) dX11_outside_27 ⟨(by show _ ≤ 1; omega), (by show _ ≤ 6; omega)⟩ (fun z1 H locs hz1 hP hD hS => ?_)
    have hP : va_P D vwCl ((cW cy ad eb es mb mz n9 os bits F G u nb ns T M id ft fo g dq ++ tl) ++ z1) H := hP
    have hD : va_D A ((cW cy ad eb es mb mz n9 os bits F G u nb ns T M id ft fo g dq ++ tl) ++ z1) := hD
    refine W.eq (g2 := F0 m 30 ls [.int (nI 15), .ref (ad 0)]) rfl ?_
    refine wr_V S (c_X11_closePacketD (by omega) (by omega) hsi hu4 (x := 15) (by omega) (by omega)) kw3_146 yv_X11_closePacket ⟨Nat.le_of_ble_eq_true rfl, Nat.le_of_ble_eq_true rfl⟩ hK hP hD hS hA (va_recv hK hP (ci := 8) (q0 := 0) rfl rfl) rfl hl.1 rfl (Nat.le_of_ble_eq_true rfl) dX11_outside_30 ⟨(by show _ ≤ 1; omega), (by show _ ≤ 6; omega)⟩ (fun u30 H locs hu30 hP hD hS => ?_)
    have hP : va_P D vwCl ((cW cy ad eb es mb mz 0 os bits F G u nb ns T M id ft fo g (va_up dq (15 - 10) (dq (15 - 10) + 1)) ++ tl) ++ z1) H := hP
    have hD : va_D A ((cW cy ad eb es mb mz 0 os bits F G u nb ns T M id ft fo g (va_up dq (15 - 10) (dq (15 - 10) + 1)) ++ tl) ++ z1) := hD
    refine W.eq (g2 := F0 m 33 ls [.int (- nI 15)]) rfl ?_
    refine W.widen (k := 1) (n := 6) (by omega) (by omega) ?_
    exact hend z1 rfl hz1 hP hD hS dX11_outside_33
  exact absurd h12 (by omega)
set_option maxHeartbeats 4000000 in
set_option maxRecDepth 100000 in
theorem c_X11_outsidec {l : Launch} {D : va_G} {cy : Nat → ClassId} {ad : Nat → Nat} {tl dy : va_W} {eb es tp os bits F G u nb ns T M id : Nat} {mb mz : Int32} {ft fo : Nat → UInt8} {g : Nat → Int32} {dq ba sa pt ih il ip pn op so fa fp st en : Nat → Nat} {e0 : Nat × Nat} (htp : tp ≤ 1600) (hos : os ≤ 1620) (hsi : SI bits F G) (hu4 : u ≤ 4) (hDY : DY cy e0.1 dy eb es nb ns ba sa pt ih il ip pn op so fa fp st en) (hb_pt : ∀ i, pt i < 2 ^ 31) (hb_ih : ∀ i, ih i < 2 ^ 64) (hb_il : ∀ i, il i < 2 ^ 64) (hb_ip : ∀ i, ip i < 2 ^ 31) (hb_pn : ∀ i, pn i < 2 ^ 31) (hb_op : ∀ i, op i < 2 ^ 31) (hb_fa : ∀ i, fa i < 2 ^ 32) (hb_fp : ∀ i, fp i < 2 ^ 31) (hb_st : ∀ i, st i ≤ 7) (hb_en : ∀ i, en i < 2 ^ 62) {n9 : Nat} (hn9 : n9 ≤ tp) {q port num : Nat} (eq0 : q = tg_rd ft n9 37) (eport : port = tg_pr (tg_rd ft n9) (48 + tg_spa q)) (enum : num = tg_first (fun k => decide (g k = nI (tg_qd (tg_rd ft n9) 40))) u) (hz0 : tg_out (tg_rd ft n9) n9 bits g u = 0) (herr : tg_isErr (tg_rd ft n9) = true) (hfb : ¬ tg_first (fun k => decide (pt k = q ∧ pn k = num ∧ op k = port)) nb < nb) : WR (S := Unit) l yX11_outside cX11_outside 2 (some .int) 6 0 0 139 [.ref (ad 0), .int (nI n9)] D cy ((cW cy ad eb es mb mz tp os bits F G u nb ns T M id ft fo g dq ++ tl) ++ dy) (fun u_ => some (.int (- nI 15))) (fun z9 => True) (fun z9 => (cW cy ad eb es mb mz 0 os bits F G u nb ns T M id ft fo g (va_up dq 5 (dq 5 + 1)) ++ tl) ++ dy) := by
  refine WRi (by decide) (lv0 := [(0, .ref (ad 0)), (1, .int (nI n9))]) rfl (Nat.le_of_ble_eq_true rfl) ?_
  intro p e s m args below meth c ls A Q S hnm hP hK hD hS hA hend hl
  have hx := S.1
  have hb := S.2.1
  have hown : s.vm.findClass RX11 = some m.cls := S.2.2.2.1
  have ht : ∀ w ∈ lw_g, w.before args s = true := fun w h => S.2.2.2.2 w (List.mem_cons_of_mem _ h)
  have hP : va_P D vwCl ((cW cy ad eb es mb mz tp os bits F G u nb ns T M id ft fo g dq ++ tl) ++ dy) s.heap := hP
  have hT : ((cW cy ad eb es mb mz tp os bits F G u nb ns T M id ft fo g dq ++ tl) ++ dy)[8]? = some (tE (ad 8) (ad 9) (ad 10) T) := rfl
  have hLb : ((cW cy ad eb es mb mz tp os bits F G u nb ns T M id ft fo g dq ++ tl) ++ dy)[9]? = some (aL (ad 9) mb eb nb) := rfl
  have hLs : ((cW cy ad eb es mb mz tp os bits F G u nb ns T M id ft fo g dq ++ tl) ++ dy)[10]? = some (aL (ad 10) mz es ns) := rfl
  have hB : TB1 cy ((cW cy ad eb es mb mz tp os bits F G u nb ns T M id ft fo g dq ++ tl) ++ dy) e0.1 eb nb ba pt ih il ip pn op := hDY.1.app
  have hS1 : TS1 cy ((cW cy ad eb es mb mz tp os bits F G u nb ns T M id ft fo g dq ++ tl) ++ dy) e0.1 es ns nb ba sa so fa fp st en := hDY.2.1.app
  have hST : STP ((cW cy ad eb es mb mz tp os bits F G u nb ns T M id ft fo g dq ++ tl) ++ dy) (ad 5) bits F G := STP_of (ks := 5) rfl hsi
  have hPL : PLP cy ((cW cy ad eb es mb mz tp os bits F G u nb ns T M id ft fo g dq ++ tl) ++ dy) (ad 6) g u := PLP_of (kp := 6) (kq := 7) rfl rfl hu4
  have hnb := hB.le
  have hns := hS1.le
  have hn40 : 28 ≤ n9 := (out0 hz0).1.1
  refine lv_iload_n hx hb dX11_outside_0 rfl (lv_at hl 1 rfl) ?_
  refine nv_if_lt (tgt := 15) hx hb dX11_outside_1 (by decide) (by omega) ?_
  refine lv_iload_n hx hb dX11_outside_4 rfl (lv_at hl 1 rfl) ?_
  refine lv_aload_n hx hb dX11_outside_5 rfl (lv_at hl 0 rfl) ?_
  refine va_get (ci := 8) (C := RX11) (T := TX11) (N := 8) hx hb ht iFX11 hown hK hP 0 rfl rfl 0 (by decide) (ht _ kw1_123) (fun _ h9 => h9) rfl dX11_outside_6 ?_
  refine ro_V S (c_X1_length (PK_of (ws := (cW cy ad eb es mb mz tp os bits F G u nb ns T M id ft fo g dq ++ tl) ++ dy) (kb := 1) (ka := 2) (N := 1600) rfl rfl (by omega) (by omega))) kw1_220 yv_X1_length ⟨Nat.le_of_ble_eq_true rfl, Nat.le_of_ble_eq_true rfl⟩ hK hP (va_recv hK hP (ci := 2) (q0 := 1) rfl rfl) rfl hl.1 rfl (Nat.le_of_ble_eq_true rfl) dX11_outside_9 ⟨(Nat.zero_le _), (Nat.zero_le _)⟩ ?_
  refine nv_icmp_le (tgt := 17) hx hb dX11_outside_12 (by decide) (by omega) (by omega) (fun h12 => ?_) (fun h12 => ?_)
  · skip
    refine lv_aload_n hx hb dX11_outside_17 rfl (lv_at hl 0 rfl) ?_
    refine va_get (ci := 8) (C := RX11) (T := TX11) (N := 8) hx hb ht iFX11 hown hK hP 0 rfl rfl 0 (by decide) (ht _ kw1_123) (fun _ h9 => h9) rfl dX11_outside_18 ?_
    refine lv_iload_n hx hb dX11_outside_21 rfl (lv_at hl 1 rfl) ?_
    refine wr_V S (c_X1_resize (ws := (cW cy ad eb es mb mz tp os bits F G u nb ns T M id ft fo g dq ++ tl) ++ dy) (kb := 1) (ka := 2) rfl rfl (by omega) (by omega) (x := n9) (by omega)) kw1_224 yv_X1_resize ⟨Nat.le_of_ble_eq_true rfl, Nat.le_of_ble_eq_true rfl⟩ hK hP hD hS hA (va_recv hK hP (ci := 2) (q0 := 1) rfl rfl) rfl hl.1 rfl (Nat.le_of_ble_eq_true rfl) dX11_outside_22 ⟨(Nat.zero_le _), (Nat.zero_le _)⟩ (fun g22 H locs hg22 hP hD hS => ?_)
    have hP : va_P D vwCl ((cW cy ad eb es mb mz n9 os bits F G u nb ns T M id ft fo g dq ++ tl) ++ dy) H := hP
    have hD : va_D A ((cW cy ad eb es mb mz n9 os bits F G u nb ns T M id ft fo g dq ++ tl) ++ dy) := hD
    refine W.eq (g2 := F0 m 25 ls []) rfl ?_
    refine lv_aload_n hx hb dX11_outside_25 rfl (lv_at hl 0 rfl) ?_
    refine lv_aload_n hx hb dX11_outside_26 rfl (lv_at hl 0 rfl) ?_
    refine ro_V S (c_X11_passFromOutsidec (e0 := e0) (by omega) (by omega) hsi hu4 hDY hb_pt hb_ih hb_il hb_ip hb_pn hb_op hb_fa hb_fp hb_st hb_en eq0 eport enum hz0 herr hfb) kw3_154 yv_X11_passFromOutside ⟨Nat.le_of_ble_eq_true rfl, Nat.le_of_ble_eq_true rfl⟩ hK hP (va_recv hK hP (ci := 8) (q0 := 0) rfl rfl) rfl hl.1 rfl (Nat.le_of_ble_eq_true rfl) dX11_outside_27 ⟨(Nat.zero_le _), (Nat.zero_le _)⟩ ?_
    refine wr_V S (c_X11_closePacketD (by omega) (by omega) hsi hu4 (x := 15) (by omega) (by omega)) kw3_146 yv_X11_closePacket ⟨Nat.le_of_ble_eq_true rfl, Nat.le_of_ble_eq_true rfl⟩ hK hP hD hS hA (va_recv hK hP (ci := 8) (q0 := 0) rfl rfl) rfl hl.1 rfl (Nat.le_of_ble_eq_true rfl) dX11_outside_30 ⟨(Nat.zero_le _), (Nat.zero_le _)⟩ (fun u30 H locs hu30 hP hD hS => ?_)
    have hP : va_P D vwCl ((cW cy ad eb es mb mz 0 os bits F G u nb ns T M id ft fo g (va_up dq (15 - 10) (dq (15 - 10) + 1)) ++ tl) ++ dy) H := hP
    have hD : va_D A ((cW cy ad eb es mb mz 0 os bits F G u nb ns T M id ft fo g (va_up dq (15 - 10) (dq (15 - 10) + 1)) ++ tl) ++ dy) := hD
    refine W.eq (g2 := F0 m 33 ls [.int (- nI 15)]) rfl ?_
    exact hend () rfl trivial hP hD hS dX11_outside_33
  exact absurd h12 (by omega)
set_option maxHeartbeats 4000000 in
set_option maxRecDepth 100000 in
theorem c_X11_outsidee {l : Launch} {D : va_G} {cy : Nat → ClassId} {ad : Nat → Nat} {tl dy : va_W} {eb es tp os bits F G u nb ns T M id : Nat} {mb mz : Int32} {ft fo : Nat → UInt8} {g : Nat → Int32} {dq ba sa pt ih il ip pn op so fa fp st en : Nat → Nat} {e0 : Nat × Nat} (htp : tp ≤ 1600) (hos : os ≤ 1620) (hsi : SI bits F G) (hu4 : u ≤ 4) (hDY : DY cy e0.1 dy eb es nb ns ba sa pt ih il ip pn op so fa fp st en) (hb_pt : ∀ i, pt i < 2 ^ 31) (hb_ih : ∀ i, ih i < 2 ^ 64) (hb_il : ∀ i, il i < 2 ^ 64) (hb_ip : ∀ i, ip i < 2 ^ 31) (hb_pn : ∀ i, pn i < 2 ^ 31) (hb_op : ∀ i, op i < 2 ^ 31) (hb_fa : ∀ i, fa i < 2 ^ 32) (hb_fp : ∀ i, fp i < 2 ^ 31) (hb_st : ∀ i, st i ≤ 7) (hb_en : ∀ i, en i < 2 ^ 62) {n9 : Nat} (hn9 : n9 ≤ tp) {q port num : Nat} (eq0 : q = tg_rd ft n9 37) (eport : port = tg_pr (tg_rd ft n9) (48 + tg_spa q)) (enum : num = tg_first (fun k => decide (g k = nI (tg_qd (tg_rd ft n9) 40))) u) (hz0 : tg_out (tg_rd ft n9) n9 bits g u = 0) (herr : tg_isErr (tg_rd ft n9) = true) {b : Nat} (hb9 : b < nb) (hfb : tg_first (fun k => decide (pt k = q ∧ pn k = num ∧ op k = port)) nb = b) (hip9 : ip b < 65536) : WR (S := Unit) l yX11_outside cX11_outside 2 (some .int) 6 0 0 147 [.ref (ad 0), .int (nI n9)] D cy ((cW cy ad eb es mb mz tp os bits F G u nb ns T M id ft fo g dq ++ tl) ++ dy) (fun u_ => some (.int (nI (min (n9 + 40) 1280)))) (fun z9 => True) (fun z9 => (cW cy ad eb es mb mz 0 (min (n9 + 40) 1280) bits F G u nb ns T (M + 1) id ft (tg_fin (tg_wi (tg_er1 fo ft n9 (ih b) (il b) bits F G) ft n9 (min (n9 + 40) 1280) q (ip b) (ih b) (il b) bits F G) (min (n9 + 40) 1280) 40 58) g dq ++ tl) ++ dy) := by
  refine WRi (by decide) (lv0 := [(0, .ref (ad 0)), (1, .int (nI n9))]) rfl (Nat.le_of_ble_eq_true rfl) ?_
  intro p e s m args below meth c ls A Q S hnm hP hK hD hS hA hend hl
  have hx := S.1
  have hb := S.2.1
  have hown : s.vm.findClass RX11 = some m.cls := S.2.2.2.1
  have ht : ∀ w ∈ lw_g, w.before args s = true := fun w h => S.2.2.2.2 w (List.mem_cons_of_mem _ h)
  have hP : va_P D vwCl ((cW cy ad eb es mb mz tp os bits F G u nb ns T M id ft fo g dq ++ tl) ++ dy) s.heap := hP
  have hT : ((cW cy ad eb es mb mz tp os bits F G u nb ns T M id ft fo g dq ++ tl) ++ dy)[8]? = some (tE (ad 8) (ad 9) (ad 10) T) := rfl
  have hLb : ((cW cy ad eb es mb mz tp os bits F G u nb ns T M id ft fo g dq ++ tl) ++ dy)[9]? = some (aL (ad 9) mb eb nb) := rfl
  have hLs : ((cW cy ad eb es mb mz tp os bits F G u nb ns T M id ft fo g dq ++ tl) ++ dy)[10]? = some (aL (ad 10) mz es ns) := rfl
  have hB : TB1 cy ((cW cy ad eb es mb mz tp os bits F G u nb ns T M id ft fo g dq ++ tl) ++ dy) e0.1 eb nb ba pt ih il ip pn op := hDY.1.app
  have hS1 : TS1 cy ((cW cy ad eb es mb mz tp os bits F G u nb ns T M id ft fo g dq ++ tl) ++ dy) e0.1 es ns nb ba sa so fa fp st en := hDY.2.1.app
  have hST : STP ((cW cy ad eb es mb mz tp os bits F G u nb ns T M id ft fo g dq ++ tl) ++ dy) (ad 5) bits F G := STP_of (ks := 5) rfl hsi
  have hPL : PLP cy ((cW cy ad eb es mb mz tp os bits F G u nb ns T M id ft fo g dq ++ tl) ++ dy) (ad 6) g u := PLP_of (kp := 6) (kq := 7) rfl rfl hu4
  have hnb := hB.le
  have hns := hS1.le
  have hn40 : 28 ≤ n9 := (out0 hz0).1.1
  refine lv_iload_n hx hb dX11_outside_0 rfl (lv_at hl 1 rfl) ?_
  refine nv_if_lt (tgt := 15) hx hb dX11_outside_1 (by decide) (by omega) ?_
  refine lv_iload_n hx hb dX11_outside_4 rfl (lv_at hl 1 rfl) ?_
  refine lv_aload_n hx hb dX11_outside_5 rfl (lv_at hl 0 rfl) ?_
  refine va_get (ci := 8) (C := RX11) (T := TX11) (N := 8) hx hb ht iFX11 hown hK hP 0 rfl rfl 0 (by decide) (ht _ kw1_123) (fun _ h9 => h9) rfl dX11_outside_6 ?_
  refine ro_V S (c_X1_length (PK_of (ws := (cW cy ad eb es mb mz tp os bits F G u nb ns T M id ft fo g dq ++ tl) ++ dy) (kb := 1) (ka := 2) (N := 1600) rfl rfl (by omega) (by omega))) kw1_220 yv_X1_length ⟨Nat.le_of_ble_eq_true rfl, Nat.le_of_ble_eq_true rfl⟩ hK hP (va_recv hK hP (ci := 2) (q0 := 1) rfl rfl) rfl hl.1 rfl (Nat.le_of_ble_eq_true rfl) dX11_outside_9 ⟨(Nat.zero_le _), (Nat.zero_le _)⟩ ?_
  refine nv_icmp_le (tgt := 17) hx hb dX11_outside_12 (by decide) (by omega) (by omega) (fun h12 => ?_) (fun h12 => ?_)
  · skip
    refine lv_aload_n hx hb dX11_outside_17 rfl (lv_at hl 0 rfl) ?_
    refine va_get (ci := 8) (C := RX11) (T := TX11) (N := 8) hx hb ht iFX11 hown hK hP 0 rfl rfl 0 (by decide) (ht _ kw1_123) (fun _ h9 => h9) rfl dX11_outside_18 ?_
    refine lv_iload_n hx hb dX11_outside_21 rfl (lv_at hl 1 rfl) ?_
    refine wr_V S (c_X1_resize (ws := (cW cy ad eb es mb mz tp os bits F G u nb ns T M id ft fo g dq ++ tl) ++ dy) (kb := 1) (ka := 2) rfl rfl (by omega) (by omega) (x := n9) (by omega)) kw1_224 yv_X1_resize ⟨Nat.le_of_ble_eq_true rfl, Nat.le_of_ble_eq_true rfl⟩ hK hP hD hS hA (va_recv hK hP (ci := 2) (q0 := 1) rfl rfl) rfl hl.1 rfl (Nat.le_of_ble_eq_true rfl) dX11_outside_22 ⟨(Nat.zero_le _), (Nat.zero_le _)⟩ (fun g22 H locs hg22 hP hD hS => ?_)
    have hP : va_P D vwCl ((cW cy ad eb es mb mz n9 os bits F G u nb ns T M id ft fo g dq ++ tl) ++ dy) H := hP
    have hD : va_D A ((cW cy ad eb es mb mz n9 os bits F G u nb ns T M id ft fo g dq ++ tl) ++ dy) := hD
    refine W.eq (g2 := F0 m 25 ls []) rfl ?_
    refine lv_aload_n hx hb dX11_outside_25 rfl (lv_at hl 0 rfl) ?_
    refine lv_aload_n hx hb dX11_outside_26 rfl (lv_at hl 0 rfl) ?_
    refine wr_V S (c_X11_passFromOutsidee (e0 := e0) (by omega) (by omega) hsi hu4 hDY hb_pt hb_ih hb_il hb_ip hb_pn hb_op hb_fa hb_fp hb_st hb_en eq0 eport enum hz0 herr hb9 hfb hip9) kw3_154 yv_X11_passFromOutside ⟨Nat.le_of_ble_eq_true rfl, Nat.le_of_ble_eq_true rfl⟩ hK hP hD hS hA (va_recv hK hP (ci := 8) (q0 := 0) rfl rfl) rfl hl.1 rfl (Nat.le_of_ble_eq_true rfl) dX11_outside_27 ⟨(Nat.zero_le _), (Nat.zero_le _)⟩ (fun z1 H locs hz1 hP hD hS => ?_)
    have hP : va_P D vwCl ((cW cy ad eb es mb mz n9 (min (n9 + 40) 1280) bits F G u nb ns T M id ft (tg_fin (tg_wi (tg_er1 fo ft n9 (ih b) (il b) bits F G) ft n9 (min (n9 + 40) 1280) q (ip b) (ih b) (il b) bits F G) (min (n9 + 40) 1280) 40 58) g dq ++ tl) ++ dy) H := hP
    have hD : va_D A ((cW cy ad eb es mb mz n9 (min (n9 + 40) 1280) bits F G u nb ns T M id ft (tg_fin (tg_wi (tg_er1 fo ft n9 (ih b) (il b) bits F G) ft n9 (min (n9 + 40) 1280) q (ip b) (ih b) (il b) bits F G) (min (n9 + 40) 1280) 40 58) g dq ++ tl) ++ dy) := hD
    refine W.eq (g2 := F0 m 30 ls [.int (nI 0), .ref (ad 0)]) rfl ?_
    refine wr_V S (c_X11_closePacketM (by omega) (by omega) hsi hu4) kw3_146 yv_X11_closePacket ⟨Nat.le_of_ble_eq_true rfl, Nat.le_of_ble_eq_true rfl⟩ hK hP hD hS hA (va_recv hK hP (ci := 8) (q0 := 0) rfl rfl) rfl hl.1 rfl (Nat.le_of_ble_eq_true rfl) dX11_outside_30 ⟨(Nat.zero_le _), (Nat.zero_le _)⟩ (fun u30 H locs hu30 hP hD hS => ?_)
    have hP : va_P D vwCl ((cW cy ad eb es mb mz 0 (min (n9 + 40) 1280) bits F G u nb ns T (M + 1) id ft (tg_fin (tg_wi (tg_er1 fo ft n9 (ih b) (il b) bits F G) ft n9 (min (n9 + 40) 1280) q (ip b) (ih b) (il b) bits F G) (min (n9 + 40) 1280) 40 58) g dq ++ tl) ++ dy) H := hP
    have hD : va_D A ((cW cy ad eb es mb mz 0 (min (n9 + 40) 1280) bits F G u nb ns T (M + 1) id ft (tg_fin (tg_wi (tg_er1 fo ft n9 (ih b) (il b) bits F G) ft n9 (min (n9 + 40) 1280) q (ip b) (ih b) (il b) bits F G) (min (n9 + 40) 1280) 40 58) g dq ++ tl) ++ dy) := hD
    refine W.eq (g2 := F0 m 33 ls [.int (nI (min (n9 + 40) 1280))]) rfl ?_
    exact hend () rfl trivial hP hD hS dX11_outside_33
  exact absurd h12 (by omega)
