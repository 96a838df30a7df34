theorem cw_ne {cy : Nat → ClassId} {ad : Nat → Nat} {tl : va_W} {eb es tp os bits F G u nb ns T M id : Nat} {mb mz : Int32} {ft fo : Nat → UInt8} {g : Nat → Int32} {dq : Nat → Nat} {k j : Nat} (h : j < 12) : j ≠ (cW cy ad eb es mb mz tp os bits F G u nb ns T M id ft fo g dq ++ tl).length + k := by
  rw [List.length_append, show (cW cy ad eb es mb mz tp os bits F G u nb ns T M id ft fo g dq).length = 12 from rfl]
  omega
theorem dX11_passFromInside_0 : decode cX11_passFromInside 0 = .ok (.aload_n 0, 1) := by decide +kernel
theorem dX11_passFromInside_1 : decode cX11_passFromInside 1 = .ok (.getfield 14, 3) := by decide +kernel
theorem dX11_passFromInside_4 : decode cX11_passFromInside 4 = .ok (.aload_n 0, 1) := by decide +kernel
theorem dX11_passFromInside_5 : decode cX11_passFromInside 5 = .ok (.getfield 24, 3) := by decide +kernel
theorem dX11_passFromInside_8 : decode cX11_passFromInside 8 = .ok (.aload_n 0, 1) := by decide +kernel
theorem dX11_passFromInside_9 : decode cX11_passFromInside 9 = .ok (.getfield 31, 3) := by decide +kernel
theorem dX11_passFromInside_12 : decode cX11_passFromInside 12 = .ok (.invokestatic 208, 3) := by decide +kernel
theorem dX11_passFromInside_15 : decode cX11_passFromInside 15 = .ok (.istore_n 1, 1) := by decide +kernel
theorem dX11_passFromInside_16 : decode cX11_passFromInside 16 = .ok (.iload_n 1, 1) := by decide +kernel
theorem dX11_passFromInside_17 : decode cX11_passFromInside 17 = .ok (.ifCond .eq 5, 3) := by decide +kernel
theorem dX11_passFromInside_20 : decode cX11_passFromInside 20 = .ok (.iload_n 1, 1) := by decide +kernel
theorem dX11_passFromInside_21 : decode cX11_passFromInside 21 = .ok (.ireturn, 1) := by decide +kernel
theorem dX11_passFromInside_22 : decode cX11_passFromInside 22 = .ok (.aload_n 0, 1) := by decide +kernel
theorem dX11_passFromInside_23 : decode cX11_passFromInside 23 = .ok (.getfield 14, 3) := by decide +kernel
theorem dX11_passFromInside_26 : decode cX11_passFromInside 26 = .ok (.aload_n 0, 1) := by decide +kernel
theorem dX11_passFromInside_27 : decode cX11_passFromInside 27 = .ok (.getfield 24, 3) := by decide +kernel
theorem dX11_passFromInside_30 : decode cX11_passFromInside 30 = .ok (.aload_n 0, 1) := by decide +kernel
theorem dX11_passFromInside_31 : decode cX11_passFromInside 31 = .ok (.getfield 14, 3) := by decide +kernel
theorem dX11_passFromInside_34 : decode cX11_passFromInside 34 = .ok (.bipush 24, 2) := by decide +kernel
theorem dX11_passFromInside_36 : decode cX11_passFromInside 36 = .ok (.invokevirtual 214, 3) := by decide +kernel
theorem dX11_passFromInside_39 : decode cX11_passFromInside 39 = .ok (.aload_n 0, 1) := by decide +kernel
theorem dX11_passFromInside_40 : decode cX11_passFromInside 40 = .ok (.getfield 14, 3) := by decide +kernel
theorem dX11_passFromInside_43 : decode cX11_passFromInside 43 = .ok (.bipush 32, 2) := by decide +kernel
theorem dX11_passFromInside_45 : decode cX11_passFromInside 45 = .ok (.invokevirtual 214, 3) := by decide +kernel
theorem dX11_passFromInside_48 : decode cX11_passFromInside 48 = .ok (.invokevirtual 71, 3) := by decide +kernel
theorem dX11_passFromInside_51 : decode cX11_passFromInside 51 = .ok (.l2i, 1) := by decide +kernel
theorem dX11_passFromInside_52 : decode cX11_passFromInside 52 = .ok (.invokestatic 217, 3) := by decide +kernel
theorem dX11_passFromInside_55 : decode cX11_passFromInside 55 = .ok (.astore_n 2, 1) := by decide +kernel
theorem dX11_passFromInside_56 : decode cX11_passFromInside 56 = .ok (.aload_n 0, 1) := by decide +kernel
theorem dX11_passFromInside_57 : decode cX11_passFromInside 57 = .ok (.getfield 38, 3) := by decide +kernel
theorem dX11_passFromInside_60 : decode cX11_passFromInside 60 = .ok (.aload_n 2, 1) := by decide +kernel
theorem dX11_passFromInside_61 : decode cX11_passFromInside 61 = .ok (.aload_n 0, 1) := by decide +kernel
theorem dX11_passFromInside_62 : decode cX11_passFromInside 62 = .ok (.getfield 14, 3) := by decide +kernel
theorem dX11_passFromInside_65 : decode cX11_passFromInside 65 = .ok (.bipush 8, 2) := by decide +kernel
theorem dX11_passFromInside_67 : decode cX11_passFromInside 67 = .ok (.invokevirtual 214, 3) := by decide +kernel
theorem dX11_passFromInside_70 : decode cX11_passFromInside 70 = .ok (.aload_n 0, 1) := by decide +kernel
theorem dX11_passFromInside_71 : decode cX11_passFromInside 71 = .ok (.getfield 14, 3) := by decide +kernel
theorem dX11_passFromInside_74 : decode cX11_passFromInside 74 = .ok (.bipush 16, 2) := by decide +kernel
theorem dX11_passFromInside_76 : decode cX11_passFromInside 76 = .ok (.invokevirtual 214, 3) := by decide +kernel
theorem dX11_passFromInside_79 : decode cX11_passFromInside 79 = .ok (.aload_n 0, 1) := by decide +kernel
theorem dX11_passFromInside_80 : decode cX11_passFromInside 80 = .ok (.getfield 31, 3) := by decide +kernel
theorem dX11_passFromInside_83 : decode cX11_passFromInside 83 = .ok (.invokevirtual 193, 3) := by decide +kernel
theorem dX11_passFromInside_86 : decode cX11_passFromInside 86 = .ok (.invokevirtual 223, 3) := by decide +kernel
theorem dX11_passFromInside_89 : decode cX11_passFromInside 89 = .ok (.astore_n 3, 1) := by decide +kernel
theorem dX11_passFromInside_90 : decode cX11_passFromInside 90 = .ok (.aload_n 3, 1) := by decide +kernel
theorem dX11_passFromInside_91 : decode cX11_passFromInside 91 = .ok (.ifnonnull 6, 3) := by decide +kernel
theorem dX11_passFromInside_94 : decode cX11_passFromInside 94 = .ok (.bipush 15, 2) := by decide +kernel
theorem dX11_passFromInside_96 : decode cX11_passFromInside 96 = .ok (.ireturn, 1) := by decide +kernel
theorem dX11_passFromInside_97 : decode cX11_passFromInside 97 = .ok (.aload_n 0, 1) := by decide +kernel
theorem dX11_passFromInside_98 : decode cX11_passFromInside 98 = .ok (.getfield 14, 3) := by decide +kernel
theorem dX11_passFromInside_101 : decode cX11_passFromInside 101 = .ok (.invokevirtual 75, 3) := by decide +kernel
theorem dX11_passFromInside_104 : decode cX11_passFromInside 104 = .ok (.bipush 40, 2) := by decide +kernel
theorem dX11_passFromInside_106 : decode cX11_passFromInside 106 = .ok (.isub, 1) := by decide +kernel
theorem dX11_passFromInside_107 : decode cX11_passFromInside 107 = .ok (.bipush 20, 2) := by decide +kernel
theorem dX11_passFromInside_109 : decode cX11_passFromInside 109 = .ok (.iadd, 1) := by decide +kernel
theorem dX11_passFromInside_110 : decode cX11_passFromInside 110 = .ok (.sipush 1260, 3) := by decide +kernel
theorem dX11_passFromInside_113 : decode cX11_passFromInside 113 = .ok (.if_icmp .gt 7, 3) := by decide +kernel
theorem dX11_passFromInside_116 : decode cX11_passFromInside 116 = .ok (.iconst 1, 1) := by decide +kernel
theorem dX11_passFromInside_117 : decode cX11_passFromInside 117 = .ok (.goto 4, 3) := by decide +kernel
theorem dX11_passFromInside_120 : decode cX11_passFromInside 120 = .ok (.iconst 0, 1) := by decide +kernel
theorem dX11_passFromInside_121 : decode cX11_passFromInside 121 = .ok (.istore 4, 2) := by decide +kernel
theorem dX11_passFromInside_123 : decode cX11_passFromInside 123 = .ok (.aload_n 0, 1) := by decide +kernel
theorem dX11_passFromInside_124 : decode cX11_passFromInside 124 = .ok (.getfield 31, 3) := by decide +kernel
theorem dX11_passFromInside_127 : decode cX11_passFromInside 127 = .ok (.aload_n 3, 1) := by decide +kernel
theorem dX11_passFromInside_128 : decode cX11_passFromInside 128 = .ok (.getfield 141, 3) := by decide +kernel
theorem dX11_passFromInside_131 : decode cX11_passFromInside 131 = .ok (.invokevirtual 227, 3) := by decide +kernel
theorem dX11_passFromInside_134 : decode cX11_passFromInside 134 = .ok (.istore 5, 2) := by decide +kernel
theorem dX11_passFromInside_136 : decode cX11_passFromInside 136 = .ok (.aload_n 0, 1) := by decide +kernel
theorem dX11_passFromInside_137 : decode cX11_passFromInside 137 = .ok (.getfield 14, 3) := by decide +kernel
theorem dX11_passFromInside_140 : decode cX11_passFromInside 140 = .ok (.aload_n 0, 1) := by decide +kernel
theorem dX11_passFromInside_141 : decode cX11_passFromInside 141 = .ok (.getfield 18, 3) := by decide +kernel
theorem dX11_passFromInside_144 : decode cX11_passFromInside 144 = .ok (.aload_n 3, 1) := by decide +kernel
theorem dX11_passFromInside_145 : decode cX11_passFromInside 145 = .ok (.iload 5, 2) := by decide +kernel
theorem dX11_passFromInside_147 : decode cX11_passFromInside 147 = .ok (.aload_n 2, 1) := by decide +kernel
theorem dX11_passFromInside_148 : decode cX11_passFromInside 148 = .ok (.getfield 230, 3) := by decide +kernel
theorem dX11_passFromInside_151 : decode cX11_passFromInside 151 = .ok (.iload 4, 2) := by decide +kernel
theorem dX11_passFromInside_153 : decode cX11_passFromInside 153 = .ok (.ifCond .eq 10, 3) := by decide +kernel
theorem dX11_passFromInside_156 : decode cX11_passFromInside 156 = .ok (.aload_n 0, 1) := by decide +kernel
theorem dX11_passFromInside_157 : decode cX11_passFromInside 157 = .ok (.getfield 50, 3) := by decide +kernel
theorem dX11_passFromInside_160 : decode cX11_passFromInside 160 = .ok (.goto 4, 3) := by decide +kernel
theorem dX11_passFromInside_163 : decode cX11_passFromInside 163 = .ok (.iconst 0, 1) := by decide +kernel
theorem dX11_passFromInside_164 : decode cX11_passFromInside 164 = .ok (.invokestatic 231, 3) := by decide +kernel
theorem dX11_passFromInside_167 : decode cX11_passFromInside 167 = .ok (.iload 4, 2) := by decide +kernel
theorem dX11_passFromInside_169 : decode cX11_passFromInside 169 = .ok (.ifCond .eq 26, 3) := by decide +kernel
theorem dX11_passFromInside_172 : decode cX11_passFromInside 172 = .ok (.aload_n 0, 1) := by decide +kernel
theorem dX11_passFromInside_173 : decode cX11_passFromInside 173 = .ok (.aload_n 0, 1) := by decide +kernel
theorem dX11_passFromInside_174 : decode cX11_passFromInside 174 = .ok (.getfield 50, 3) := by decide +kernel
theorem dX11_passFromInside_177 : decode cX11_passFromInside 177 = .ok (.ldc 237, 2) := by decide +kernel
theorem dX11_passFromInside_179 : decode cX11_passFromInside 179 = .ok (.if_icmp .ne 7, 3) := by decide +kernel
theorem dX11_passFromInside_182 : decode cX11_passFromInside 182 = .ok (.iconst 1, 1) := by decide +kernel
theorem dX11_passFromInside_183 : decode cX11_passFromInside 183 = .ok (.goto 9, 3) := by decide +kernel
theorem dX11_passFromInside_186 : decode cX11_passFromInside 186 = .ok (.aload_n 0, 1) := by decide +kernel
theorem dX11_passFromInside_187 : decode cX11_passFromInside 187 = .ok (.getfield 50, 3) := by decide +kernel
theorem dX11_passFromInside_190 : decode cX11_passFromInside 190 = .ok (.iconst 1, 1) := by decide +kernel
theorem dX11_passFromInside_191 : decode cX11_passFromInside 191 = .ok (.iadd, 1) := by decide +kernel
theorem dX11_passFromInside_192 : decode cX11_passFromInside 192 = .ok (.putfield 50, 3) := by decide +kernel
theorem dX11_passFromInside_195 : decode cX11_passFromInside 195 = .ok (.iconst 0, 1) := by decide +kernel
theorem dX11_passFromInside_196 : decode cX11_passFromInside 196 = .ok (.ireturn, 1) := by decide +kernel
theorem yv_X11_passFromInside : YV RX11 yX11_passFromInside cX11_passFromInside 6 (some .int) 0 := ⟨kw2_5, kws_1, kw1_1, kw2_6, by decide +kernel⟩
set_option maxHeartbeats 4000000 in
set_option maxRecDepth 100000 in
theorem c_X11_passFromInside0 {l : Launch} {D : va_G} {cy : Nat → ClassId} {ad : Nat → Nat} {tl dy : va_W} {eb es tp os bits F G u nb ns T M id : Nat} {mb mz : Int32} {ft fo : Nat → UInt8} {g : Nat → Int32} {dq : Nat → Nat} (htp : tp ≤ 1600) (hos : os ≤ 1620) (hsi : SI bits F G) (hu4 : u ≤ 4) (hz0 : tg_in (tg_rd ft tp) tp bits F G u ≠ 0) : RO l yX11_passFromInside cX11_passFromInside 6 (some .int) 5 118 [.ref (ad 0)] D cy ((cW cy ad eb es mb mz tp os bits F G u nb ns T M id ft fo g dq ++ tl) ++ dy) (.int (nI (tg_in (tg_rd ft tp) tp bits F G u))) := by
  refine ROi (by decide) (lv0 := [(0, .ref (ad 0))]) rfl (Nat.le_of_ble_eq_true rfl) ?_
  intro p e s m args below meth c ls Q S hP hK hend hl
  have hx := S.1
  have hb := S.2.1
  have hown : s.vm.findClass RX11 = some m.cls := S.2.2.2.1
  have ht : ∀ w ∈ lw_g, w.before args s = true := fun w h => S.2.2.2.2 w (List.mem_cons_of_mem _ h)
  have hP : va_P D vwCl ((cW cy ad eb es mb mz tp os bits F G u nb ns T M id ft fo g dq ++ tl) ++ dy) s.heap := hP
  have hT : ((cW cy ad eb es mb mz tp os bits F G u nb ns T M id ft fo g dq ++ tl) ++ dy)[8]? = some (tE (ad 8) (ad 9) (ad 10) T) := rfl
  have hLb : ((cW cy ad eb es mb mz tp os bits F G u nb ns T M id ft fo g dq ++ tl) ++ dy)[9]? = some (aL (ad 9) mb eb nb) := rfl
  have hLs : ((cW cy ad eb es mb mz tp os bits F G u nb ns T M id ft fo g dq ++ tl) ++ dy)[10]? = some (aL (ad 10) mz es ns) := rfl
  have hST : STP ((cW cy ad eb es mb mz tp os bits F G u nb ns T M id ft fo g dq ++ tl) ++ dy) (ad 5) bits F G := STP_of (ks := 5) rfl hsi
  have hPL : PLP cy ((cW cy ad eb es mb mz tp os bits F G u nb ns T M id ft fo g dq ++ tl) ++ dy) (ad 6) g u := PLP_of (kp := 6) (kq := 7) rfl rfl hu4
  refine lv_aload_n hx hb dX11_passFromInside_0 rfl (lv_at hl 0 rfl) ?_
  refine va_get (ci := 8) (C := RX11) (T := TX11) (N := 8) hx hb ht iFX11 hown hK hP 0 rfl rfl 0 (by decide) (ht _ kw1_123) (fun _ h9 => h9) rfl dX11_passFromInside_1 ?_
  refine lv_aload_n hx hb dX11_passFromInside_4 rfl (lv_at hl 0 rfl) ?_
  refine va_get (ci := 8) (C := RX11) (T := TX11) (N := 8) hx hb ht iFX11 hown hK hP 0 rfl rfl 2 (by decide) (ht _ kw1_125) (fun _ h9 => h9) rfl dX11_passFromInside_5 ?_
  refine lv_aload_n hx hb dX11_passFromInside_8 rfl (lv_at hl 0 rfl) ?_
  refine va_get (ci := 8) (C := RX11) (T := TX11) (N := 8) hx hb ht iFX11 hown hK hP 0 rfl rfl 3 (by decide) (ht _ kw1_126) (fun _ h9 => h9) rfl dX11_passFromInside_9 ?_
  refine ro_S S (c_X6_faultFromInside (PK_of (ws := (cW cy ad eb es mb mz tp os bits F G u nb ns T M id ft fo g dq ++ tl) ++ dy) (kb := 1) (ka := 2) (N := 1600) rfl rfl (by omega) (by omega)) hST hPL) kw2_7 yv_X6_faultFromInside ⟨Nat.le_of_ble_eq_true rfl, Nat.le_of_ble_eq_true rfl⟩ hK hP rfl hl.1 rfl (Nat.le_of_ble_eq_true rfl) dX11_passFromInside_12 ⟨(Nat.zero_le _), (Nat.zero_le _)⟩ ?_
  have hle9 : tg_in (tg_rd ft tp) tp bits F G u ≤ 14 := by unfold tg_in; (repeat' split) <;> omega
  refine lv_istore_n (lv' := [(1, .int (nI (tg_in (tg_rd ft tp) tp bits F G u))), (0, .ref (ad 0))]) hx hb dX11_passFromInside_15 rfl hl (by decide) rfl (fun ls hl => ?_)
  refine lv_iload_n hx hb dX11_passFromInside_16 rfl (lv_at hl 0 rfl) ?_
  refine nv_if_eq (tgt := 22) hx hb dX11_passFromInside_17 (by decide) (by omega) (fun h17 => ?_) (fun h17 => ?_)
  · skip
    exact absurd h17 hz0
  refine lv_iload_n hx hb dX11_passFromInside_20 rfl (lv_at hl 0 rfl) ?_
  exact hend (rfl) dX11_passFromInside_21
set_option maxHeartbeats 4000000 in
set_option maxRecDepth 100000 in
theorem c_X11_passFromInside1 {l : Launch} {D : va_G} {cy : Nat → ClassId} {ad : Nat → Nat} {tl dy : va_W} {eb es tp os bits F G u nb ns T M id : Nat} {mb mz : Int32} {ft fo : Nat → UInt8} {g : Nat → Int32} {dq ba sa pt ih il ip pn op so fa fp st en : Nat → Nat} {e0 : Nat × Nat} (htp : tp ≤ 1600) (hos : os ≤ 1620) (hsi : SI bits F G) (hu4 : u ≤ 4) (hDY : DY cy e0.1 dy eb es nb ns ba sa pt ih il ip pn op so fa fp st en) (hb_pt : ∀ i, pt i < 2 ^ 31) (hb_ih : ∀ i, ih i < 2 ^ 64) (hb_il : ∀ i, il i < 2 ^ 64) (hb_ip : ∀ i, ip i < 2 ^ 31) (hb_pn : ∀ i, pn i < 2 ^ 31) (hb_op : ∀ i, op i < 2 ^ 31) (hb_fa : ∀ i, fa i < 2 ^ 32) (hb_fp : ∀ i, fp i < 2 ^ 31) (hb_st : ∀ i, st i ≤ 7) (hb_en : ∀ i, en i < 2 ^ 62) {q port far fpt ev hi lo : Nat} (eq0 : q = if tg_rd ft tp 6 = 58 then 1 else tg_rd ft tp 6) (eport : port = tg_pr (tg_rd ft tp) (40 + tg_spa q)) (efar : far = tg_dr bits (tg_ei (tg_rd ft tp) 24) (tg_ei (tg_rd ft tp) 32)) (efpt : fpt = if q = 1 then 0 else tg_pr (tg_rd ft tp) (40 + tg_dpa q)) (eev : ev = tg_event (tg_rd ft tp) 40 q) (ehi : hi = tg_ei (tg_rd ft tp) 8) (elo : lo = tg_ei (tg_rd ft tp) 16) (hz0 : tg_in (tg_rd ft tp) tp bits F G u = 0) (hb_pn4 : ∀ i, pn i < 4) {b : Nat} (hb9 : b < nb) (hfb : tg_first (fun k => decide (pt k = q ∧ ih k = hi ∧ il k = lo ∧ ip k = port)) nb = b) {j : Nat} (hj9 : j < ns) (hfj : tg_first (fun k => decide (so k = b ∧ fa k = far ∧ fp k = fpt)) ns = j) {sa9 : Nat} (hsa9 : sa9 < 2 ^ 32) (hid : id < 65536) (hpu : pn b < u) (hga : g (pn b) = nI sa9) (hip9 : ip b < 65536) : WR (S := va_W) l yX11_passFromInside cX11_passFromInside 6 (some .int) 5 1 6 121 [.ref (ad 0)] D cy ((cW cy ad eb es mb mz tp os bits F G u nb ns T M id ft fo g dq ++ tl) ++ dy) (fun u_ => some (.int (nI 0))) (fun z9 => DY cy e0.1 z9 eb es nb ns ba sa pt ih il ip pn op so fa fp (if tg_nxt (st j) ev true = 8 then st else va_up st j (tg_nxt (st j) ev true)) (if tg_nxt (st j) ev true = 8 then en else va_up en j (T + tg_life (tg_nxt (st j) ev true) q))) (fun z9 => (cW cy ad eb es mb mz tp (20 + (tp - 40)) bits F G u nb ns T M (tg_id tp id) ft (tg_four fo ft tp q (if tp - 20 ≤ 1260 then id else 0) sa9 far (op b)) g dq ++ tl) ++ z9) := by
  refine WRi (by decide) (lv0 := [(0, .ref (ad 0))]) rfl (Nat.le_of_ble_eq_true rfl) ?_
  intro p e s m args below meth c ls A Q S hnm hP hK hD hS hA hend hl
  have hx := S.1
  have hb := S.2.1
  have hown : s.vm.findClass RX11 = some m.cls := S.2.2.2.1
  have ht : ∀ w ∈ lw_g, w.before args s = true := fun w h => S.2.2.2.2 w (List.mem_cons_of_mem _ h)
  have hP : va_P D vwCl ((cW cy ad eb es mb mz tp os bits F G u nb ns T M id ft fo g dq ++ tl) ++ dy) s.heap := hP
  have hT : ((cW cy ad eb es mb mz tp os bits F G u nb ns T M id ft fo g dq ++ tl) ++ dy)[8]? = some (tE (ad 8) (ad 9) (ad 10) T) := rfl
  have hLb : ((cW cy ad eb es mb mz tp os bits F G u nb ns T M id ft fo g dq ++ tl) ++ dy)[9]? = some (aL (ad 9) mb eb nb) := rfl
  have hLs : ((cW cy ad eb es mb mz tp os bits F G u nb ns T M id ft fo g dq ++ tl) ++ dy)[10]? = some (aL (ad 10) mz es ns) := rfl
  have hB : TB1 cy ((cW cy ad eb es mb mz tp os bits F G u nb ns T M id ft fo g dq ++ tl) ++ dy) e0.1 eb nb ba pt ih il ip pn op := hDY.1.app
  have hS1 : TS1 cy ((cW cy ad eb es mb mz tp os bits F G u nb ns T M id ft fo g dq ++ tl) ++ dy) e0.1 es ns nb ba sa so fa fp st en := hDY.2.1.app
  have hST : STP ((cW cy ad eb es mb mz tp os bits F G u nb ns T M id ft fo g dq ++ tl) ++ dy) (ad 5) bits F G := STP_of (ks := 5) rfl hsi
  have hPL : PLP cy ((cW cy ad eb es mb mz tp os bits F G u nb ns T M id ft fo g dq ++ tl) ++ dy) (ad 6) g u := PLP_of (kp := 6) (kq := 7) rfl rfl hu4
  have hnb := hB.le
  have hns := hS1.le
  have hin := in0 hz0
  have hq3 : q = 1 ∨ q = 6 ∨ q = 17 := by rw [eq0]; split <;> omega
  have hsum : tg_sumAt q + 2 ≤ tp - 40 := by have h6 : q = 6 → tg_rd ft tp 6 = 6 := (by rw [eq0]; split <;> omega); unfold tg_sumAt; (repeat' split) <;> omega
  have hq : q < 256 := by omega
  have hport : port < 65536 := by rw [eport]; exact tg_pr_lt _ _ _
  have hfar : far < 2 ^ 32 := by rw [efar]; exact tg_dr_lt (by have := hsi.b; omega)
  have hfpt : fpt < 65536 := by rw [efpt]; split; omega; exact tg_pr_lt _ _ _
  have hev : ev ≤ 3 := by rw [eev]; exact tg_event_le _ _ _
  have hhi : hi < 2 ^ 64 := by rw [ehi]; exact tg_ei_lt _ _ _
  have hlo : lo < 2 ^ 64 := by rw [elo]; exact tg_ei_lt _ _ _
  have hu0 : 1 ≤ u := by omega
  have hptb : pt b = q := by have h9 := tg_first_is (q := (fun k => decide (pt k = q ∧ ih k = hi ∧ il k = lo ∧ ip k = port))) (n := nb) (by rw [hfb]; exact hb9); rw [hfb] at h9; exact (of_decide_eq_true h9).1
  refine lv_aload_n hx hb dX11_passFromInside_0 rfl (lv_at hl 0 rfl) ?_
  refine va_get (ci := 8) (C := RX11) (T := TX11) (N := 8) hx hb ht iFX11 hown hK hP 0 rfl rfl 0 (by decide) (ht _ kw1_123) (fun _ h9 => h9) rfl dX11_passFromInside_1 ?_
  refine lv_aload_n hx hb dX11_passFromInside_4 rfl (lv_at hl 0 rfl) ?_
  refine va_get (ci := 8) (C := RX11) (T := TX11) (N := 8) hx hb ht iFX11 hown hK hP 0 rfl rfl 2 (by decide) (ht _ kw1_125) (fun _ h9 => h9) rfl dX11_passFromInside_5 ?_
  refine lv_aload_n hx hb dX11_passFromInside_8 rfl (lv_at hl 0 rfl) ?_
  refine va_get (ci := 8) (C := RX11) (T := TX11) (N := 8) hx hb ht iFX11 hown hK hP 0 rfl rfl 3 (by decide) (ht _ kw1_126) (fun _ h9 => h9) rfl dX11_passFromInside_9 ?_
  refine ro_S S (c_X6_faultFromInside (PK_of (ws := (cW cy ad eb es mb mz tp os bits F G u nb ns T M id ft fo g dq ++ tl) ++ dy) (kb := 1) (ka := 2) (N := 1600) rfl rfl (by omega) (by omega)) hST hPL) kw2_7 yv_X6_faultFromInside ⟨Nat.le_of_ble_eq_true rfl, Nat.le_of_ble_eq_true rfl⟩ hK hP rfl hl.1 rfl (Nat.le_of_ble_eq_true rfl) dX11_passFromInside_12 ⟨(by show _ ≤ 1; omega), (by show _ ≤ 6; omega)⟩ ?_
  rw [hz0]
  refine lv_istore_n (lv' := [(1, .int (nI 0)), (0, .ref (ad 0))]) hx hb dX11_passFromInside_15 rfl hl (by decide) rfl (fun ls hl => ?_)
  refine lv_iload_n hx hb dX11_passFromInside_16 rfl (lv_at hl 0 rfl) ?_
  refine nv_if_eq (tgt := 22) hx hb dX11_passFromInside_17 (by decide) (by omega) (fun _ => ?_) (fun h => absurd h (by decide))
  refine lv_aload_n hx hb dX11_passFromInside_22 rfl (lv_at hl 1 rfl) ?_
  refine va_get (ci := 8) (C := RX11) (T := TX11) (N := 8) hx hb ht iFX11 hown hK hP 0 rfl rfl 0 (by decide) (ht _ kw1_123) (fun _ h9 => h9) rfl dX11_passFromInside_23 ?_
  refine lv_aload_n hx hb dX11_passFromInside_26 rfl (lv_at hl 1 rfl) ?_
  refine va_get (ci := 8) (C := RX11) (T := TX11) (N := 8) hx hb ht iFX11 hown hK hP 0 rfl rfl 2 (by decide) (ht _ kw1_125) (fun _ h9 => h9) rfl dX11_passFromInside_27 ?_
  refine lv_aload_n hx hb dX11_passFromInside_30 rfl (lv_at hl 1 rfl) ?_
  refine va_get (ci := 8) (C := RX11) (T := TX11) (N := 8) hx hb ht iFX11 hown hK hP 0 rfl rfl 0 (by decide) (ht _ kw1_123) (fun _ h9 => h9) rfl dX11_passFromInside_31 ?_
  refine nv_bipush (k := 24) hx hb dX11_passFromInside_34 (by decide) ?_
  refine ro_V S (c_X1_eight (PK_of (ws := (cW cy ad eb es mb mz tp os bits F G u nb ns T M id ft fo g dq ++ tl) ++ dy) (kb := 1) (ka := 2) (N := 1600) rfl rfl (by omega) (by omega)) (a := 24) (by omega)) kw2_88 yv_X1_eight ⟨Nat.le_of_ble_eq_true rfl, Nat.le_of_ble_eq_true rfl⟩ hK hP (va_recv hK hP (ci := 2) (q0 := 1) rfl rfl) rfl hl.1 rfl (Nat.le_of_ble_eq_true rfl) dX11_passFromInside_36 ⟨(by show _ ≤ 1; omega), (by show _ ≤ 6; omega)⟩ ?_
  have hq36 := tg_ei_lt ft tp 24
  refine lv_aload_n hx hb dX11_passFromInside_39 rfl (lv_at hl 1 rfl) ?_
  refine va_get (ci := 8) (C := RX11) (T := TX11) (N := 8) hx hb ht iFX11 hown hK hP 0 rfl rfl 0 (by decide) (ht _ kw1_123) (fun _ h9 => h9) rfl dX11_passFromInside_40 ?_
  refine nv_bipush (k := 32) hx hb dX11_passFromInside_43 (by decide) ?_
  refine ro_V S (c_X1_eight (PK_of (ws := (cW cy ad eb es mb mz tp os bits F G u nb ns T M id ft fo g dq ++ tl) ++ dy) (kb := 1) (ka := 2) (N := 1600) rfl rfl (by omega) (by omega)) (a := 32) (by omega)) kw2_88 yv_X1_eight ⟨Nat.le_of_ble_eq_true rfl, Nat.le_of_ble_eq_true rfl⟩ hK hP (va_recv hK hP (ci := 2) (q0 := 1) rfl rfl) rfl hl.1 rfl (Nat.le_of_ble_eq_true rfl) dX11_passFromInside_45 ⟨(by show _ ≤ 1; omega), (by show _ ≤ 6; omega)⟩ ?_
  have hq45 := tg_ei_lt ft tp 32
  refine ro_V S (c_X8_draw hST (hi := tg_ei (tg_rd ft tp) 24) (lo := tg_ei (tg_rd ft tp) 32) (tg_ei_lt _ _ _) (tg_ei_lt _ _ _)) kw1_212 yv_X8_draw ⟨Nat.le_of_ble_eq_true rfl, Nat.le_of_ble_eq_true rfl⟩ hK hP (va_recv hK hP (ci := 6) (q0 := 5) rfl rfl) rfl hl.1 rfl (Nat.le_of_ble_eq_true rfl) dX11_passFromInside_48 ⟨(by show _ ≤ 1; omega), (by show _ ≤ 6; omega)⟩ ?_
  rw [tg_draw_of hin.2.2.2, ← efar]
  refine nv_l2i hx hb dX11_passFromInside_51 ?_
  refine wr_S S (c_X2_fromInside (PK_of (ws := (cW cy ad eb es mb mz tp os bits F G u nb ns T M id ft fo g dq ++ tl) ++ dy) (kb := 1) (ka := 2) (N := 1600) rfl rfl (by omega) (by omega)) (far := far) hfar) kw2_89 yv_X2_fromInside ⟨Nat.le_of_ble_eq_true rfl, Nat.le_of_ble_eq_true rfl⟩ hK hP hD hS hA rfl hl.1 rfl (Nat.le_of_ble_eq_true rfl) dX11_passFromInside_52 ⟨(by show _ ≤ 1; omega), (by show _ ≤ 6; omega)⟩ (fun fl H locs hfl hP hD hS => ?_)
  rw [List.append_assoc, ← eq0, ← eport, ← efpt, ← eev] at hP hD
  have hP : va_P D vwCl ((cW cy ad eb es mb mz tp os bits F G u nb ns T M id ft fo g dq ++ tl) ++ (dy ++ [fE fl true q port far fpt ev])) H := hP
  have hD : va_D A ((cW cy ad eb es mb mz tp os bits F G u nb ns T M id ft fo g dq ++ tl) ++ (dy ++ [fE fl true q port far fpt ev])) := hD
  obtain ⟨kf, hkf⟩ : ∃ z, z = dy.length := ⟨_, rfl⟩
  have hfd : (dy ++ [fE fl true q port far fpt ev])[kf]? = some (fE fl true q port far fpt ev) := by rw [hkf]; exact app_e
  have hDYf : DY cy e0.1 (dy ++ [fE fl true q port far fpt ev]) eb es nb ns ba sa pt ih il ip pn op so fa fp st en := hDY.ext
  have hT : ((cW cy ad eb es mb mz tp os bits F G u nb ns T M id ft fo g dq ++ tl) ++ (dy ++ [fE fl true q port far fpt ev]))[8]? = some (tE (ad 8) (ad 9) (ad 10) T) := rfl
  have hLb : ((cW cy ad eb es mb mz tp os bits F G u nb ns T M id ft fo g dq ++ tl) ++ (dy ++ [fE fl true q port far fpt ev]))[9]? = some (aL (ad 9) mb eb nb) := rfl
  have hLs : ((cW cy ad eb es mb mz tp os bits F G u nb ns T M id ft fo g dq ++ tl) ++ (dy ++ [fE fl true q port far fpt ev]))[10]? = some (aL (ad 10) mz es ns) := rfl
  have hB : TB1 cy ((cW cy ad eb es mb mz tp os bits F G u nb ns T M id ft fo g dq ++ tl) ++ (dy ++ [fE fl true q port far fpt ev])) e0.1 eb nb ba pt ih il ip pn op := hDYf.1.app
  have hS1 : TS1 cy ((cW cy ad eb es mb mz tp os bits F G u nb ns T M id ft fo g dq ++ tl) ++ (dy ++ [fE fl true q port far fpt ev])) e0.1 es ns nb ba sa so fa fp st en := hDYf.2.1.app
  have hf0 : ((cW cy ad eb es mb mz tp os bits F G u nb ns T M id ft fo g dq ++ tl) ++ (dy ++ [fE fl true q port far fpt ev]))[(cW cy ad eb es mb mz tp os bits F G u nb ns T M id ft fo g dq ++ tl).length + kf]? = some (fE fl true q port far fpt ev) := app_r hfd
  have hST : STP ((cW cy ad eb es mb mz tp os bits F G u nb ns T M id ft fo g dq ++ tl) ++ (dy ++ [fE fl true q port far fpt ev])) (ad 5) bits F G := STP_of (ks := 5) rfl hsi
  have hPL : PLP cy ((cW cy ad eb es mb mz tp os bits F G u nb ns T M id ft fo g dq ++ tl) ++ (dy ++ [fE fl true q port far fpt ev])) (ad 6) g u := PLP_of (kp := 6) (kq := 7) rfl rfl hu4
  refine W.eq (g2 := F0 m 55 ls [.ref fl]) rfl ?_
  refine lv_astore_n (lv' := [(2, .ref fl), (1, .int (nI 0)), (0, .ref (ad 0))]) hx hb dX11_passFromInside_55 rfl hl (by decide) rfl (fun ls hl => ?_)
  refine lv_aload_n hx hb dX11_passFromInside_56 rfl (lv_at hl 2 rfl) ?_
  refine va_get (ci := 8) (C := RX11) (T := TX11) (N := 8) hx hb ht iFX11 hown hK hP 0 rfl rfl 4 (by decide) (ht _ kw1_127) (fun _ h9 => h9) rfl dX11_passFromInside_57 ?_
  refine lv_aload_n hx hb dX11_passFromInside_60 rfl (lv_at hl 0 rfl) ?_
  refine lv_aload_n hx hb dX11_passFromInside_61 rfl (lv_at hl 2 rfl) ?_
  refine va_get (ci := 8) (C := RX11) (T := TX11) (N := 8) hx hb ht iFX11 hown hK hP 0 rfl rfl 0 (by decide) (ht _ kw1_123) (fun _ h9 => h9) rfl dX11_passFromInside_62 ?_
  refine nv_bipush (k := 8) hx hb dX11_passFromInside_65 (by decide) ?_
  refine ro_V S (c_X1_eight (PK_of (ws := (cW cy ad eb es mb mz tp os bits F G u nb ns T M id ft fo g dq ++ tl) ++ (dy ++ [fE fl true q port far fpt ev])) (kb := 1) (ka := 2) (N := 1600) rfl rfl (by omega) (by omega)) (a := 8) (by omega)) kw2_88 yv_X1_eight ⟨Nat.le_of_ble_eq_true rfl, Nat.le_of_ble_eq_true rfl⟩ hK hP (va_recv hK hP (ci := 2) (q0 := 1) rfl rfl) rfl hl.1 rfl (Nat.le_of_ble_eq_true rfl) dX11_passFromInside_67 ⟨(by show _ ≤ 1; omega), (by show _ ≤ 6; omega)⟩ ?_
  have hq67 := tg_ei_lt ft tp 8
  refine lv_aload_n hx hb dX11_passFromInside_70 rfl (lv_at hl 2 rfl) ?_
  refine va_get (ci := 8) (C := RX11) (T := TX11) (N := 8) hx hb ht iFX11 hown hK hP 0 rfl rfl 0 (by decide) (ht _ kw1_123) (fun _ h9 => h9) rfl dX11_passFromInside_71 ?_
  refine nv_bipush (k := 16) hx hb dX11_passFromInside_74 (by decide) ?_
  refine ro_V S (c_X1_eight (PK_of (ws := (cW cy ad eb es mb mz tp os bits F G u nb ns T M id ft fo g dq ++ tl) ++ (dy ++ [fE fl true q port far fpt ev])) (kb := 1) (ka := 2) (N := 1600) rfl rfl (by omega) (by omega)) (a := 16) (by omega)) kw2_88 yv_X1_eight ⟨Nat.le_of_ble_eq_true rfl, Nat.le_of_ble_eq_true rfl⟩ hK hP (va_recv hK hP (ci := 2) (q0 := 1) rfl rfl) rfl hl.1 rfl (Nat.le_of_ble_eq_true rfl) dX11_passFromInside_76 ⟨(by show _ ≤ 1; omega), (by show _ ≤ 6; omega)⟩ ?_
  have hq76 := tg_ei_lt ft tp 16
  refine lv_aload_n hx hb dX11_passFromInside_79 rfl (lv_at hl 2 rfl) ?_
  refine va_get (ci := 8) (C := RX11) (T := TX11) (N := 8) hx hb ht iFX11 hown hK hP 0 rfl rfl 3 (by decide) (ht _ kw1_126) (fun _ h9 => h9) rfl dX11_passFromInside_80 ?_
  refine ro_V S (c_X5_size hPL) kw2_148 yv_X5_size ⟨Nat.le_of_ble_eq_true rfl, Nat.le_of_ble_eq_true rfl⟩ hK hP (va_recv hK hP (ci := 4) (q0 := 6) rfl rfl) rfl hl.1 rfl (Nat.le_of_ble_eq_true rfl) dX11_passFromInside_83 ⟨(by show _ ≤ 1; omega), (by show _ ≤ 6; omega)⟩ ?_
  rw [← ehi, ← elo]
  refine wr_V S (c_X10_admitFromInside1 hDYf hb_pt hb_ih hb_il hb_ip hb_pn hb_op hb_fa hb_fp hb_st hb_en hfd hq hport hfar hfpt hev hb_pn4 hhi hlo hu0 hu4 hb9 hfb hj9 hfj) kw2_149 yv_X10_admitFromInside ⟨Nat.le_of_ble_eq_true rfl, Nat.le_of_ble_eq_true rfl⟩ hK hP hD hS hA (va_recv hK hP (ci := 7) (q0 := 8) rfl rfl) rfl hl.1 rfl (Nat.le_of_ble_eq_true rfl) dX11_passFromInside_86 ⟨(by show _ ≤ 1; omega), (by show _ ≤ 6; omega)⟩ (fun z1 H locs hz1 hP hD hS => ?_)
  have hP : va_P D vwCl ((cW cy ad eb es mb mz tp os bits F G u nb ns T M id ft fo g dq ++ tl) ++ z1) H := hP
  have hD : va_D A ((cW cy ad eb es mb mz tp os bits F G u nb ns T M id ft fo g dq ++ tl) ++ z1) := hD
  have hT : ((cW cy ad eb es mb mz tp os bits F G u nb ns T M id ft fo g dq ++ tl) ++ z1)[8]? = some (tE (ad 8) (ad 9) (ad 10) T) := rfl
  have hLb : ((cW cy ad eb es mb mz tp os bits F G u nb ns T M id ft fo g dq ++ tl) ++ z1)[9]? = some (aL (ad 9) mb eb nb) := rfl
  have hLs : ((cW cy ad eb es mb mz tp os bits F G u nb ns T M id ft fo g dq ++ tl) ++ z1)[10]? = some (aL (ad 10) mz es ns) := rfl
  have hB : TB1 cy ((cW cy ad eb es mb mz tp os bits F G u nb ns T M id ft fo g dq ++ tl) ++ z1) e0.1 eb nb ba pt ih il ip pn op := hz1.1.1.app
  have hS1 : TS1 cy ((cW cy ad eb es mb mz tp os bits F G u nb ns T M id ft fo g dq ++ tl) ++ z1) e0.1 es ns nb ba sa so fa fp (if tg_nxt (st j) ev true = 8 then st else va_up st j (tg_nxt (st j) ev true)) (if tg_nxt (st j) ev true = 8 then en else va_up en j (T + tg_life (tg_nxt (st j) ev true) q)) := hz1.1.2.1.app
  have hf0 : ((cW cy ad eb es mb mz tp os bits F G u nb ns T M id ft fo g dq ++ tl) ++ z1)[(cW cy ad eb es mb mz tp os bits F G u nb ns T M id ft fo g dq ++ tl).length + kf]? = some (fE fl true q port far fpt ev) := app_r hz1.2
  have hST : STP ((cW cy ad eb es mb mz tp os bits F G u nb ns T M id ft fo g dq ++ tl) ++ z1) (ad 5) bits F G := STP_of (ks := 5) rfl hsi
  have hPL : PLP cy ((cW cy ad eb es mb mz tp os bits F G u nb ns T M id ft fo g dq ++ tl) ++ z1) (ad 6) g u := PLP_of (kp := 6) (kq := 7) rfl rfl hu4
  obtain ⟨kw9, hkw⟩ := hz1.1.1.at (i := b) (by omega)
  refine W.eq (g2 := F0 m 89 ls [.ref (ba b)]) rfl ?_
  refine lv_astore_n (lv' := [(3, .ref (ba b)), (2, .ref fl), (1, .int (nI 0)), (0, .ref (ad 0))]) hx hb dX11_passFromInside_89 rfl hl (by decide) rfl (fun ls hl => ?_)
  refine lv_aload_n hx hb dX11_passFromInside_90 rfl (lv_at hl 0 rfl) ?_
  refine lv_ifnonnull (tgt := 97) hx hb dX11_passFromInside_91 (by decide) ?_
  refine lv_aload_n hx hb dX11_passFromInside_97 rfl (lv_at hl 3 rfl) ?_
  refine va_get (ci := 8) (C := RX11) (T := TX11) (N := 8) hx hb ht iFX11 hown hK hP 0 rfl rfl 0 (by decide) (ht _ kw1_123) (fun _ h9 => h9) rfl dX11_passFromInside_98 ?_
  refine ro_V S (c_X1_length (PK_of (ws := (cW cy ad eb es mb mz tp os bits F G u nb ns T M id ft fo g dq ++ tl) ++ z1) (kb := 1) (ka := 2) (N := 1600) rfl rfl (by omega) (by omega))) kw1_220 yv_X1_length ⟨Nat.le_of_ble_eq_true rfl, Nat.le_of_ble_eq_true rfl⟩ hK hP (va_recv hK hP (ci := 2) (q0 := 1) rfl rfl) rfl hl.1 rfl (Nat.le_of_ble_eq_true rfl) dX11_passFromInside_101 ⟨(by show _ ≤ 1; omega), (by show _ ≤ 6; omega)⟩ ?_
  refine nv_bipush (k := 40) hx hb dX11_passFromInside_104 (by decide) ?_
  refine nv_isub hx hb (by omega) dX11_passFromInside_106 ?_
  refine nv_bipush (k := 20) hx hb dX11_passFromInside_107 (by decide) ?_
  refine nv_iadd hx hb dX11_passFromInside_109 ?_
  refine nv_sipush (k := 1260) hx hb dX11_passFromInside_110 (by decide) ?_
  refine nv_icmp_gt (tgt := 120) hx hb dX11_passFromInside_113 (by decide) (by omega) (by omega) (fun h113 => ?_) (fun h113 => ?_)
  · skip
    refine nv_iconst (k := 0) hx hb dX11_passFromInside_120 rfl ?_
    refine lv_istore (lv' := [(4, .int (nI 0)), (3, .ref (ba b)), (2, .ref fl), (1, .int (nI 0)), (0, .ref (ad 0))]) hx hb dX11_passFromInside_121 hl (by decide) rfl (fun ls hl => ?_)
    refine lv_aload_n hx hb dX11_passFromInside_123 rfl (lv_at hl 4 rfl) ?_
    refine va_get (ci := 8) (C := RX11) (T := TX11) (N := 8) hx hb ht iFX11 hown hK hP 0 rfl rfl 3 (by decide) (ht _ kw1_126) (fun _ h9 => h9) rfl dX11_passFromInside_124 ?_
    refine lv_aload_n hx hb dX11_passFromInside_127 rfl (lv_at hl 1 rfl) ?_
    refine va_get (ci := 1) (C := RX0) (T := TX0) (N := 6) hx hb ht iFX0 hown hK hP ((cW cy ad eb es mb mz tp os bits F G u nb ns T M id ft fo g dq ++ tl).length + kw9) (app_r hkw) rfl 4 (by decide) (ht _ kw3_9) (fun _ h9 => h9) rfl dX11_passFromInside_128 ?_
    refine ro_V S (c_X5_at hPL (k := pn b) (by omega)) kw3_112 yv_X5_at ⟨Nat.le_of_ble_eq_true rfl, Nat.le_of_ble_eq_true rfl⟩ hK hP (va_recv hK hP (ci := 4) (q0 := 6) rfl rfl) rfl hl.1 rfl (Nat.le_of_ble_eq_true rfl) dX11_passFromInside_131 ⟨(by show _ ≤ 1; omega), (by show _ ≤ 6; omega)⟩ ?_
    rw [hga]
    refine lv_istore (lv' := [(5, .int (nI sa9)), (4, .int (nI 0)), (3, .ref (ba b)), (2, .ref fl), (1, .int (nI 0)), (0, .ref (ad 0))]) hx hb dX11_passFromInside_134 hl (by decide) rfl (fun ls hl => ?_)
    refine lv_aload_n hx hb dX11_passFromInside_136 rfl (lv_at hl 5 rfl) ?_
    refine va_get (ci := 8) (C := RX11) (T := TX11) (N := 8) hx hb ht iFX11 hown hK hP 0 rfl rfl 0 (by decide) (ht _ kw1_123) (fun _ h9 => h9) rfl dX11_passFromInside_137 ?_
    refine lv_aload_n hx hb dX11_passFromInside_140 rfl (lv_at hl 5 rfl) ?_
    refine va_get (ci := 8) (C := RX11) (T := TX11) (N := 8) hx hb ht iFX11 hown hK hP 0 rfl rfl 1 (by decide) (ht _ kw1_124) (fun _ h9 => h9) rfl dX11_passFromInside_141 ?_
    refine lv_aload_n hx hb dX11_passFromInside_144 rfl (lv_at hl 2 rfl) ?_
    refine lv_iload hx hb dX11_passFromInside_145 (lv_at hl 0 rfl) ?_
    refine lv_aload_n hx hb dX11_passFromInside_147 rfl (lv_at hl 3 rfl) ?_
    refine va_get (ci := 3) (C := RX2) (T := TX2) (N := 6) hx hb ht iFX2 hown hK hP ((cW cy ad eb es mb mz tp os bits F G u nb ns T M id ft fo g dq ++ tl).length + kf) (app_r hz1.2) rfl 3 (by decide) (ht _ kw2_129) (fun _ h9 => h9) rfl dX11_passFromInside_148 ?_
    refine lv_iload hx hb dX11_passFromInside_151 (lv_at hl 1 rfl) ?_
    refine nv_if_eq (tgt := 163) hx hb dX11_passFromInside_153 (by decide) (by omega) (fun _ => ?_) (fun h => absurd h (by decide))
    refine nv_iconst (k := 0) hx hb dX11_passFromInside_163 rfl ?_
    refine wr_S S (c_X3_toFour (ws := (cW cy ad eb es mb mz tp os bits F G u nb ns T M id ft fo g dq ++ tl) ++ z1) (kb := 3) (ka := 4) rfl rfl (by omega) (by omega) (ki := 1) (kai := 2) rfl rfl (by omega) (by omega) (by decide) (by decide) (by decide) (by decide) (app_r hkw) (by rw [hptb]; exact hq3) (hb_ih b) (hb_il b) hip9 (hb_op b) (cw_ne (by decide)) (cw_ne (by decide)) (fa := sa9) (ta := far) (sp := 0) hsa9 hfar (by omega) (by omega) (by omega) (by rw [hptb]; exact hsum) (by omega) hin.1.2.2.2.2) kw3_116 yv_X3_toFour ⟨Nat.le_of_ble_eq_true rfl, Nat.le_of_ble_eq_true rfl⟩ hK hP hD hS hA rfl hl.1 rfl (Nat.le_of_ble_eq_true rfl) dX11_passFromInside_164 ⟨(by show _ ≤ 1; omega), (by show _ ≤ 6; omega)⟩ (fun g164 H locs hg164 hP hD hS => ?_)
    have hP : va_P D vwCl ((cW cy ad eb es mb mz tp (20 + (tp - 40)) bits F G u nb ns T M id ft g164 g dq ++ tl) ++ z1) H := hP
    have hD : va_D A ((cW cy ad eb es mb mz tp (20 + (tp - 40)) bits F G u nb ns T M id ft g164 g dq ++ tl) ++ z1) := hD
    refine W.eq (g2 := F0 m 167 ls []) rfl ?_
    refine lv_iload hx hb dX11_passFromInside_167 (lv_at hl 1 rfl) ?_
    refine nv_if_eq (tgt := 195) hx hb dX11_passFromInside_169 (by decide) (by omega) (fun _ => ?_) (fun h => absurd h (by decide))
    refine nv_iconst (k := 0) hx hb dX11_passFromInside_195 rfl ?_
    have e1 : (if tp - 20 ≤ 1260 then id else 0) = 0 := if_neg (by omega)
    have e2 : tg_id tp id = id := by unfold tg_id; rw [if_neg (by omega)]
    rw [hg164, hptb] at hP hD
    refine W.widen (k := 1) (n := 6) (by omega) (by omega) ?_
    exact hend z1 rfl hz1.1 (by rw [e1, e2]; exact hP) (by rw [e1, e2]; exact hD) hS dX11_passFromInside_196
  refine nv_iconst (k := 1) hx hb dX11_passFromInside_116 rfl ?_
  refine lv_goto (tgt := 121) hx hb dX11_passFromInside_117 (by decide) ?_
  refine lv_istore (lv' := [(4, .int (nI 1)), (3, .ref (ba b)), (2, .ref fl), (1, .int (nI 0)), (0, .ref (ad 0))]) hx hb dX11_passFromInside_121 hl (by decide) rfl (fun ls hl => ?_)
  refine lv_aload_n hx hb dX11_passFromInside_123 rfl (lv_at hl 4 rfl) ?_
  refine va_get (ci := 8) (C := RX11) (T := TX11) (N := 8) hx hb ht iFX11 hown hK hP 0 rfl rfl 3 (by decide) (ht _ kw1_126) (fun _ h9 => h9) rfl dX11_passFromInside_124 ?_
  refine lv_aload_n hx hb dX11_passFromInside_127 rfl (lv_at hl 1 rfl) ?_
  refine va_get (ci := 1) (C := RX0) (T := TX0) (N := 6) hx hb ht iFX0 hown hK hP ((cW cy ad eb es mb mz tp os bits F G u nb ns T M id ft fo g dq ++ tl).length + kw9) (app_r hkw) rfl 4 (by decide) (ht _ kw3_9) (fun _ h9 => h9) rfl dX11_passFromInside_128 ?_
  refine ro_V S (c_X5_at hPL (k := pn b) (by omega)) kw3_112 yv_X5_at ⟨Nat.le_of_ble_eq_true rfl, Nat.le_of_ble_eq_true rfl⟩ hK hP (va_recv hK hP (ci := 4) (q0 := 6) rfl rfl) rfl hl.1 rfl (Nat.le_of_ble_eq_true rfl) dX11_passFromInside_131 ⟨(by show _ ≤ 1; omega), (by show _ ≤ 6; omega)⟩ ?_
  rw [hga]
  refine lv_istore (lv' := [(5, .int (nI sa9)), (4, .int (nI 1)), (3, .ref (ba b)), (2, .ref fl), (1, .int (nI 0)), (0, .ref (ad 0))]) hx hb dX11_passFromInside_134 hl (by decide) rfl (fun ls hl => ?_)
  refine lv_aload_n hx hb dX11_passFromInside_136 rfl (lv_at hl 5 rfl) ?_
  refine va_get (ci := 8) (C := RX11) (T := TX11) (N := 8) hx hb ht iFX11 hown hK hP 0 rfl rfl 0 (by decide) (ht _ kw1_123) (fun _ h9 => h9) rfl dX11_passFromInside_137 ?_
  refine lv_aload_n hx hb dX11_passFromInside_140 rfl (lv_at hl 5 rfl) ?_
  refine va_get (ci := 8) (C := RX11) (T := TX11) (N := 8) hx hb ht iFX11 hown hK hP 0 rfl rfl 1 (by decide) (ht _ kw1_124) (fun _ h9 => h9) rfl dX11_passFromInside_141 ?_
  refine lv_aload_n hx hb dX11_passFromInside_144 rfl (lv_at hl 2 rfl) ?_
  refine lv_iload hx hb dX11_passFromInside_145 (lv_at hl 0 rfl) ?_
  refine lv_aload_n hx hb dX11_passFromInside_147 rfl (lv_at hl 3 rfl) ?_
  refine va_get (ci := 3) (C := RX2) (T := TX2) (N := 6) hx hb ht iFX2 hown hK hP ((cW cy ad eb es mb mz tp os bits F G u nb ns T M id ft fo g dq ++ tl).length + kf) (app_r hz1.2) rfl 3 (by decide) (ht _ kw2_129) (fun _ h9 => h9) rfl dX11_passFromInside_148 ?_
  refine lv_iload hx hb dX11_passFromInside_151 (lv_at hl 1 rfl) ?_
  refine nv_if_eq (tgt := 163) hx hb dX11_passFromInside_153 (by decide) (by omega) (fun h => absurd h (by decide)) (fun _ => ?_)
  refine lv_aload_n hx hb dX11_passFromInside_156 rfl (lv_at hl 5 rfl) ?_
  refine va_get (ci := 8) (C := RX11) (T := TX11) (N := 8) hx hb ht iFX11 hown hK hP 0 rfl rfl 7 (by decide) (ht _ kw1_130) (fun _ h9 => h9) rfl dX11_passFromInside_157 ?_
  refine lv_goto (tgt := 164) hx hb dX11_passFromInside_160 (by decide) ?_
  refine wr_S S (c_X3_toFour (ws := (cW cy ad eb es mb mz tp os bits F G u nb ns T M id ft fo g dq ++ tl) ++ z1) (kb := 3) (ka := 4) rfl rfl (by omega) (by omega) (ki := 1) (kai := 2) rfl rfl (by omega) (by omega) (by decide) (by decide) (by decide) (by decide) (app_r hkw) (by rw [hptb]; exact hq3) (hb_ih b) (hb_il b) hip9 (hb_op b) (cw_ne (by decide)) (cw_ne (by decide)) (fa := sa9) (ta := far) (sp := id) hsa9 hfar (by omega) (by omega) (by omega) (by rw [hptb]; exact hsum) (by omega) hin.1.2.2.2.2) kw3_116 yv_X3_toFour ⟨Nat.le_of_ble_eq_true rfl, Nat.le_of_ble_eq_true rfl⟩ hK hP hD hS hA rfl hl.1 rfl (Nat.le_of_ble_eq_true rfl) dX11_passFromInside_164 ⟨(by show _ ≤ 1; omega), (by show _ ≤ 6; omega)⟩ (fun g164 H locs hg164 hP hD hS => ?_)
  have hP : va_P D vwCl ((cW cy ad eb es mb mz tp (20 + (tp - 40)) bits F G u nb ns T M id ft g164 g dq ++ tl) ++ z1) H := hP
  have hD : va_D A ((cW cy ad eb es mb mz tp (20 + (tp - 40)) bits F G u nb ns T M id ft g164 g dq ++ tl) ++ z1) := hD
  refine W.eq (g2 := F0 m 167 ls []) rfl ?_
  refine lv_iload hx hb dX11_passFromInside_167 (lv_at hl 1 rfl) ?_
  refine nv_if_eq (tgt := 195) hx hb dX11_passFromInside_169 (by decide) (by omega) (fun h => absurd h (by decide)) (fun _ => ?_)
  refine lv_aload_n hx hb dX11_passFromInside_172 rfl (lv_at hl 5 rfl) ?_
  refine lv_aload_n hx hb dX11_passFromInside_173 rfl (lv_at hl 5 rfl) ?_
  refine va_get (ci := 8) (C := RX11) (T := TX11) (N := 8) hx hb ht iFX11 hown hK hP 0 rfl rfl 7 (by decide) (ht _ kw1_130) (fun _ h9 => h9) rfl dX11_passFromInside_174 ?_
  refine nv_ldc (k := 65535) hx hb hown (ht _ kw3_145) (by decide) dX11_passFromInside_177 ?_
  refine nv_icmp_ne (tgt := 186) hx hb dX11_passFromInside_179 (by decide) (by omega) (by omega) (fun h179 => ?_) (fun h179 => ?_)
  · skip
    refine lv_aload_n hx hb dX11_passFromInside_186 rfl (lv_at hl 5 rfl) ?_
    refine va_get (ci := 8) (C := RX11) (T := TX11) (N := 8) hx hb ht iFX11 hown hK hP 0 rfl rfl 7 (by decide) (ht _ kw1_130) (fun _ h9 => h9) rfl dX11_passFromInside_187 ?_
    refine nv_iconst (k := 1) hx hb dX11_passFromInside_190 rfl ?_
    refine nv_iadd hx hb dX11_passFromInside_191 ?_
    refine va_put (ci := 8) (C := RX11) (T := TX11) (N := 8) (ty := tyX11 7) hx hb ht iFX11 tyX11 tyX11_ok nmX11 hown hK hP hD hS 0 rfl rfl 7 (by decide) (ht _ kw1_130) (fun _ h9 => h9) rfl (by decide +kernel) (by first | rfl | decide) (by first | rfl | decide) (Nat.le_of_ble_eq_true rfl) dX11_passFromInside_192 (fun H locs hP hD hS => ?_)
    have hP : va_P D vwCl ((cW cy ad eb es mb mz tp (20 + (tp - 40)) bits F G u nb ns T M (id + 1) ft g164 g dq ++ tl) ++ z1) H := hP
    have hD : va_D A ((cW cy ad eb es mb mz tp (20 + (tp - 40)) bits F G u nb ns T M (id + 1) ft g164 g dq ++ tl) ++ z1) := hD
    refine nv_iconst (k := 0) hx hb dX11_passFromInside_195 rfl ?_
    have e1 : (if tp - 20 ≤ 1260 then id else 0) = id := if_pos (by omega)
    have e2 : tg_id tp id = id + 1 := by unfold tg_id; rw [if_pos (by omega), if_neg (by omega)]
    rw [hg164, hptb] at hP hD
    refine W.widen (k := 1) (n := 6) (by omega) (by omega) ?_
    exact hend z1 rfl hz1.1 (by rw [e1, e2]; exact hP) (by rw [e1, e2]; exact hD) hS dX11_passFromInside_196
  refine nv_iconst (k := 1) hx hb dX11_passFromInside_182 rfl ?_
  refine lv_goto (tgt := 192) hx hb dX11_passFromInside_183 (by decide) ?_
  refine va_put (ci := 8) (C := RX11) (T := TX11) (N := 8) (ty := tyX11 7) hx hb ht iFX11 tyX11 tyX11_ok nmX11 hown hK hP hD hS 0 rfl rfl 7 (by decide) (ht _ kw1_130) (fun _ h9 => h9) rfl (by decide +kernel) (by first | rfl | decide) (by first | rfl | decide) (Nat.le_of_ble_eq_true rfl) dX11_passFromInside_192 (fun H locs hP hD hS => ?_)
  have hP : va_P D vwCl ((cW cy ad eb es mb mz tp (20 + (tp - 40)) bits F G u nb ns T M 1 ft g164 g dq ++ tl) ++ z1) H := hP
  have hD : va_D A ((cW cy ad eb es mb mz tp (20 + (tp - 40)) bits F G u nb ns T M 1 ft g164 g dq ++ tl) ++ z1) := hD
  refine nv_iconst (k := 0) hx hb dX11_passFromInside_195 rfl ?_
  have e1 : (if tp - 20 ≤ 1260 then id else 0) = id := if_pos (by omega)
  have e2 : tg_id tp id = 1 := by unfold tg_id; rw [if_pos (by omega), if_pos (by omega)]
  rw [hg164, hptb] at hP hD
  refine W.widen (k := 1) (n := 6) (by omega) (by omega) ?_
  exact hend z1 rfl hz1.1 (by rw [e1, e2]; exact hP) (by rw [e1, e2]; exact hD) hS dX11_passFromInside_196
set_option maxHeartbeats 4000000 in
set_option maxRecDepth 100000 in
theorem c_X11_passFromInside2 {l : Launch} {D : va_G} {cy : Nat → ClassId} {e0 : Nat × Nat} {ad : Nat → Nat} {tl dy : va_W} {eb es tp os bits F G u nb ns T M id : Nat} {mb mz : Int32} {ft fo : Nat → UInt8} {g : Nat → Int32} {dq ba sa pt ih il ip pn op so fa fp st en : Nat → Nat} (htp : tp ≤ 1600) (hos : os ≤ 1620) (hsi : SI bits F G) (hu4 : u ≤ 4) (hDY : DY cy e0.1 dy eb es nb ns ba sa pt ih il ip pn op so fa fp st en) (hb_pt : ∀ i, pt i < 2 ^ 31) (hb_ih : ∀ i, ih i < 2 ^ 64) (hb_il : ∀ i, il i < 2 ^ 64) (hb_ip : ∀ i, ip i < 2 ^ 31) (hb_pn : ∀ i, pn i < 2 ^ 31) (hb_op : ∀ i, op i < 2 ^ 31) (hb_fa : ∀ i, fa i < 2 ^ 32) (hb_fp : ∀ i, fp i < 2 ^ 31) (hb_st : ∀ i, st i ≤ 7) (hb_en : ∀ i, en i < 2 ^ 62) {q port far fpt ev hi lo : Nat} (eq0 : q = if tg_rd ft tp 6 = 58 then 1 else tg_rd ft tp 6) (eport : port = tg_pr (tg_rd ft tp) (40 + tg_spa q)) (efar : far = tg_dr bits (tg_ei (tg_rd ft tp) 24) (tg_ei (tg_rd ft tp) 32)) (efpt : fpt = if q = 1 then 0 else tg_pr (tg_rd ft tp) (40 + tg_dpa q)) (eev : ev = tg_event (tg_rd ft tp) 40 q) (ehi : hi = tg_ei (tg_rd ft tp) 8) (elo : lo = tg_ei (tg_rd ft tp) 16) (hz0 : tg_in (tg_rd ft tp) tp bits F G u = 0) (hb_pn4 : ∀ i, pn i < 4) {b : Nat} (hb9 : b < nb) (hfb : tg_first (fun k => decide (pt k = q ∧ ih k = hi ∧ il k = lo ∧ ip k = port)) nb = b) (hfj : ¬ tg_first (fun k => decide (so k = b ∧ fa k = far ∧ fp k = fpt)) ns < ns) (hmay : (q ≠ 6 ∨ ev = 2) ∧ ns < 128) {sa9 : Nat} (hsa9 : sa9 < 2 ^ 32) (hid : id < 65536) (hpu : pn b < u) (hga : g (pn b) = nI sa9) (hip9 : ip b < 65536) : WRX (S := (Nat × Nat × va_W)) l yX11_passFromInside cX11_passFromInside 6 (some .int) 8 3 311 189 [.ref (ad 0)] D cy e0 ((cW cy ad eb es mb mz tp os bits F G u nb ns T M id ft fo g dq ++ tl) ++ dy) (fun u_ => some (.int (nI 0))) (fun z9 => DY cy e0.1 z9.2.2 eb z9.2.1 nb (ns + 1) ba (va_up sa ns z9.1) pt ih il ip pn op (va_up so ns b) (va_up fa ns far) (va_up fp ns fpt) (va_up st ns (tg_first_st q true)) (va_up en ns (T + tg_life (tg_first_st q true) q))) (fun z9 => (cW cy ad eb z9.2.1 mb (mz + nI 1) tp (20 + (tp - 40)) bits F G u nb (ns + 1) T M (tg_id tp id) ft (tg_four fo ft tp q (if tp - 20 ≤ 1260 then id else 0) sa9 far (op b)) g dq ++ tl) ++ z9.2.2) := by
  refine WRXi (by decide) (lv0 := [(0, .ref (ad 0))]) rfl (Nat.le_of_ble_eq_true rfl) ?_
  intro p e s m args below meth c ls A Q S hnm hP hK hD hS hA hE hend hl
  have hx := S.1
  have hb := S.2.1
  have hown : s.vm.findClass RX11 = some m.cls := S.2.2.2.1
  have ht : ∀ w ∈ lw_g, w.before args s = true := fun w h => S.2.2.2.2 w (List.mem_cons_of_mem _ h)
  have hP : va_P D vwCl ((cW cy ad eb es mb mz tp os bits F G u nb ns T M id ft fo g dq ++ tl) ++ dy) s.heap := hP
  have hT : ((cW cy ad eb es mb mz tp os bits F G u nb ns T M id ft fo g dq ++ tl) ++ dy)[8]? = some (tE (ad 8) (ad 9) (ad 10) T) := rfl
  have hLb : ((cW cy ad eb es mb mz tp os bits F G u nb ns T M id ft fo g dq ++ tl) ++ dy)[9]? = some (aL (ad 9) mb eb nb) := rfl
  have hLs : ((cW cy ad eb es mb mz tp os bits F G u nb ns T M id ft fo g dq ++ tl) ++ dy)[10]? = some (aL (ad 10) mz es ns) := rfl
  have hB : TB1 cy ((cW cy ad eb es mb mz tp os bits F G u nb ns T M id ft fo g dq ++ tl) ++ dy) e0.1 eb nb ba pt ih il ip pn op := hDY.1.app
  have hS1 : TS1 cy ((cW cy ad eb es mb mz tp os bits F G u nb ns T M id ft fo g dq ++ tl) ++ dy) e0.1 es ns nb ba sa so fa fp st en := hDY.2.1.app
  have hST : STP ((cW cy ad eb es mb mz tp os bits F G u nb ns T M id ft fo g dq ++ tl) ++ dy) (ad 5) bits F G := STP_of (ks := 5) rfl hsi
  have hPL : PLP cy ((cW cy ad eb es mb mz tp os bits F G u nb ns T M id ft fo g dq ++ tl) ++ dy) (ad 6) g u := PLP_of (kp := 6) (kq := 7) rfl rfl hu4
  have hnb := hB.le
  have hns := hS1.le
  have hin := in0 hz0
  have hq3 : q = 1 ∨ q = 6 ∨ q = 17 := by rw [eq0]; split <;> omega
  have hsum : tg_sumAt q + 2 ≤ tp - 40 := by have h6 : q = 6 → tg_rd ft tp 6 = 6 := (by rw [eq0]; split <;> omega); unfold tg_sumAt; (repeat' split) <;> omega
  have hq : q < 256 := by omega
  have hport : port < 65536 := by rw [eport]; exact tg_pr_lt _ _ _
  have hfar : far < 2 ^ 32 := by rw [efar]; exact tg_dr_lt (by have := hsi.b; omega)
  have hfpt : fpt < 65536 := by rw [efpt]; split; omega; exact tg_pr_lt _ _ _
  have hev : ev ≤ 3 := by rw [eev]; exact tg_event_le _ _ _
  have hhi : hi < 2 ^ 64 := by rw [ehi]; exact tg_ei_lt _ _ _
  have hlo : lo < 2 ^ 64 := by rw [elo]; exact tg_ei_lt _ _ _
  have hu0 : 1 ≤ u := by omega
  have hptb : pt b = q := by have h9 := tg_first_is (q := (fun k => decide (pt k = q ∧ ih k = hi ∧ il k = lo ∧ ip k = port))) (n := nb) (by rw [hfb]; exact hb9); rw [hfb] at h9; exact (of_decide_eq_true h9).1
  refine lv_aload_n hx hb dX11_passFromInside_0 rfl (lv_at hl 0 rfl) ?_
  refine va_get (ci := 8) (C := RX11) (T := TX11) (N := 8) hx hb ht iFX11 hown hK hP 0 rfl rfl 0 (by decide) (ht _ kw1_123) (fun _ h9 => h9) rfl dX11_passFromInside_1 ?_
  refine lv_aload_n hx hb dX11_passFromInside_4 rfl (lv_at hl 0 rfl) ?_
  refine va_get (ci := 8) (C := RX11) (T := TX11) (N := 8) hx hb ht iFX11 hown hK hP 0 rfl rfl 2 (by decide) (ht _ kw1_125) (fun _ h9 => h9) rfl dX11_passFromInside_5 ?_
  refine lv_aload_n hx hb dX11_passFromInside_8 rfl (lv_at hl 0 rfl) ?_
  refine va_get (ci := 8) (C := RX11) (T := TX11) (N := 8) hx hb ht iFX11 hown hK hP 0 rfl rfl 3 (by decide) (ht _ kw1_126) (fun _ h9 => h9) rfl dX11_passFromInside_9 ?_
  refine ro_S S (c_X6_faultFromInside (PK_of (ws := (cW cy ad eb es mb mz tp os bits F G u nb ns T M id ft fo g dq ++ tl) ++ dy) (kb := 1) (ka := 2) (N := 1600) rfl rfl (by omega) (by omega)) hST hPL) kw2_7 yv_X6_faultFromInside ⟨Nat.le_of_ble_eq_true rfl, Nat.le_of_ble_eq_true rfl⟩ hK hP rfl hl.1 rfl (Nat.le_of_ble_eq_true rfl) dX11_passFromInside_12 ⟨(by show _ ≤ 3; omega), (by show _ ≤ 311; omega)⟩ ?_
  rw [hz0]
  refine lv_istore_n (lv' := [(1, .int (nI 0)), (0, .ref (ad 0))]) hx hb dX11_passFromInside_15 rfl hl (by decide) rfl (fun ls hl => ?_)
  refine lv_iload_n hx hb dX11_passFromInside_16 rfl (lv_at hl 0 rfl) ?_
  refine nv_if_eq (tgt := 22) hx hb dX11_passFromInside_17 (by decide) (by omega) (fun _ => ?_) (fun h => absurd h (by decide))
  refine lv_aload_n hx hb dX11_passFromInside_22 rfl (lv_at hl 1 rfl) ?_
  refine va_get (ci := 8) (C := RX11) (T := TX11) (N := 8) hx hb ht iFX11 hown hK hP 0 rfl rfl 0 (by decide) (ht _ kw1_123) (fun _ h9 => h9) rfl dX11_passFromInside_23 ?_
  refine lv_aload_n hx hb dX11_passFromInside_26 rfl (lv_at hl 1 rfl) ?_
  refine va_get (ci := 8) (C := RX11) (T := TX11) (N := 8) hx hb ht iFX11 hown hK hP 0 rfl rfl 2 (by decide) (ht _ kw1_125) (fun _ h9 => h9) rfl dX11_passFromInside_27 ?_
  refine lv_aload_n hx hb dX11_passFromInside_30 rfl (lv_at hl 1 rfl) ?_
  refine va_get (ci := 8) (C := RX11) (T := TX11) (N := 8) hx hb ht iFX11 hown hK hP 0 rfl rfl 0 (by decide) (ht _ kw1_123) (fun _ h9 => h9) rfl dX11_passFromInside_31 ?_
  refine nv_bipush (k := 24) hx hb dX11_passFromInside_34 (by decide) ?_
  refine ro_V S (c_X1_eight (PK_of (ws := (cW cy ad eb es mb mz tp os bits F G u nb ns T M id ft fo g dq ++ tl) ++ dy) (kb := 1) (ka := 2) (N := 1600) rfl rfl (by omega) (by omega)) (a := 24) (by omega)) kw2_88 yv_X1_eight ⟨Nat.le_of_ble_eq_true rfl, Nat.le_of_ble_eq_true rfl⟩ hK hP (va_recv hK hP (ci := 2) (q0 := 1) rfl rfl) rfl hl.1 rfl (Nat.le_of_ble_eq_true rfl) dX11_passFromInside_36 ⟨(by show _ ≤ 3; omega), (by show _ ≤ 311; omega)⟩ ?_
  have hq36 := tg_ei_lt ft tp 24
  refine lv_aload_n hx hb dX11_passFromInside_39 rfl (lv_at hl 1 rfl) ?_
  refine va_get (ci := 8) (C := RX11) (T := TX11) (N := 8) hx hb ht iFX11 hown hK hP 0 rfl rfl 0 (by decide) (ht _ kw1_123) (fun _ h9 => h9) rfl dX11_passFromInside_40 ?_
  refine nv_bipush (k := 32) hx hb dX11_passFromInside_43 (by decide) ?_
  refine ro_V S (c_X1_eight (PK_of (ws := (cW cy ad eb es mb mz tp os bits F G u nb ns T M id ft fo g dq ++ tl) ++ dy) (kb := 1) (ka := 2) (N := 1600) rfl rfl (by omega) (by omega)) (a := 32) (by omega)) kw2_88 yv_X1_eight ⟨Nat.le_of_ble_eq_true rfl, Nat.le_of_ble_eq_true rfl⟩ hK hP (va_recv hK hP (ci := 2) (q0 := 1) rfl rfl) rfl hl.1 rfl (Nat.le_of_ble_eq_true rfl) dX11_passFromInside_45 ⟨(by show _ ≤ 3; omega), (by show _ ≤ 311; omega)⟩ ?_
  have hq45 := tg_ei_lt ft tp 32
  refine ro_V S (c_X8_draw hST (hi := tg_ei (tg_rd ft tp) 24) (lo := tg_ei (tg_rd ft tp) 32) (tg_ei_lt _ _ _) (tg_ei_lt _ _ _)) kw1_212 yv_X8_draw ⟨Nat.le_of_ble_eq_true rfl, Nat.le_of_ble_eq_true rfl⟩ hK hP (va_recv hK hP (ci := 6) (q0 := 5) rfl rfl) rfl hl.1 rfl (Nat.le_of_ble_eq_true rfl) dX11_passFromInside_48 ⟨(by show _ ≤ 3; omega), (by show _ ≤ 311; omega)⟩ ?_
  rw [tg_draw_of hin.2.2.2, ← efar]
  refine nv_l2i hx hb dX11_passFromInside_51 ?_
  refine wr_S S (c_X2_fromInside (PK_of (ws := (cW cy ad eb es mb mz tp os bits F G u nb ns T M id ft fo g dq ++ tl) ++ dy) (kb := 1) (ka := 2) (N := 1600) rfl rfl (by omega) (by omega)) (far := far) hfar) kw2_89 yv_X2_fromInside ⟨Nat.le_of_ble_eq_true rfl, Nat.le_of_ble_eq_true rfl⟩ hK hP hD hS hA rfl hl.1 rfl (Nat.le_of_ble_eq_true rfl) dX11_passFromInside_52 ⟨(by show _ ≤ 3; omega), (by show _ ≤ 311; omega)⟩ (fun fl H locs hfl hP hD hS => ?_)
  rw [List.append_assoc, ← eq0, ← eport, ← efpt, ← eev] at hP hD
  have hP : va_P D vwCl ((cW cy ad eb es mb mz tp os bits F G u nb ns T M id ft fo g dq ++ tl) ++ (dy ++ [fE fl true q port far fpt ev])) H := hP
  have hD : va_D A ((cW cy ad eb es mb mz tp os bits F G u nb ns T M id ft fo g dq ++ tl) ++ (dy ++ [fE fl true q port far fpt ev])) := hD
  obtain ⟨kf, hkf⟩ : ∃ z, z = dy.length := ⟨_, rfl⟩
  have hfd : (dy ++ [fE fl true q port far fpt ev])[kf]? = some (fE fl true q port far fpt ev) := by rw [hkf]; exact app_e
  have hDYf : DY cy e0.1 (dy ++ [fE fl true q port far fpt ev]) eb es nb ns ba sa pt ih il ip pn op so fa fp st en := hDY.ext
  have hT : ((cW cy ad eb es mb mz tp os bits F G u nb ns T M id ft fo g dq ++ tl) ++ (dy ++ [fE fl true q port far fpt ev]))[8]? = some (tE (ad 8) (ad 9) (ad 10) T) := rfl
  have hLb : ((cW cy ad eb es mb mz tp os bits F G u nb ns T M id ft fo g dq ++ tl) ++ (dy ++ [fE fl true q port far fpt ev]))[9]? = some (aL (ad 9) mb eb nb) := rfl
  have hLs : ((cW cy ad eb es mb mz tp os bits F G u nb ns T M id ft fo g dq ++ tl) ++ (dy ++ [fE fl true q port far fpt ev]))[10]? = some (aL (ad 10) mz es ns) := rfl
  have hB : TB1 cy ((cW cy ad eb es mb mz tp os bits F G u nb ns T M id ft fo g dq ++ tl) ++ (dy ++ [fE fl true q port far fpt ev])) e0.1 eb nb ba pt ih il ip pn op := hDYf.1.app
  have hS1 : TS1 cy ((cW cy ad eb es mb mz tp os bits F G u nb ns T M id ft fo g dq ++ tl) ++ (dy ++ [fE fl true q port far fpt ev])) e0.1 es ns nb ba sa so fa fp st en := hDYf.2.1.app
  have hf0 : ((cW cy ad eb es mb mz tp os bits F G u nb ns T M id ft fo g dq ++ tl) ++ (dy ++ [fE fl true q port far fpt ev]))[(cW cy ad eb es mb mz tp os bits F G u nb ns T M id ft fo g dq ++ tl).length + kf]? = some (fE fl true q port far fpt ev) := app_r hfd
  have hST : STP ((cW cy ad eb es mb mz tp os bits F G u nb ns T M id ft fo g dq ++ tl) ++ (dy ++ [fE fl true q port far fpt ev])) (ad 5) bits F G := STP_of (ks := 5) rfl hsi
  have hPL : PLP cy ((cW cy ad eb es mb mz tp os bits F G u nb ns T M id ft fo g dq ++ tl) ++ (dy ++ [fE fl true q port far fpt ev])) (ad 6) g u := PLP_of (kp := 6) (kq := 7) rfl rfl hu4
  refine W.eq (g2 := F0 m 55 ls [.ref fl]) rfl ?_
  refine lv_astore_n (lv' := [(2, .ref fl), (1, .int (nI 0)), (0, .ref (ad 0))]) hx hb dX11_passFromInside_55 rfl hl (by decide) rfl (fun ls hl => ?_)
  refine lv_aload_n hx hb dX11_passFromInside_56 rfl (lv_at hl 2 rfl) ?_
  refine va_get (ci := 8) (C := RX11) (T := TX11) (N := 8) hx hb ht iFX11 hown hK hP 0 rfl rfl 4 (by decide) (ht _ kw1_127) (fun _ h9 => h9) rfl dX11_passFromInside_57 ?_
  refine lv_aload_n hx hb dX11_passFromInside_60 rfl (lv_at hl 0 rfl) ?_
  refine lv_aload_n hx hb dX11_passFromInside_61 rfl (lv_at hl 2 rfl) ?_
  refine va_get (ci := 8) (C := RX11) (T := TX11) (N := 8) hx hb ht iFX11 hown hK hP 0 rfl rfl 0 (by decide) (ht _ kw1_123) (fun _ h9 => h9) rfl dX11_passFromInside_62 ?_
  refine nv_bipush (k := 8) hx hb dX11_passFromInside_65 (by decide) ?_
  refine ro_V S (c_X1_eight (PK_of (ws := (cW cy ad eb es mb mz tp os bits F G u nb ns T M id ft fo g dq ++ tl) ++ (dy ++ [fE fl true q port far fpt ev])) (kb := 1) (ka := 2) (N := 1600) rfl rfl (by omega) (by omega)) (a := 8) (by omega)) kw2_88 yv_X1_eight ⟨Nat.le_of_ble_eq_true rfl, Nat.le_of_ble_eq_true rfl⟩ hK hP (va_recv hK hP (ci := 2) (q0 := 1) rfl rfl) rfl hl.1 rfl (Nat.le_of_ble_eq_true rfl) dX11_passFromInside_67 ⟨(by show _ ≤ 3; omega), (by show _ ≤ 311; omega)⟩ ?_
  have hq67 := tg_ei_lt ft tp 8
  refine lv_aload_n hx hb dX11_passFromInside_70 rfl (lv_at hl 2 rfl) ?_
  refine va_get (ci := 8) (C := RX11) (T := TX11) (N := 8) hx hb ht iFX11 hown hK hP 0 rfl rfl 0 (by decide) (ht _ kw1_123) (fun _ h9 => h9) rfl dX11_passFromInside_71 ?_
  refine nv_bipush (k := 16) hx hb dX11_passFromInside_74 (by decide) ?_
  refine ro_V S (c_X1_eight (PK_of (ws := (cW cy ad eb es mb mz tp os bits F G u nb ns T M id ft fo g dq ++ tl) ++ (dy ++ [fE fl true q port far fpt ev])) (kb := 1) (ka := 2) (N := 1600) rfl rfl (by omega) (by omega)) (a := 16) (by omega)) kw2_88 yv_X1_eight ⟨Nat.le_of_ble_eq_true rfl, Nat.le_of_ble_eq_true rfl⟩ hK hP (va_recv hK hP (ci := 2) (q0 := 1) rfl rfl) rfl hl.1 rfl (Nat.le_of_ble_eq_true rfl) dX11_passFromInside_76 ⟨(by show _ ≤ 3; omega), (by show _ ≤ 311; omega)⟩ ?_
  have hq76 := tg_ei_lt ft tp 16
  refine lv_aload_n hx hb dX11_passFromInside_79 rfl (lv_at hl 2 rfl) ?_
  refine va_get (ci := 8) (C := RX11) (T := TX11) (N := 8) hx hb ht iFX11 hown hK hP 0 rfl rfl 3 (by decide) (ht _ kw1_126) (fun _ h9 => h9) rfl dX11_passFromInside_80 ?_
  refine ro_V S (c_X5_size hPL) kw2_148 yv_X5_size ⟨Nat.le_of_ble_eq_true rfl, Nat.le_of_ble_eq_true rfl⟩ hK hP (va_recv hK hP (ci := 4) (q0 := 6) rfl rfl) rfl hl.1 rfl (Nat.le_of_ble_eq_true rfl) dX11_passFromInside_83 ⟨(by show _ ≤ 3; omega), (by show _ ≤ 311; omega)⟩ ?_
  rw [← ehi, ← elo]
  refine wx_V S (c_X10_admitFromInside2 hDYf hb_pt hb_ih hb_il hb_ip hb_pn hb_op hb_fa hb_fp hb_st hb_en hfd hq hport hfar hfpt hev hb_pn4 hhi hlo hu0 hu4 hb9 hfb hfj hmay) kw2_149 yv_X10_admitFromInside ⟨Nat.le_of_ble_eq_true rfl, Nat.le_of_ble_eq_true rfl⟩ hK hP hD hS hA hE (va_recv hK hP (ci := 7) (q0 := 8) rfl rfl) rfl hl.1 rfl (Nat.le_of_ble_eq_true rfl) dX11_passFromInside_86 ⟨(by show _ ≤ 3; omega), (by show _ ≤ 311; omega)⟩ (fun z1 H locs hz1 hP hD hS => ?_)
  have hP : va_P D vwCl ((cW cy ad eb z1.2.1 mb (mz + nI 1) tp os bits F G u nb (ns + 1) T M id ft fo g dq ++ tl) ++ z1.2.2) H := hP
  have hD : va_D A ((cW cy ad eb z1.2.1 mb (mz + nI 1) tp os bits F G u nb (ns + 1) T M id ft fo g dq ++ tl) ++ z1.2.2) := hD
  have hT : ((cW cy ad eb z1.2.1 mb (mz + nI 1) tp os bits F G u nb (ns + 1) T M id ft fo g dq ++ tl) ++ z1.2.2)[8]? = some (tE (ad 8) (ad 9) (ad 10) T) := rfl
  have hLb : ((cW cy ad eb z1.2.1 mb (mz + nI 1) tp os bits F G u nb (ns + 1) T M id ft fo g dq ++ tl) ++ z1.2.2)[9]? = some (aL (ad 9) mb eb nb) := rfl
  have hLs : ((cW cy ad eb z1.2.1 mb (mz + nI 1) tp os bits F G u nb (ns + 1) T M id ft fo g dq ++ tl) ++ z1.2.2)[10]? = some (aL (ad 10) (mz + nI 1) z1.2.1 (ns + 1)) := rfl
  have hB : TB1 cy ((cW cy ad eb z1.2.1 mb (mz + nI 1) tp os bits F G u nb (ns + 1) T M id ft fo g dq ++ tl) ++ z1.2.2) e0.1 eb nb ba pt ih il ip pn op := hz1.1.1.app
  have hS1 : TS1 cy ((cW cy ad eb z1.2.1 mb (mz + nI 1) tp os bits F G u nb (ns + 1) T M id ft fo g dq ++ tl) ++ z1.2.2) e0.1 z1.2.1 (ns + 1) nb ba (va_up sa ns z1.1) (va_up so ns b) (va_up fa ns far) (va_up fp ns fpt) (va_up st ns (tg_first_st q true)) (va_up en ns (T + tg_life (tg_first_st q true) q)) := hz1.1.2.1.app
  have hf0 : ((cW cy ad eb z1.2.1 mb (mz + nI 1) tp os bits F G u nb (ns + 1) T M id ft fo g dq ++ tl) ++ z1.2.2)[(cW cy ad eb z1.2.1 mb (mz + nI 1) tp os bits F G u nb (ns + 1) T M id ft fo g dq ++ tl).length + kf]? = some (fE fl true q port far fpt ev) := app_r hz1.2
  have hST : STP ((cW cy ad eb z1.2.1 mb (mz + nI 1) tp os bits F G u nb (ns + 1) T M id ft fo g dq ++ tl) ++ z1.2.2) (ad 5) bits F G := STP_of (ks := 5) rfl hsi
  have hPL : PLP cy ((cW cy ad eb z1.2.1 mb (mz + nI 1) tp os bits F G u nb (ns + 1) T M id ft fo g dq ++ tl) ++ z1.2.2) (ad 6) g u := PLP_of (kp := 6) (kq := 7) rfl rfl hu4
  obtain ⟨kw9, hkw⟩ := hz1.1.1.at (i := b) (by omega)
  refine W.eq (g2 := F0 m 89 ls [.ref (ba b)]) rfl ?_
  refine lv_astore_n (lv' := [(3, .ref (ba b)), (2, .ref fl), (1, .int (nI 0)), (0, .ref (ad 0))]) hx hb dX11_passFromInside_89 rfl hl (by decide) rfl (fun ls hl => ?_)
  refine lv_aload_n hx hb dX11_passFromInside_90 rfl (lv_at hl 0 rfl) ?_
  refine lv_ifnonnull (tgt := 97) hx hb dX11_passFromInside_91 (by decide) ?_
  refine lv_aload_n hx hb dX11_passFromInside_97 rfl (lv_at hl 3 rfl) ?_
  refine va_get (ci := 8) (C := RX11) (T := TX11) (N := 8) hx hb ht iFX11 hown hK hP 0 rfl rfl 0 (by decide) (ht _ kw1_123) (fun _ h9 => h9) rfl dX11_passFromInside_98 ?_
  refine ro_V S (c_X1_length (PK_of (ws := (cW cy ad eb z1.2.1 mb (mz + nI 1) tp os bits F G u nb (ns + 1) T M id ft fo g dq ++ tl) ++ z1.2.2) (kb := 1) (ka := 2) (N := 1600) rfl rfl (by omega) (by omega))) kw1_220 yv_X1_length ⟨Nat.le_of_ble_eq_true rfl, Nat.le_of_ble_eq_true rfl⟩ hK hP (va_recv hK hP (ci := 2) (q0 := 1) rfl rfl) rfl hl.1 rfl (Nat.le_of_ble_eq_true rfl) dX11_passFromInside_101 ⟨(by show _ ≤ 3; omega), (by show _ ≤ 311; omega)⟩ ?_
  refine nv_bipush (k := 40) hx hb dX11_passFromInside_104 (by decide) ?_
  refine nv_isub hx hb (by omega) dX11_passFromInside_106 ?_
  refine nv_bipush (k := 20) hx hb dX11_passFromInside_107 (by decide) ?_
  refine nv_iadd hx hb dX11_passFromInside_109 ?_
  refine nv_sipush (k := 1260) hx hb dX11_passFromInside_110 (by decide) ?_
  refine nv_icmp_gt (tgt := 120) hx hb dX11_passFromInside_113 (by decide) (by omega) (by omega) (fun h113 => ?_) (fun h113 => ?_)
  · skip
    refine nv_iconst (k := 0) hx hb dX11_passFromInside_120 rfl ?_
    refine lv_istore (lv' := [(4, .int (nI 0)), (3, .ref (ba b)), (2, .ref fl), (1, .int (nI 0)), (0, .ref (ad 0))]) hx hb dX11_passFromInside_121 hl (by decide) rfl (fun ls hl => ?_)
    refine lv_aload_n hx hb dX11_passFromInside_123 rfl (lv_at hl 4 rfl) ?_
    refine va_get (ci := 8) (C := RX11) (T := TX11) (N := 8) hx hb ht iFX11 hown hK hP 0 rfl rfl 3 (by decide) (ht _ kw1_126) (fun _ h9 => h9) rfl dX11_passFromInside_124 ?_
    refine lv_aload_n hx hb dX11_passFromInside_127 rfl (lv_at hl 1 rfl) ?_
    refine va_get (ci := 1) (C := RX0) (T := TX0) (N := 6) hx hb ht iFX0 hown hK hP ((cW cy ad eb z1.2.1 mb (mz + nI 1) tp os bits F G u nb (ns + 1) T M id ft fo g dq ++ tl).length + kw9) (app_r hkw) rfl 4 (by decide) (ht _ kw3_9) (fun _ h9 => h9) rfl dX11_passFromInside_128 ?_
    refine ro_V S (c_X5_at hPL (k := pn b) (by omega)) kw3_112 yv_X5_at ⟨Nat.le_of_ble_eq_true rfl, Nat.le_of_ble_eq_true rfl⟩ hK hP (va_recv hK hP (ci := 4) (q0 := 6) rfl rfl) rfl hl.1 rfl (Nat.le_of_ble_eq_true rfl) dX11_passFromInside_131 ⟨(by show _ ≤ 3; omega), (by show _ ≤ 311; omega)⟩ ?_
    rw [hga]
    refine lv_istore (lv' := [(5, .int (nI sa9)), (4, .int (nI 0)), (3, .ref (ba b)), (2, .ref fl), (1, .int (nI 0)), (0, .ref (ad 0))]) hx hb dX11_passFromInside_134 hl (by decide) rfl (fun ls hl => ?_)
    refine lv_aload_n hx hb dX11_passFromInside_136 rfl (lv_at hl 5 rfl) ?_
    refine va_get (ci := 8) (C := RX11) (T := TX11) (N := 8) hx hb ht iFX11 hown hK hP 0 rfl rfl 0 (by decide) (ht _ kw1_123) (fun _ h9 => h9) rfl dX11_passFromInside_137 ?_
    refine lv_aload_n hx hb dX11_passFromInside_140 rfl (lv_at hl 5 rfl) ?_
    refine va_get (ci := 8) (C := RX11) (T := TX11) (N := 8) hx hb ht iFX11 hown hK hP 0 rfl rfl 1 (by decide) (ht _ kw1_124) (fun _ h9 => h9) rfl dX11_passFromInside_141 ?_
    refine lv_aload_n hx hb dX11_passFromInside_144 rfl (lv_at hl 2 rfl) ?_
    refine lv_iload hx hb dX11_passFromInside_145 (lv_at hl 0 rfl) ?_
    refine lv_aload_n hx hb dX11_passFromInside_147 rfl (lv_at hl 3 rfl) ?_
    refine va_get (ci := 3) (C := RX2) (T := TX2) (N := 6) hx hb ht iFX2 hown hK hP ((cW cy ad eb z1.2.1 mb (mz + nI 1) tp os bits F G u nb (ns + 1) T M id ft fo g dq ++ tl).length + kf) (app_r hz1.2) rfl 3 (by decide) (ht _ kw2_129) (fun _ h9 => h9) rfl dX11_passFromInside_148 ?_
    refine lv_iload hx hb dX11_passFromInside_151 (lv_at hl 1 rfl) ?_
    refine nv_if_eq (tgt := 163) hx hb dX11_passFromInside_153 (by decide) (by omega) (fun _ => ?_) (fun h => absurd h (by decide))
    refine nv_iconst (k := 0) hx hb dX11_passFromInside_163 rfl ?_
    refine wr_S S (c_X3_toFour (ws := (cW cy ad eb z1.2.1 mb (mz + nI 1) tp os bits F G u nb (ns + 1) T M id ft fo g dq ++ tl) ++ z1.2.2) (kb := 3) (ka := 4) rfl rfl (by omega) (by omega) (ki := 1) (kai := 2) rfl rfl (by omega) (by omega) (by decide) (by decide) (by decide) (by decide) (app_r hkw) (by rw [hptb]; exact hq3) (hb_ih b) (hb_il b) hip9 (hb_op b) (cw_ne (by decide)) (cw_ne (by decide)) (fa := sa9) (ta := far) (sp := 0) hsa9 hfar (by omega) (by omega) (by omega) (by rw [hptb]; exact hsum) (by omega) hin.1.2.2.2.2) kw3_116 yv_X3_toFour ⟨Nat.le_of_ble_eq_true rfl, Nat.le_of_ble_eq_true rfl⟩ hK hP hD hS hA rfl hl.1 rfl (Nat.le_of_ble_eq_true rfl) dX11_passFromInside_164 ⟨(by show _ ≤ 3; omega), (by show _ ≤ 311; omega)⟩ (fun g164 H locs hg164 hP hD hS => ?_)
    have hP : va_P D vwCl ((cW cy ad eb z1.2.1 mb (mz + nI 1) tp (20 + (tp - 40)) bits F G u nb (ns + 1) T M id ft g164 g dq ++ tl) ++ z1.2.2) H := hP
    have hD : va_D A ((cW cy ad eb z1.2.1 mb (mz + nI 1) tp (20 + (tp - 40)) bits F G u nb (ns + 1) T M id ft g164 g dq ++ tl) ++ z1.2.2) := hD
    refine W.eq (g2 := F0 m 167 ls []) rfl ?_
    refine lv_iload hx hb dX11_passFromInside_167 (lv_at hl 1 rfl) ?_
    refine nv_if_eq (tgt := 195) hx hb dX11_passFromInside_169 (by decide) (by omega) (fun _ => ?_) (fun h => absurd h (by decide))
    refine nv_iconst (k := 0) hx hb dX11_passFromInside_195 rfl ?_
    have e1 : (if tp - 20 ≤ 1260 then id else 0) = 0 := if_neg (by omega)
    have e2 : tg_id tp id = id := by unfold tg_id; rw [if_neg (by omega)]
    rw [hg164, hptb] at hP hD
    refine W.widen (k := 3) (n := 311) (by omega) (by omega) ?_
    exact hend z1 rfl hz1.1 (by rw [e1, e2]; exact hP) (by rw [e1, e2]; exact hD) hS dX11_passFromInside_196
  refine nv_iconst (k := 1) hx hb dX11_passFromInside_116 rfl ?_
  refine lv_goto (tgt := 121) hx hb dX11_passFromInside_117 (by decide) ?_
  refine lv_istore (lv' := [(4, .int (nI 1)), (3, .ref (ba b)), (2, .ref fl), (1, .int (nI 0)), (0, .ref (ad 0))]) hx hb dX11_passFromInside_121 hl (by decide) rfl (fun ls hl => ?_)
  refine lv_aload_n hx hb dX11_passFromInside_123 rfl (lv_at hl 4 rfl) ?_
  refine va_get (ci := 8) (C := RX11) (T := TX11) (N := 8) hx hb ht iFX11 hown hK hP 0 rfl rfl 3 (by decide) (ht _ kw1_126) (fun _ h9 => h9) rfl dX11_passFromInside_124 ?_
  refine lv_aload_n hx hb dX11_passFromInside_127 rfl (lv_at hl 1 rfl) ?_
  refine va_get (ci := 1) (C := RX0) (T := TX0) (N := 6) hx hb ht iFX0 hown hK hP ((cW cy ad eb z1.2.1 mb (mz + nI 1) tp os bits F G u nb (ns + 1) T M id ft fo g dq ++ tl).length + kw9) (app_r hkw) rfl 4 (by decide) (ht _ kw3_9) (fun _ h9 => h9) rfl dX11_passFromInside_128 ?_
  refine ro_V S (c_X5_at hPL (k := pn b) (by omega)) kw3_112 yv_X5_at ⟨Nat.le_of_ble_eq_true rfl, Nat.le_of_ble_eq_true rfl⟩ hK hP (va_recv hK hP (ci := 4) (q0 := 6) rfl rfl) rfl hl.1 rfl (Nat.le_of_ble_eq_true rfl) dX11_passFromInside_131 ⟨(by show _ ≤ 3; omega), (by show _ ≤ 311; omega)⟩ ?_
  rw [hga]
  refine lv_istore (lv' := [(5, .int (nI sa9)), (4, .int (nI 1)), (3, .ref (ba b)), (2, .ref fl), (1, .int (nI 0)), (0, .ref (ad 0))]) hx hb dX11_passFromInside_134 hl (by decide) rfl (fun ls hl => ?_)
  refine lv_aload_n hx hb dX11_passFromInside_136 rfl (lv_at hl 5 rfl) ?_
  refine va_get (ci := 8) (C := RX11) (T := TX11) (N := 8) hx hb ht iFX11 hown hK hP 0 rfl rfl 0 (by decide) (ht _ kw1_123) (fun _ h9 => h9) rfl dX11_passFromInside_137 ?_
  refine lv_aload_n hx hb dX11_passFromInside_140 rfl (lv_at hl 5 rfl) ?_
  refine va_get (ci := 8) (C := RX11) (T := TX11) (N := 8) hx hb ht iFX11 hown hK hP 0 rfl rfl 1 (by decide) (ht _ kw1_124) (fun _ h9 => h9) rfl dX11_passFromInside_141 ?_
  refine lv_aload_n hx hb dX11_passFromInside_144 rfl (lv_at hl 2 rfl) ?_
  refine lv_iload hx hb dX11_passFromInside_145 (lv_at hl 0 rfl) ?_
  refine lv_aload_n hx hb dX11_passFromInside_147 rfl (lv_at hl 3 rfl) ?_
  refine va_get (ci := 3) (C := RX2) (T := TX2) (N := 6) hx hb ht iFX2 hown hK hP ((cW cy ad eb z1.2.1 mb (mz + nI 1) tp os bits F G u nb (ns + 1) T M id ft fo g dq ++ tl).length + kf) (app_r hz1.2) rfl 3 (by decide) (ht _ kw2_129) (fun _ h9 => h9) rfl dX11_passFromInside_148 ?_
  refine lv_iload hx hb dX11_passFromInside_151 (lv_at hl 1 rfl) ?_
  refine nv_if_eq (tgt := 163) hx hb dX11_passFromInside_153 (by decide) (by omega) (fun h => absurd h (by decide)) (fun _ => ?_)
  refine lv_aload_n hx hb dX11_passFromInside_156 rfl (lv_at hl 5 rfl) ?_
  refine va_get (ci := 8) (C := RX11) (T := TX11) (N := 8) hx hb ht iFX11 hown hK hP 0 rfl rfl 7 (by decide) (ht _ kw1_130) (fun _ h9 => h9) rfl dX11_passFromInside_157 ?_
  refine lv_goto (tgt := 164) hx hb dX11_passFromInside_160 (by decide) ?_
  refine wr_S S (c_X3_toFour (ws := (cW cy ad eb z1.2.1 mb (mz + nI 1) tp os bits F G u nb (ns + 1) T M id ft fo g dq ++ tl) ++ z1.2.2) (kb := 3) (ka := 4) rfl rfl (by omega) (by omega) (ki := 1) (kai := 2) rfl rfl (by omega) (by omega) (by decide) (by decide) (by decide) (by decide) (app_r hkw) (by rw [hptb]; exact hq3) (hb_ih b) (hb_il b) hip9 (hb_op b) (cw_ne (by decide)) (cw_ne (by decide)) (fa := sa9) (ta := far) (sp := id) hsa9 hfar (by omega) (by omega) (by omega) (by rw [hptb]; exact hsum) (by omega) hin.1.2.2.2.2) kw3_116 yv_X3_toFour ⟨Nat.le_of_ble_eq_true rfl, Nat.le_of_ble_eq_true rfl⟩ hK hP hD hS hA rfl hl.1 rfl (Nat.le_of_ble_eq_true rfl) dX11_passFromInside_164 ⟨(by show _ ≤ 3; omega), (by show _ ≤ 311; omega)⟩ (fun g164 H locs hg164 hP hD hS => ?_)
  have hP : va_P D vwCl ((cW cy ad eb z1.2.1 mb (mz + nI 1) tp (20 + (tp - 40)) bits F G u nb (ns + 1) T M id ft g164 g dq ++ tl) ++ z1.2.2) H := hP
  have hD : va_D A ((cW cy ad eb z1.2.1 mb (mz + nI 1) tp (20 + (tp - 40)) bits F G u nb (ns + 1) T M id ft g164 g dq ++ tl) ++ z1.2.2) := hD
  refine W.eq (g2 := F0 m 167 ls []) rfl ?_
  refine lv_iload hx hb dX11_passFromInside_167 (lv_at hl 1 rfl) ?_
  refine nv_if_eq (tgt := 195) hx hb dX11_passFromInside_169 (by decide) (by omega) (fun h => absurd h (by decide)) (fun _ => ?_)
  refine lv_aload_n hx hb dX11_passFromInside_172 rfl (lv_at hl 5 rfl) ?_
  refine lv_aload_n hx hb dX11_passFromInside_173 rfl (lv_at hl 5 rfl) ?_
  refine va_get (ci := 8) (C := RX11) (T := TX11) (N := 8) hx hb ht iFX11 hown hK hP 0 rfl rfl 7 (by decide) (ht _ kw1_130) (fun _ h9 => h9) rfl dX11_passFromInside_174 ?_
  refine nv_ldc (k := 65535) hx hb hown (ht _ kw3_145) (by decide) dX11_passFromInside_177 ?_
  refine nv_icmp_ne (tgt := 186) hx hb dX11_passFromInside_179 (by decide) (by omega) (by omega) (fun h179 => ?_) (fun h179 => ?_)
  · skip
    refine lv_aload_n hx hb dX11_passFromInside_186 rfl (lv_at hl 5 rfl) ?_
    refine va_get (ci := 8) (C := RX11) (T := TX11) (N := 8) hx hb ht iFX11 hown hK hP 0 rfl rfl 7 (by decide) (ht _ kw1_130) (fun _ h9 => h9) rfl dX11_passFromInside_187 ?_
    refine nv_iconst (k := 1) hx hb dX11_passFromInside_190 rfl ?_
    refine nv_iadd hx hb dX11_passFromInside_191 ?_
    refine va_put (ci := 8) (C := RX11) (T := TX11) (N := 8) (ty := tyX11 7) hx hb ht iFX11 tyX11 tyX11_ok nmX11 hown hK hP hD hS 0 rfl rfl 7 (by decide) (ht _ kw1_130) (fun _ h9 => h9) rfl (by decide +kernel) (by first | rfl | decide) (by first | rfl | decide) (Nat.le_of_ble_eq_true rfl) dX11_passFromInside_192 (fun H locs hP hD hS => ?_)
    have hP : va_P D vwCl ((cW cy ad eb z1.2.1 mb (mz + nI 1) tp (20 + (tp - 40)) bits F G u nb (ns + 1) T M (id + 1) ft g164 g dq ++ tl) ++ z1.2.2) H := hP
    have hD : va_D A ((cW cy ad eb z1.2.1 mb (mz + nI 1) tp (20 + (tp - 40)) bits F G u nb (ns + 1) T M (id + 1) ft g164 g dq ++ tl) ++ z1.2.2) := hD
    refine nv_iconst (k := 0) hx hb dX11_passFromInside_195 rfl ?_
    have e1 : (if tp - 20 ≤ 1260 then id else 0) = id := if_pos (by omega)
    have e2 : tg_id tp id = id + 1 := by unfold tg_id; rw [if_pos (by omega), if_neg (by omega)]
    rw [hg164, hptb] at hP hD
    refine W.widen (k := 3) (n := 311) (by omega) (by omega) ?_
    exact hend z1 rfl hz1.1 (by rw [e1, e2]; exact hP) (by rw [e1, e2]; exact hD) hS dX11_passFromInside_196
  refine nv_iconst (k := 1) hx hb dX11_passFromInside_182 rfl ?_
  refine lv_goto (tgt := 192) hx hb dX11_passFromInside_183 (by decide) ?_
  refine va_put (ci := 8) (C := RX11) (T := TX11) (N := 8) (ty := tyX11 7) hx hb ht iFX11 tyX11 tyX11_ok nmX11 hown hK hP hD hS 0 rfl rfl 7 (by decide) (ht _ kw1_130) (fun _ h9 => h9) rfl (by decide +kernel) (by first | rfl | decide) (by first | rfl | decide) (Nat.le_of_ble_eq_true rfl) dX11_passFromInside_192 (fun H locs hP hD hS => ?_)
  have hP : va_P D vwCl ((cW cy ad eb z1.2.1 mb (mz + nI 1) tp (20 + (tp - 40)) bits F G u nb (ns + 1) T M 1 ft g164 g dq ++ tl) ++ z1.2.2) H := hP
  have hD : va_D A ((cW cy ad eb z1.2.1 mb (mz + nI 1) tp (20 + (tp - 40)) bits F G u nb (ns + 1) T M 1 ft g164 g dq ++ tl) ++ z1.2.2) := hD
  refine nv_iconst (k := 0) hx hb dX11_passFromInside_195 rfl ?_
  have e1 : (if tp - 20 ≤ 1260 then id else 0) = id := if_pos (by omega)
  have e2 : tg_id tp id = 1 := by unfold tg_id; rw [if_pos (by omega), if_pos (by omega)]
  rw [hg164, hptb] at hP hD
  refine W.widen (k := 3) (n := 311) (by omega) (by omega) ?_
  exact hend z1 rfl hz1.1 (by rw [e1, e2]; exact hP) (by rw [e1, e2]; exact hD) hS dX11_passFromInside_196
set_option maxHeartbeats 4000000 in
set_option maxRecDepth 100000 in
theorem c_X11_passFromInside3 {l : Launch} {D : va_G} {cy : Nat → ClassId} {e0 : Nat × Nat} {ad : Nat → Nat} {tl dy : va_W} {eb es tp os bits F G u nb ns T M id : Nat} {mb mz : Int32} {ft fo : Nat → UInt8} {g : Nat → Int32} {dq ba sa pt ih il ip pn op so fa fp st en : Nat → Nat} (htp : tp ≤ 1600) (hos : os ≤ 1620) (hsi : SI bits F G) (hu4 : u ≤ 4) (hDY : DY cy e0.1 dy eb es nb ns ba sa pt ih il ip pn op so fa fp st en) (hb_pt : ∀ i, pt i < 2 ^ 31) (hb_ih : ∀ i, ih i < 2 ^ 64) (hb_il : ∀ i, il i < 2 ^ 64) (hb_ip : ∀ i, ip i < 2 ^ 31) (hb_pn : ∀ i, pn i < 2 ^ 31) (hb_op : ∀ i, op i < 2 ^ 31) (hb_fa : ∀ i, fa i < 2 ^ 32) (hb_fp : ∀ i, fp i < 2 ^ 31) (hb_st : ∀ i, st i ≤ 7) (hb_en : ∀ i, en i < 2 ^ 62) {q port far fpt ev hi lo : Nat} (eq0 : q = if tg_rd ft tp 6 = 58 then 1 else tg_rd ft tp 6) (eport : port = tg_pr (tg_rd ft tp) (40 + tg_spa q)) (efar : far = tg_dr bits (tg_ei (tg_rd ft tp) 24) (tg_ei (tg_rd ft tp) 32)) (efpt : fpt = if q = 1 then 0 else tg_pr (tg_rd ft tp) (40 + tg_dpa q)) (eev : ev = tg_event (tg_rd ft tp) 40 q) (ehi : hi = tg_ei (tg_rd ft tp) 8) (elo : lo = tg_ei (tg_rd ft tp) 16) (hz0 : tg_in (tg_rd ft tp) tp bits F G u = 0) (hb_pn4 : ∀ i, pn i < 4) (hfb : ¬ tg_first (fun k => decide (pt k = q ∧ ih k = hi ∧ il k = lo ∧ ip k = port)) nb < nb) (hmay : (q ≠ 6 ∨ ev = 2) ∧ ns < 128) (hnb0 : nb < 64) {sa9 : Nat} (hsa9 : sa9 < 2 ^ 32) (hid : id < 65536) (hpu : tg_best ih il pn nb u hi lo < u) (hga : g (tg_best ih il pn nb u hi lo) = nI sa9) (hop9 : tg_port pt pn op nb q (tg_best ih il pn nb u hi lo) port < 2 ^ 31) : WRX (S := (Nat × Nat × Nat × Nat × va_W)) l yX11_passFromInside cX11_passFromInside 6 (some .int) 9 5 617 218 [.ref (ad 0)] D cy e0 ((cW cy ad eb es mb mz tp os bits F G u nb ns T M id ft fo g dq ++ tl) ++ dy) (fun u_ => some (.int (nI 0))) (fun z9 => DY cy e0.1 z9.2.2.2.2 z9.2.1 z9.2.2.2.1 (nb + 1) (ns + 1) (va_up ba nb z9.1) (va_up sa ns z9.2.2.1) (va_up pt nb q) (va_up ih nb hi) (va_up il nb lo) (va_up ip nb port) (va_up pn nb (tg_best ih il pn nb u hi lo)) (va_up op nb (tg_port pt pn op nb q (tg_best ih il pn nb u hi lo) port)) (va_up so ns nb) (va_up fa ns far) (va_up fp ns fpt) (va_up st ns (tg_first_st q true)) (va_up en ns (T + tg_life (tg_first_st q true) q))) (fun z9 => (cW cy ad z9.2.1 z9.2.2.2.1 (mb + nI 1) (mz + nI 1) tp (20 + (tp - 40)) bits F G u (nb + 1) (ns + 1) T M (tg_id tp id) ft (tg_four fo ft tp q (if tp - 20 ≤ 1260 then id else 0) sa9 far (tg_port pt pn op nb q (tg_best ih il pn nb u hi lo) port)) g dq ++ tl) ++ z9.2.2.2.2) := by
  refine WRXi (by decide) (lv0 := [(0, .ref (ad 0))]) rfl (Nat.le_of_ble_eq_true rfl) ?_
  intro p e s m args below meth c ls A Q S hnm hP hK hD hS hA hE hend hl
  have hx := S.1
  have hb := S.2.1
  have hown : s.vm.findClass RX11 = some m.cls := S.2.2.2.1
  have ht : ∀ w ∈ lw_g, w.before args s = true := fun w h => S.2.2.2.2 w (List.mem_cons_of_mem _ h)
  have hP : va_P D vwCl ((cW cy ad eb es mb mz tp os bits F G u nb ns T M id ft fo g dq ++ tl) ++ dy) s.heap := hP
  have hT : ((cW cy ad eb es mb mz tp os bits F G u nb ns T M id ft fo g dq ++ tl) ++ dy)[8]? = some (tE (ad 8) (ad 9) (ad 10) T) := rfl
  have hLb : ((cW cy ad eb es mb mz tp os bits F G u nb ns T M id ft fo g dq ++ tl) ++ dy)[9]? = some (aL (ad 9) mb eb nb) := rfl
  have hLs : ((cW cy ad eb es mb mz tp os bits F G u nb ns T M id ft fo g dq ++ tl) ++ dy)[10]? = some (aL (ad 10) mz es ns) := rfl
  have hB : TB1 cy ((cW cy ad eb es mb mz tp os bits F G u nb ns T M id ft fo g dq ++ tl) ++ dy) e0.1 eb nb ba pt ih il ip pn op := hDY.1.app
  have hS1 : TS1 cy ((cW cy ad eb es mb mz tp os bits F G u nb ns T M id ft fo g dq ++ tl) ++ dy) e0.1 es ns nb ba sa so fa fp st en := hDY.2.1.app
  have hST : STP ((cW cy ad eb es mb mz tp os bits F G u nb ns T M id ft fo g dq ++ tl) ++ dy) (ad 5) bits F G := STP_of (ks := 5) rfl hsi
  have hPL : PLP cy ((cW cy ad eb es mb mz tp os bits F G u nb ns T M id ft fo g dq ++ tl) ++ dy) (ad 6) g u := PLP_of (kp := 6) (kq := 7) rfl rfl hu4
  have hnb := hB.le
  have hns := hS1.le
  have hin := in0 hz0
  have hq3 : q = 1 ∨ q = 6 ∨ q = 17 := by rw [eq0]; split <;> omega
  have hsum : tg_sumAt q + 2 ≤ tp - 40 := by have h6 : q = 6 → tg_rd ft tp 6 = 6 := (by rw [eq0]; split <;> omega); unfold tg_sumAt; (repeat' split) <;> omega
  have hq : q < 256 := by omega
  have hport : port < 65536 := by rw [eport]; exact tg_pr_lt _ _ _
  have hfar : far < 2 ^ 32 := by rw [efar]; exact tg_dr_lt (by have := hsi.b; omega)
  have hfpt : fpt < 65536 := by rw [efpt]; split; omega; exact tg_pr_lt _ _ _
  have hev : ev ≤ 3 := by rw [eev]; exact tg_event_le _ _ _
  have hhi : hi < 2 ^ 64 := by rw [ehi]; exact tg_ei_lt _ _ _
  have hlo : lo < 2 ^ 64 := by rw [elo]; exact tg_ei_lt _ _ _
  have hu0 : 1 ≤ u := by omega
  refine lv_aload_n hx hb dX11_passFromInside_0 rfl (lv_at hl 0 rfl) ?_
  refine va_get (ci := 8) (C := RX11) (T := TX11) (N := 8) hx hb ht iFX11 hown hK hP 0 rfl rfl 0 (by decide) (ht _ kw1_123) (fun _ h9 => h9) rfl dX11_passFromInside_1 ?_
  refine lv_aload_n hx hb dX11_passFromInside_4 rfl (lv_at hl 0 rfl) ?_
  refine va_get (ci := 8) (C := RX11) (T := TX11) (N := 8) hx hb ht iFX11 hown hK hP 0 rfl rfl 2 (by decide) (ht _ kw1_125) (fun _ h9 => h9) rfl dX11_passFromInside_5 ?_
  refine lv_aload_n hx hb dX11_passFromInside_8 rfl (lv_at hl 0 rfl) ?_
  refine va_get (ci := 8) (C := RX11) (T := TX11) (N := 8) hx hb ht iFX11 hown hK hP 0 rfl rfl 3 (by decide) (ht _ kw1_126) (fun _ h9 => h9) rfl dX11_passFromInside_9 ?_
  refine ro_S S (c_X6_faultFromInside (PK_of (ws := (cW cy ad eb es mb mz tp os bits F G u nb ns T M id ft fo g dq ++ tl) ++ dy) (kb := 1) (ka := 2) (N := 1600) rfl rfl (by omega) (by omega)) hST hPL) kw2_7 yv_X6_faultFromInside ⟨Nat.le_of_ble_eq_true rfl, Nat.le_of_ble_eq_true rfl⟩ hK hP rfl hl.1 rfl (Nat.le_of_ble_eq_true rfl) dX11_passFromInside_12 ⟨(by show _ ≤ 5; omega), (by show _ ≤ 617; omega)⟩ ?_
  rw [hz0]
  refine lv_istore_n (lv' := [(1, .int (nI 0)), (0, .ref (ad 0))]) hx hb dX11_passFromInside_15 rfl hl (by decide) rfl (fun ls hl => ?_)
  refine lv_iload_n hx hb dX11_passFromInside_16 rfl (lv_at hl 0 rfl) ?_
  refine nv_if_eq (tgt := 22) hx hb dX11_passFromInside_17 (by decide) (by omega) (fun _ => ?_) (fun h => absurd h (by decide))
  refine lv_aload_n hx hb dX11_passFromInside_22 rfl (lv_at hl 1 rfl) ?_
  refine va_get (ci := 8) (C := RX11) (T := TX11) (N := 8) hx hb ht iFX11 hown hK hP 0 rfl rfl 0 (by decide) (ht _ kw1_123) (fun _ h9 => h9) rfl dX11_passFromInside_23 ?_
  refine lv_aload_n hx hb dX11_passFromInside_26 rfl (lv_at hl 1 rfl) ?_
  refine va_get (ci := 8) (C := RX11) (T := TX11) (N := 8) hx hb ht iFX11 hown hK hP 0 rfl rfl 2 (by decide) (ht _ kw1_125) (fun _ h9 => h9) rfl dX11_passFromInside_27 ?_
  refine lv_aload_n hx hb dX11_passFromInside_30 rfl (lv_at hl 1 rfl) ?_
  refine va_get (ci := 8) (C := RX11) (T := TX11) (N := 8) hx hb ht iFX11 hown hK hP 0 rfl rfl 0 (by decide) (ht _ kw1_123) (fun _ h9 => h9) rfl dX11_passFromInside_31 ?_
  refine nv_bipush (k := 24) hx hb dX11_passFromInside_34 (by decide) ?_
  refine ro_V S (c_X1_eight (PK_of (ws := (cW cy ad eb es mb mz tp os bits F G u nb ns T M id ft fo g dq ++ tl) ++ dy) (kb := 1) (ka := 2) (N := 1600) rfl rfl (by omega) (by omega)) (a := 24) (by omega)) kw2_88 yv_X1_eight ⟨Nat.le_of_ble_eq_true rfl, Nat.le_of_ble_eq_true rfl⟩ hK hP (va_recv hK hP (ci := 2) (q0 := 1) rfl rfl) rfl hl.1 rfl (Nat.le_of_ble_eq_true rfl) dX11_passFromInside_36 ⟨(by show _ ≤ 5; omega), (by show _ ≤ 617; omega)⟩ ?_
  have hq36 := tg_ei_lt ft tp 24
  refine lv_aload_n hx hb dX11_passFromInside_39 rfl (lv_at hl 1 rfl) ?_
  refine va_get (ci := 8) (C := RX11) (T := TX11) (N := 8) hx hb ht iFX11 hown hK hP 0 rfl rfl 0 (by decide) (ht _ kw1_123) (fun _ h9 => h9) rfl dX11_passFromInside_40 ?_
  refine nv_bipush (k := 32) hx hb dX11_passFromInside_43 (by decide) ?_
  refine ro_V S (c_X1_eight (PK_of (ws := (cW cy ad eb es mb mz tp os bits F G u nb ns T M id ft fo g dq ++ tl) ++ dy) (kb := 1) (ka := 2) (N := 1600) rfl rfl (by omega) (by omega)) (a := 32) (by omega)) kw2_88 yv_X1_eight ⟨Nat.le_of_ble_eq_true rfl, Nat.le_of_ble_eq_true rfl⟩ hK hP (va_recv hK hP (ci := 2) (q0 := 1) rfl rfl) rfl hl.1 rfl (Nat.le_of_ble_eq_true rfl) dX11_passFromInside_45 ⟨(by show _ ≤ 5; omega), (by show _ ≤ 617; omega)⟩ ?_
  have hq45 := tg_ei_lt ft tp 32
  refine ro_V S (c_X8_draw hST (hi := tg_ei (tg_rd ft tp) 24) (lo := tg_ei (tg_rd ft tp) 32) (tg_ei_lt _ _ _) (tg_ei_lt _ _ _)) kw1_212 yv_X8_draw ⟨Nat.le_of_ble_eq_true rfl, Nat.le_of_ble_eq_true rfl⟩ hK hP (va_recv hK hP (ci := 6) (q0 := 5) rfl rfl) rfl hl.1 rfl (Nat.le_of_ble_eq_true rfl) dX11_passFromInside_48 ⟨(by show _ ≤ 5; omega), (by show _ ≤ 617; omega)⟩ ?_
  rw [tg_draw_of hin.2.2.2, ← efar]
  refine nv_l2i hx hb dX11_passFromInside_51 ?_
  refine wr_S S (c_X2_fromInside (PK_of (ws := (cW cy ad eb es mb mz tp os bits F G u nb ns T M id ft fo g dq ++ tl) ++ dy) (kb := 1) (ka := 2) (N := 1600) rfl rfl (by omega) (by omega)) (far := far) hfar) kw2_89 yv_X2_fromInside ⟨Nat.le_of_ble_eq_true rfl, Nat.le_of_ble_eq_true rfl⟩ hK hP hD hS hA rfl hl.1 rfl (Nat.le_of_ble_eq_true rfl) dX11_passFromInside_52 ⟨(by show _ ≤ 5; omega), (by show _ ≤ 617; omega)⟩ (fun fl H locs hfl hP hD hS => ?_)
  rw [List.append_assoc, ← eq0, ← eport, ← efpt, ← eev] at hP hD
  have hP : va_P D vwCl ((cW cy ad eb es mb mz tp os bits F G u nb ns T M id ft fo g dq ++ tl) ++ (dy ++ [fE fl true q port far fpt ev])) H := hP
  have hD : va_D A ((cW cy ad eb es mb mz tp os bits F G u nb ns T M id ft fo g dq ++ tl) ++ (dy ++ [fE fl true q port far fpt ev])) := hD
  obtain ⟨kf, hkf⟩ : ∃ z, z = dy.length := ⟨_, rfl⟩
  have hfd : (dy ++ [fE fl true q port far fpt ev])[kf]? = some (fE fl true q port far fpt ev) := by rw [hkf]; exact app_e
  have hDYf : DY cy e0.1 (dy ++ [fE fl true q port far fpt ev]) eb es nb ns ba sa pt ih il ip pn op so fa fp st en := hDY.ext
  have hT : ((cW cy ad eb es mb mz tp os bits F G u nb ns T M id ft fo g dq ++ tl) ++ (dy ++ [fE fl true q port far fpt ev]))[8]? = some (tE (ad 8) (ad 9) (ad 10) T) := rfl
  have hLb : ((cW cy ad eb es mb mz tp os bits F G u nb ns T M id ft fo g dq ++ tl) ++ (dy ++ [fE fl true q port far fpt ev]))[9]? = some (aL (ad 9) mb eb nb) := rfl
  have hLs : ((cW cy ad eb es mb mz tp os bits F G u nb ns T M id ft fo g dq ++ tl) ++ (dy ++ [fE fl true q port far fpt ev]))[10]? = some (aL (ad 10) mz es ns) := rfl
  have hB : TB1 cy ((cW cy ad eb es mb mz tp os bits F G u nb ns T M id ft fo g dq ++ tl) ++ (dy ++ [fE fl true q port far fpt ev])) e0.1 eb nb ba pt ih il ip pn op := hDYf.1.app
  have hS1 : TS1 cy ((cW cy ad eb es mb mz tp os bits F G u nb ns T M id ft fo g dq ++ tl) ++ (dy ++ [fE fl true q port far fpt ev])) e0.1 es ns nb ba sa so fa fp st en := hDYf.2.1.app
  have hf0 : ((cW cy ad eb es mb mz tp os bits F G u nb ns T M id ft fo g dq ++ tl) ++ (dy ++ [fE fl true q port far fpt ev]))[(cW cy ad eb es mb mz tp os bits F G u nb ns T M id ft fo g dq ++ tl).length + kf]? = some (fE fl true q port far fpt ev) := app_r hfd
  have hST : STP ((cW cy ad eb es mb mz tp os bits F G u nb ns T M id ft fo g dq ++ tl) ++ (dy ++ [fE fl true q port far fpt ev])) (ad 5) bits F G := STP_of (ks := 5) rfl hsi
  have hPL : PLP cy ((cW cy ad eb es mb mz tp os bits F G u nb ns T M id ft fo g dq ++ tl) ++ (dy ++ [fE fl true q port far fpt ev])) (ad 6) g u := PLP_of (kp := 6) (kq := 7) rfl rfl hu4
  refine W.eq (g2 := F0 m 55 ls [.ref fl]) rfl ?_
  refine lv_astore_n (lv' := [(2, .ref fl), (1, .int (nI 0)), (0, .ref (ad 0))]) hx hb dX11_passFromInside_55 rfl hl (by decide) rfl (fun ls hl => ?_)
  refine lv_aload_n hx hb dX11_passFromInside_56 rfl (lv_at hl 2 rfl) ?_
  refine va_get (ci := 8) (C := RX11) (T := TX11) (N := 8) hx hb ht iFX11 hown hK hP 0 rfl rfl 4 (by decide) (ht _ kw1_127) (fun _ h9 => h9) rfl dX11_passFromInside_57 ?_
  refine lv_aload_n hx hb dX11_passFromInside_60 rfl (lv_at hl 0 rfl) ?_
  refine lv_aload_n hx hb dX11_passFromInside_61 rfl (lv_at hl 2 rfl) ?_
  refine va_get (ci := 8) (C := RX11) (T := TX11) (N := 8) hx hb ht iFX11 hown hK hP 0 rfl rfl 0 (by decide) (ht _ kw1_123) (fun _ h9 => h9) rfl dX11_passFromInside_62 ?_
  refine nv_bipush (k := 8) hx hb dX11_passFromInside_65 (by decide) ?_
  refine ro_V S (c_X1_eight (PK_of (ws := (cW cy ad eb es mb mz tp os bits F G u nb ns T M id ft fo g dq ++ tl) ++ (dy ++ [fE fl true q port far fpt ev])) (kb := 1) (ka := 2) (N := 1600) rfl rfl (by omega) (by omega)) (a := 8) (by omega)) kw2_88 yv_X1_eight ⟨Nat.le_of_ble_eq_true rfl, Nat.le_of_ble_eq_true rfl⟩ hK hP (va_recv hK hP (ci := 2) (q0 := 1) rfl rfl) rfl hl.1 rfl (Nat.le_of_ble_eq_true rfl) dX11_passFromInside_67 ⟨(by show _ ≤ 5; omega), (by show _ ≤ 617; omega)⟩ ?_
  have hq67 := tg_ei_lt ft tp 8
  refine lv_aload_n hx hb dX11_passFromInside_70 rfl (lv_at hl 2 rfl) ?_
  refine va_get (ci := 8) (C := RX11) (T := TX11) (N := 8) hx hb ht iFX11 hown hK hP 0 rfl rfl 0 (by decide) (ht _ kw1_123) (fun _ h9 => h9) rfl dX11_passFromInside_71 ?_
  refine nv_bipush (k := 16) hx hb dX11_passFromInside_74 (by decide) ?_
  refine ro_V S (c_X1_eight (PK_of (ws := (cW cy ad eb es mb mz tp os bits F G u nb ns T M id ft fo g dq ++ tl) ++ (dy ++ [fE fl true q port far fpt ev])) (kb := 1) (ka := 2) (N := 1600) rfl rfl (by omega) (by omega)) (a := 16) (by omega)) kw2_88 yv_X1_eight ⟨Nat.le_of_ble_eq_true rfl, Nat.le_of_ble_eq_true rfl⟩ hK hP (va_recv hK hP (ci := 2) (q0 := 1) rfl rfl) rfl hl.1 rfl (Nat.le_of_ble_eq_true rfl) dX11_passFromInside_76 ⟨(by show _ ≤ 5; omega), (by show _ ≤ 617; omega)⟩ ?_
  have hq76 := tg_ei_lt ft tp 16
  refine lv_aload_n hx hb dX11_passFromInside_79 rfl (lv_at hl 2 rfl) ?_
  refine va_get (ci := 8) (C := RX11) (T := TX11) (N := 8) hx hb ht iFX11 hown hK hP 0 rfl rfl 3 (by decide) (ht _ kw1_126) (fun _ h9 => h9) rfl dX11_passFromInside_80 ?_
  refine ro_V S (c_X5_size hPL) kw2_148 yv_X5_size ⟨Nat.le_of_ble_eq_true rfl, Nat.le_of_ble_eq_true rfl⟩ hK hP (va_recv hK hP (ci := 4) (q0 := 6) rfl rfl) rfl hl.1 rfl (Nat.le_of_ble_eq_true rfl) dX11_passFromInside_83 ⟨(by show _ ≤ 5; omega), (by show _ ≤ 617; omega)⟩ ?_
  rw [← ehi, ← elo]
  refine wx_V S (c_X10_admitFromInside3 hDYf hb_pt hb_ih hb_il hb_ip hb_pn hb_op hb_fa hb_fp hb_st hb_en hfd hq hport hfar hfpt hev hb_pn4 hhi hlo hu0 hu4 hfb hmay hnb0) kw2_149 yv_X10_admitFromInside ⟨Nat.le_of_ble_eq_true rfl, Nat.le_of_ble_eq_true rfl⟩ hK hP hD hS hA hE (va_recv hK hP (ci := 7) (q0 := 8) rfl rfl) rfl hl.1 rfl (Nat.le_of_ble_eq_true rfl) dX11_passFromInside_86 ⟨(by show _ ≤ 5; omega), (by show _ ≤ 617; omega)⟩ (fun z1 H locs hz1 hP hD hS => ?_)
  have hP : va_P D vwCl ((cW cy ad z1.2.1 z1.2.2.2.1 (mb + nI 1) (mz + nI 1) tp os bits F G u (nb + 1) (ns + 1) T M id ft fo g dq ++ tl) ++ z1.2.2.2.2) H := hP
  have hD : va_D A ((cW cy ad z1.2.1 z1.2.2.2.1 (mb + nI 1) (mz + nI 1) tp os bits F G u (nb + 1) (ns + 1) T M id ft fo g dq ++ tl) ++ z1.2.2.2.2) := hD
  have hT : ((cW cy ad z1.2.1 z1.2.2.2.1 (mb + nI 1) (mz + nI 1) tp os bits F G u (nb + 1) (ns + 1) T M id ft fo g dq ++ tl) ++ z1.2.2.2.2)[8]? = some (tE (ad 8) (ad 9) (ad 10) T) := rfl
  have hLb : ((cW cy ad z1.2.1 z1.2.2.2.1 (mb + nI 1) (mz + nI 1) tp os bits F G u (nb + 1) (ns + 1) T M id ft fo g dq ++ tl) ++ z1.2.2.2.2)[9]? = some (aL (ad 9) (mb + nI 1) z1.2.1 (nb + 1)) := rfl
  have hLs : ((cW cy ad z1.2.1 z1.2.2.2.1 (mb + nI 1) (mz + nI 1) tp os bits F G u (nb + 1) (ns + 1) T M id ft fo g dq ++ tl) ++ z1.2.2.2.2)[10]? = some (aL (ad 10) (mz + nI 1) z1.2.2.2.1 (ns + 1)) := rfl
  have hB : TB1 cy ((cW cy ad z1.2.1 z1.2.2.2.1 (mb + nI 1) (mz + nI 1) tp os bits F G u (nb + 1) (ns + 1) T M id ft fo g dq ++ tl) ++ z1.2.2.2.2) e0.1 z1.2.1 (nb + 1) (va_up ba nb z1.1) (va_up pt nb q) (va_up ih nb hi) (va_up il nb lo) (va_up ip nb port) (va_up pn nb (tg_best ih il pn nb u hi lo)) (va_up op nb (tg_port pt pn op nb q (tg_best ih il pn nb u hi lo) port)) := hz1.1.1.app
  have hS1 : TS1 cy ((cW cy ad z1.2.1 z1.2.2.2.1 (mb + nI 1) (mz + nI 1) tp os bits F G u (nb + 1) (ns + 1) T M id ft fo g dq ++ tl) ++ z1.2.2.2.2) e0.1 z1.2.2.2.1 (ns + 1) (nb + 1) (va_up ba nb z1.1) (va_up sa ns z1.2.2.1) (va_up so ns nb) (va_up fa ns far) (va_up fp ns fpt) (va_up st ns (tg_first_st q true)) (va_up en ns (T + tg_life (tg_first_st q true) q)) := hz1.1.2.1.app
  have hf0 : ((cW cy ad z1.2.1 z1.2.2.2.1 (mb + nI 1) (mz + nI 1) tp os bits F G u (nb + 1) (ns + 1) T M id ft fo g dq ++ tl) ++ z1.2.2.2.2)[(cW cy ad z1.2.1 z1.2.2.2.1 (mb + nI 1) (mz + nI 1) tp os bits F G u (nb + 1) (ns + 1) T M id ft fo g dq ++ tl).length + kf]? = some (fE fl true q port far fpt ev) := app_r hz1.2
  have hST : STP ((cW cy ad z1.2.1 z1.2.2.2.1 (mb + nI 1) (mz + nI 1) tp os bits F G u (nb + 1) (ns + 1) T M id ft fo g dq ++ tl) ++ z1.2.2.2.2) (ad 5) bits F G := STP_of (ks := 5) rfl hsi
  have hPL : PLP cy ((cW cy ad z1.2.1 z1.2.2.2.1 (mb + nI 1) (mz + nI 1) tp os bits F G u (nb + 1) (ns + 1) T M id ft fo g dq ++ tl) ++ z1.2.2.2.2) (ad 6) g u := PLP_of (kp := 6) (kq := 7) rfl rfl hu4
  obtain ⟨kw9, hkw⟩ := hz1.1.1.at (i := nb) (by omega)
  simp only [va_up_self] at hkw
  refine W.eq (g2 := F0 m 89 ls [.ref z1.1]) rfl ?_
  refine lv_astore_n (lv' := [(3, .ref z1.1), (2, .ref fl), (1, .int (nI 0)), (0, .ref (ad 0))]) hx hb dX11_passFromInside_89 rfl hl (by decide) rfl (fun ls hl => ?_)
  refine lv_aload_n hx hb dX11_passFromInside_90 rfl (lv_at hl 0 rfl) ?_
  refine lv_ifnonnull (tgt := 97) hx hb dX11_passFromInside_91 (by decide) ?_
  refine lv_aload_n hx hb dX11_passFromInside_97 rfl (lv_at hl 3 rfl) ?_
  refine va_get (ci := 8) (C := RX11) (T := TX11) (N := 8) hx hb ht iFX11 hown hK hP 0 rfl rfl 0 (by decide) (ht _ kw1_123) (fun _ h9 => h9) rfl dX11_passFromInside_98 ?_
  refine ro_V S (c_X1_length (PK_of (ws := (cW cy ad z1.2.1 z1.2.2.2.1 (mb + nI 1) (mz + nI 1) tp os bits F G u (nb + 1) (ns + 1) T M id ft fo g dq ++ tl) ++ z1.2.2.2.2) (kb := 1) (ka := 2) (N := 1600) rfl rfl (by omega) (by omega))) kw1_220 yv_X1_length ⟨Nat.le_of_ble_eq_true rfl, Nat.le_of_ble_eq_true rfl⟩ hK hP (va_recv hK hP (ci := 2) (q0 := 1) rfl rfl) rfl hl.1 rfl (Nat.le_of_ble_eq_true rfl) dX11_passFromInside_101 ⟨(by show _ ≤ 5; omega), (by show _ ≤ 617; omega)⟩ ?_
  refine nv_bipush (k := 40) hx hb dX11_passFromInside_104 (by decide) ?_
  refine nv_isub hx hb (by omega) dX11_passFromInside_106 ?_
  refine nv_bipush (k := 20) hx hb dX11_passFromInside_107 (by decide) ?_
  refine nv_iadd hx hb dX11_passFromInside_109 ?_
  refine nv_sipush (k := 1260) hx hb dX11_passFromInside_110 (by decide) ?_
  refine nv_icmp_gt (tgt := 120) hx hb dX11_passFromInside_113 (by decide) (by omega) (by omega) (fun h113 => ?_) (fun h113 => ?_)
  · skip
    refine nv_iconst (k := 0) hx hb dX11_passFromInside_120 rfl ?_
    refine lv_istore (lv' := [(4, .int (nI 0)), (3, .ref z1.1), (2, .ref fl), (1, .int (nI 0)), (0, .ref (ad 0))]) hx hb dX11_passFromInside_121 hl (by decide) rfl (fun ls hl => ?_)
    refine lv_aload_n hx hb dX11_passFromInside_123 rfl (lv_at hl 4 rfl) ?_
    refine va_get (ci := 8) (C := RX11) (T := TX11) (N := 8) hx hb ht iFX11 hown hK hP 0 rfl rfl 3 (by decide) (ht _ kw1_126) (fun _ h9 => h9) rfl dX11_passFromInside_124 ?_
    refine lv_aload_n hx hb dX11_passFromInside_127 rfl (lv_at hl 1 rfl) ?_
    refine va_get (ci := 1) (C := RX0) (T := TX0) (N := 6) hx hb ht iFX0 hown hK hP ((cW cy ad z1.2.1 z1.2.2.2.1 (mb + nI 1) (mz + nI 1) tp os bits F G u (nb + 1) (ns + 1) T M id ft fo g dq ++ tl).length + kw9) (app_r hkw) rfl 4 (by decide) (ht _ kw3_9) (fun _ h9 => h9) rfl dX11_passFromInside_128 ?_
    refine ro_V S (c_X5_at hPL (k := tg_best ih il pn nb u hi lo) (by omega)) kw3_112 yv_X5_at ⟨Nat.le_of_ble_eq_true rfl, Nat.le_of_ble_eq_true rfl⟩ hK hP (va_recv hK hP (ci := 4) (q0 := 6) rfl rfl) rfl hl.1 rfl (Nat.le_of_ble_eq_true rfl) dX11_passFromInside_131 ⟨(by show _ ≤ 5; omega), (by show _ ≤ 617; omega)⟩ ?_
    rw [hga]
    refine lv_istore (lv' := [(5, .int (nI sa9)), (4, .int (nI 0)), (3, .ref z1.1), (2, .ref fl), (1, .int (nI 0)), (0, .ref (ad 0))]) hx hb dX11_passFromInside_134 hl (by decide) rfl (fun ls hl => ?_)
    refine lv_aload_n hx hb dX11_passFromInside_136 rfl (lv_at hl 5 rfl) ?_
    refine va_get (ci := 8) (C := RX11) (T := TX11) (N := 8) hx hb ht iFX11 hown hK hP 0 rfl rfl 0 (by decide) (ht _ kw1_123) (fun _ h9 => h9) rfl dX11_passFromInside_137 ?_
    refine lv_aload_n hx hb dX11_passFromInside_140 rfl (lv_at hl 5 rfl) ?_
    refine va_get (ci := 8) (C := RX11) (T := TX11) (N := 8) hx hb ht iFX11 hown hK hP 0 rfl rfl 1 (by decide) (ht _ kw1_124) (fun _ h9 => h9) rfl dX11_passFromInside_141 ?_
    refine lv_aload_n hx hb dX11_passFromInside_144 rfl (lv_at hl 2 rfl) ?_
    refine lv_iload hx hb dX11_passFromInside_145 (lv_at hl 0 rfl) ?_
    refine lv_aload_n hx hb dX11_passFromInside_147 rfl (lv_at hl 3 rfl) ?_
    refine va_get (ci := 3) (C := RX2) (T := TX2) (N := 6) hx hb ht iFX2 hown hK hP ((cW cy ad z1.2.1 z1.2.2.2.1 (mb + nI 1) (mz + nI 1) tp os bits F G u (nb + 1) (ns + 1) T M id ft fo g dq ++ tl).length + kf) (app_r hz1.2) rfl 3 (by decide) (ht _ kw2_129) (fun _ h9 => h9) rfl dX11_passFromInside_148 ?_
    refine lv_iload hx hb dX11_passFromInside_151 (lv_at hl 1 rfl) ?_
    refine nv_if_eq (tgt := 163) hx hb dX11_passFromInside_153 (by decide) (by omega) (fun _ => ?_) (fun h => absurd h (by decide))
    refine nv_iconst (k := 0) hx hb dX11_passFromInside_163 rfl ?_
    refine wr_S S (c_X3_toFour (ws := (cW cy ad z1.2.1 z1.2.2.2.1 (mb + nI 1) (mz + nI 1) tp os bits F G u (nb + 1) (ns + 1) T M id ft fo g dq ++ tl) ++ z1.2.2.2.2) (kb := 3) (ka := 4) rfl rfl (by omega) (by omega) (ki := 1) (kai := 2) rfl rfl (by omega) (by omega) (by decide) (by decide) (by decide) (by decide) (app_r hkw) hq3 hhi hlo hport hop9 (cw_ne (by decide)) (cw_ne (by decide)) (fa := sa9) (ta := far) (sp := 0) hsa9 hfar (by omega) (by omega) (by omega) (by exact hsum) (by omega) hin.1.2.2.2.2) kw3_116 yv_X3_toFour ⟨Nat.le_of_ble_eq_true rfl, Nat.le_of_ble_eq_true rfl⟩ hK hP hD hS hA rfl hl.1 rfl (Nat.le_of_ble_eq_true rfl) dX11_passFromInside_164 ⟨(by show _ ≤ 5; omega), (by show _ ≤ 617; omega)⟩ (fun g164 H locs hg164 hP hD hS => ?_)
    have hP : va_P D vwCl ((cW cy ad z1.2.1 z1.2.2.2.1 (mb + nI 1) (mz + nI 1) tp (20 + (tp - 40)) bits F G u (nb + 1) (ns + 1) T M id ft g164 g dq ++ tl) ++ z1.2.2.2.2) H := hP
    have hD : va_D A ((cW cy ad z1.2.1 z1.2.2.2.1 (mb + nI 1) (mz + nI 1) tp (20 + (tp - 40)) bits F G u (nb + 1) (ns + 1) T M id ft g164 g dq ++ tl) ++ z1.2.2.2.2) := hD
    refine W.eq (g2 := F0 m 167 ls []) rfl ?_
    refine lv_iload hx hb dX11_passFromInside_167 (lv_at hl 1 rfl) ?_
    refine nv_if_eq (tgt := 195) hx hb dX11_passFromInside_169 (by decide) (by omega) (fun _ => ?_) (fun h => absurd h (by decide))
    refine nv_iconst (k := 0) hx hb dX11_passFromInside_195 rfl ?_
    have e1 : (if tp - 20 ≤ 1260 then id else 0) = 0 := if_neg (by omega)
    have e2 : tg_id tp id = id := by unfold tg_id; rw [if_neg (by omega)]
    rw [hg164] at hP hD
    refine W.widen (k := 5) (n := 617) (by omega) (by omega) ?_
    exact hend z1 rfl hz1.1 (by rw [e1, e2]; exact hP) (by rw [e1, e2]; exact hD) hS dX11_passFromInside_196
  refine nv_iconst (k := 1) hx hb dX11_passFromInside_116 rfl ?_
  refine lv_goto (tgt := 121) hx hb dX11_passFromInside_117 (by decide) ?_
  refine lv_istore (lv' := [(4, .int (nI 1)), (3, .ref z1.1), (2, .ref fl), (1, .int (nI 0)), (0, .ref (ad 0))]) hx hb dX11_passFromInside_121 hl (by decide) rfl (fun ls hl => ?_)
  refine lv_aload_n hx hb dX11_passFromInside_123 rfl (lv_at hl 4 rfl) ?_
  refine va_get (ci := 8) (C := RX11) (T := TX11) (N := 8) hx hb ht iFX11 hown hK hP 0 rfl rfl 3 (by decide) (ht _ kw1_126) (fun _ h9 => h9) rfl dX11_passFromInside_124 ?_
  refine lv_aload_n hx hb dX11_passFromInside_127 rfl (lv_at hl 1 rfl) ?_
  refine va_get (ci := 1) (C := RX0) (T := TX0) (N := 6) hx hb ht iFX0 hown hK hP ((cW cy ad z1.2.1 z1.2.2.2.1 (mb + nI 1) (mz + nI 1) tp os bits F G u (nb + 1) (ns + 1) T M id ft fo g dq ++ tl).length + kw9) (app_r hkw) rfl 4 (by decide) (ht _ kw3_9) (fun _ h9 => h9) rfl dX11_passFromInside_128 ?_
  refine ro_V S (c_X5_at hPL (k := tg_best ih il pn nb u hi lo) (by omega)) kw3_112 yv_X5_at ⟨Nat.le_of_ble_eq_true rfl, Nat.le_of_ble_eq_true rfl⟩ hK hP (va_recv hK hP (ci := 4) (q0 := 6) rfl rfl) rfl hl.1 rfl (Nat.le_of_ble_eq_true rfl) dX11_passFromInside_131 ⟨(by show _ ≤ 5; omega), (by show _ ≤ 617; omega)⟩ ?_
  rw [hga]
  refine lv_istore (lv' := [(5, .int (nI sa9)), (4, .int (nI 1)), (3, .ref z1.1), (2, .ref fl), (1, .int (nI 0)), (0, .ref (ad 0))]) hx hb dX11_passFromInside_134 hl (by decide) rfl (fun ls hl => ?_)
  refine lv_aload_n hx hb dX11_passFromInside_136 rfl (lv_at hl 5 rfl) ?_
  refine va_get (ci := 8) (C := RX11) (T := TX11) (N := 8) hx hb ht iFX11 hown hK hP 0 rfl rfl 0 (by decide) (ht _ kw1_123) (fun _ h9 => h9) rfl dX11_passFromInside_137 ?_
  refine lv_aload_n hx hb dX11_passFromInside_140 rfl (lv_at hl 5 rfl) ?_
  refine va_get (ci := 8) (C := RX11) (T := TX11) (N := 8) hx hb ht iFX11 hown hK hP 0 rfl rfl 1 (by decide) (ht _ kw1_124) (fun _ h9 => h9) rfl dX11_passFromInside_141 ?_
  refine lv_aload_n hx hb dX11_passFromInside_144 rfl (lv_at hl 2 rfl) ?_
  refine lv_iload hx hb dX11_passFromInside_145 (lv_at hl 0 rfl) ?_
  refine lv_aload_n hx hb dX11_passFromInside_147 rfl (lv_at hl 3 rfl) ?_
  refine va_get (ci := 3) (C := RX2) (T := TX2) (N := 6) hx hb ht iFX2 hown hK hP ((cW cy ad z1.2.1 z1.2.2.2.1 (mb + nI 1) (mz + nI 1) tp os bits F G u (nb + 1) (ns + 1) T M id ft fo g dq ++ tl).length + kf) (app_r hz1.2) rfl 3 (by decide) (ht _ kw2_129) (fun _ h9 => h9) rfl dX11_passFromInside_148 ?_
  refine lv_iload hx hb dX11_passFromInside_151 (lv_at hl 1 rfl) ?_
  refine nv_if_eq (tgt := 163) hx hb dX11_passFromInside_153 (by decide) (by omega) (fun h => absurd h (by decide)) (fun _ => ?_)
  refine lv_aload_n hx hb dX11_passFromInside_156 rfl (lv_at hl 5 rfl) ?_
  refine va_get (ci := 8) (C := RX11) (T := TX11) (N := 8) hx hb ht iFX11 hown hK hP 0 rfl rfl 7 (by decide) (ht _ kw1_130) (fun _ h9 => h9) rfl dX11_passFromInside_157 ?_
  refine lv_goto (tgt := 164) hx hb dX11_passFromInside_160 (by decide) ?_
  refine wr_S S (c_X3_toFour (ws := (cW cy ad z1.2.1 z1.2.2.2.1 (mb + nI 1) (mz + nI 1) tp os bits F G u (nb + 1) (ns + 1) T M id ft fo g dq ++ tl) ++ z1.2.2.2.2) (kb := 3) (ka := 4) rfl rfl (by omega) (by omega) (ki := 1) (kai := 2) rfl rfl (by omega) (by omega) (by decide) (by decide) (by decide) (by decide) (app_r hkw) hq3 hhi hlo hport hop9 (cw_ne (by decide)) (cw_ne (by decide)) (fa := sa9) (ta := far) (sp := id) hsa9 hfar (by omega) (by omega) (by omega) (by exact hsum) (by omega) hin.1.2.2.2.2) kw3_116 yv_X3_toFour ⟨Nat.le_of_ble_eq_true rfl, Nat.le_of_ble_eq_true rfl⟩ hK hP hD hS hA rfl hl.1 rfl (Nat.le_of_ble_eq_true rfl) dX11_passFromInside_164 ⟨(by show _ ≤ 5; omega), (by show _ ≤ 617; omega)⟩ (fun g164 H locs hg164 hP hD hS => ?_)
  have hP : va_P D vwCl ((cW cy ad z1.2.1 z1.2.2.2.1 (mb + nI 1) (mz + nI 1) tp (20 + (tp - 40)) bits F G u (nb + 1) (ns + 1) T M id ft g164 g dq ++ tl) ++ z1.2.2.2.2) H := hP
  have hD : va_D A ((cW cy ad z1.2.1 z1.2.2.2.1 (mb + nI 1) (mz + nI 1) tp (20 + (tp - 40)) bits F G u (nb + 1) (ns + 1) T M id ft g164 g dq ++ tl) ++ z1.2.2.2.2) := hD
  refine W.eq (g2 := F0 m 167 ls []) rfl ?_
  refine lv_iload hx hb dX11_passFromInside_167 (lv_at hl 1 rfl) ?_
  refine nv_if_eq (tgt := 195) hx hb dX11_passFromInside_169 (by decide) (by omega) (fun h => absurd h (by decide)) (fun _ => ?_)
  refine lv_aload_n hx hb dX11_passFromInside_172 rfl (lv_at hl 5 rfl) ?_
  refine lv_aload_n hx hb dX11_passFromInside_173 rfl (lv_at hl 5 rfl) ?_
  refine va_get (ci := 8) (C := RX11) (T := TX11) (N := 8) hx hb ht iFX11 hown hK hP 0 rfl rfl 7 (by decide) (ht _ kw1_130) (fun _ h9 => h9) rfl dX11_passFromInside_174 ?_
  refine nv_ldc (k := 65535) hx hb hown (ht _ kw3_145) (by decide) dX11_passFromInside_177 ?_
  refine nv_icmp_ne (tgt := 186) hx hb dX11_passFromInside_179 (by decide) (by omega) (by omega) (fun h179 => ?_) (fun h179 => ?_)
  · skip
    refine lv_aload_n hx hb dX11_passFromInside_186 rfl (lv_at hl 5 rfl) ?_
    refine va_get (ci := 8) (C := RX11) (T := TX11) (N := 8) hx hb ht iFX11 hown hK hP 0 rfl rfl 7 (by decide) (ht _ kw1_130) (fun _ h9 => h9) rfl dX11_passFromInside_187 ?_
    refine nv_iconst (k := 1) hx hb dX11_passFromInside_190 rfl ?_
    refine nv_iadd hx hb dX11_passFromInside_191 ?_
    refine va_put (ci := 8) (C := RX11) (T := TX11) (N := 8) (ty := tyX11 7) hx hb ht iFX11 tyX11 tyX11_ok nmX11 hown hK hP hD hS 0 rfl rfl 7 (by decide) (ht _ kw1_130) (fun _ h9 => h9) rfl (by decide +kernel) (by first | rfl | decide) (by first | rfl | decide) (Nat.le_of_ble_eq_true rfl) dX11_passFromInside_192 (fun H locs hP hD hS => ?_)
    have hP : va_P D vwCl ((cW cy ad z1.2.1 z1.2.2.2.1 (mb + nI 1) (mz + nI 1) tp (20 + (tp - 40)) bits F G u (nb + 1) (ns + 1) T M (id + 1) ft g164 g dq ++ tl) ++ z1.2.2.2.2) H := hP
    have hD : va_D A ((cW cy ad z1.2.1 z1.2.2.2.1 (mb + nI 1) (mz + nI 1) tp (20 + (tp - 40)) bits F G u (nb + 1) (ns + 1) T M (id + 1) ft g164 g dq ++ tl) ++ z1.2.2.2.2) := hD
    refine nv_iconst (k := 0) hx hb dX11_passFromInside_195 rfl ?_
    have e1 : (if tp - 20 ≤ 1260 then id else 0) = id := if_pos (by omega)
    have e2 : tg_id tp id = id + 1 := by unfold tg_id; rw [if_pos (by omega), if_neg (by omega)]
    rw [hg164] at hP hD
    refine W.widen (k := 5) (n := 617) (by omega) (by omega) ?_
    exact hend z1 rfl hz1.1 (by rw [e1, e2]; exact hP) (by rw [e1, e2]; exact hD) hS dX11_passFromInside_196
  refine nv_iconst (k := 1) hx hb dX11_passFromInside_182 rfl ?_
  refine lv_goto (tgt := 192) hx hb dX11_passFromInside_183 (by decide) ?_
  refine va_put (ci := 8) (C := RX11) (T := TX11) (N := 8) (ty := tyX11 7) hx hb ht iFX11 tyX11 tyX11_ok nmX11 hown hK hP hD hS 0 rfl rfl 7 (by decide) (ht _ kw1_130) (fun _ h9 => h9) rfl (by decide +kernel) (by first | rfl | decide) (by first | rfl | decide) (Nat.le_of_ble_eq_true rfl) dX11_passFromInside_192 (fun H locs hP hD hS => ?_)
  have hP : va_P D vwCl ((cW cy ad z1.2.1 z1.2.2.2.1 (mb + nI 1) (mz + nI 1) tp (20 + (tp - 40)) bits F G u (nb + 1) (ns + 1) T M 1 ft g164 g dq ++ tl) ++ z1.2.2.2.2) H := hP
  have hD : va_D A ((cW cy ad z1.2.1 z1.2.2.2.1 (mb + nI 1) (mz + nI 1) tp (20 + (tp - 40)) bits F G u (nb + 1) (ns + 1) T M 1 ft g164 g dq ++ tl) ++ z1.2.2.2.2) := hD
  refine nv_iconst (k := 0) hx hb dX11_passFromInside_195 rfl ?_
  have e1 : (if tp - 20 ≤ 1260 then id else 0) = id := if_pos (by omega)
  have e2 : tg_id tp id = 1 := by unfold tg_id; rw [if_pos (by omega), if_pos (by omega)]
  rw [hg164] at hP hD
  refine W.widen (k := 5) (n := 617) (by omega) (by omega) ?_
  exact hend z1 rfl hz1.1 (by rw [e1, e2]; exact hP) (by rw [e1, e2]; exact hD) hS dX11_passFromInside_196
set_option maxHeartbeats 4000000 in
set_option maxRecDepth 100000 in
theorem c_X11_passFromInsidea {l : Launch} {D : va_G} {cy : Nat → ClassId} {ad : Nat → Nat} {tl dy : va_W} {eb es tp os bits F G u nb ns T M id : Nat} {mb mz : Int32} {ft fo : Nat → UInt8} {g : Nat → Int32} {dq ba sa pt ih il ip pn op so fa fp st en : Nat → Nat} {e0 : Nat × Nat} (htp : tp ≤ 1600) (hos : os ≤ 1620) (hsi : SI bits F G) (hu4 : u ≤ 4) (hDY : DY cy e0.1 dy eb es nb ns ba sa pt ih il ip pn op so fa fp st en) (hb_pt : ∀ i, pt i < 2 ^ 31) (hb_ih : ∀ i, ih i < 2 ^ 64) (hb_il : ∀ i, il i < 2 ^ 64) (hb_ip : ∀ i, ip i < 2 ^ 31) (hb_pn : ∀ i, pn i < 2 ^ 31) (hb_op : ∀ i, op i < 2 ^ 31) (hb_fa : ∀ i, fa i < 2 ^ 32) (hb_fp : ∀ i, fp i < 2 ^ 31) (hb_st : ∀ i, st i ≤ 7) (hb_en : ∀ i, en i < 2 ^ 62) {q port far fpt ev hi lo : Nat} (eq0 : q = if tg_rd ft tp 6 = 58 then 1 else tg_rd ft tp 6) (eport : port = tg_pr (tg_rd ft tp) (40 + tg_spa q)) (efar : far = tg_dr bits (tg_ei (tg_rd ft tp) 24) (tg_ei (tg_rd ft tp) 32)) (efpt : fpt = if q = 1 then 0 else tg_pr (tg_rd ft tp) (40 + tg_dpa q)) (eev : ev = tg_event (tg_rd ft tp) 40 q) (ehi : hi = tg_ei (tg_rd ft tp) 8) (elo : lo = tg_ei (tg_rd ft tp) 16) (hz0 : tg_in (tg_rd ft tp) tp bits F G u = 0) (hb_pn4 : ∀ i, pn i < 4) {b : Nat} (hb9 : b < nb) (hfb : tg_first (fun k => decide (pt k = q ∧ ih k = hi ∧ il k = lo ∧ ip k = port)) nb = b) (hfj : ¬ tg_first (fun k => decide (so k = b ∧ fa k = far ∧ fp k = fpt)) ns < ns) (hmay : ¬ ((q ≠ 6 ∨ ev = 2) ∧ ns < 128)) : WR (S := va_W) l yX11_passFromInside cX11_passFromInside 6 (some .int) 5 1 6 120 [.ref (ad 0)] D cy ((cW cy ad eb es mb mz tp os bits F G u nb ns T M id ft fo g dq ++ tl) ++ dy) (fun u_ => some (.int (nI 15))) (fun z9 => DY cy e0.1 z9 eb es nb ns ba sa pt ih il ip pn op so fa fp st en) (fun z9 => (cW cy ad eb es mb mz tp os bits F G u nb ns T M id ft fo g dq ++ tl) ++ z9) := by
  refine WRi (by decide) (lv0 := [(0, .ref (ad 0))]) rfl (Nat.le_of_ble_eq_true rfl) ?_
  intro p e s m args below meth c ls A Q S hnm hP hK hD hS hA hend hl
  have hx := S.1
  have hb := S.2.1
  have hown : s.vm.findClass RX11 = some m.cls := S.2.2.2.1
  have ht : ∀ w ∈ lw_g, w.before args s = true := fun w h => S.2.2.2.2 w (List.mem_cons_of_mem _ h)
  have hP : va_P D vwCl ((cW cy ad eb es mb mz tp os bits F G u nb ns T M id ft fo g dq ++ tl) ++ dy) s.heap := hP
  have hT : ((cW cy ad eb es mb mz tp os bits F G u nb ns T M id ft fo g dq ++ tl) ++ dy)[8]? = some (tE (ad 8) (ad 9) (ad 10) T) := rfl
  have hLb : ((cW cy ad eb es mb mz tp os bits F G u nb ns T M id ft fo g dq ++ tl) ++ dy)[9]? = some (aL (ad 9) mb eb nb) := rfl
  have hLs : ((cW cy ad eb es mb mz tp os bits F G u nb ns T M id ft fo g dq ++ tl) ++ dy)[10]? = some (aL (ad 10) mz es ns) := rfl
  have hB : TB1 cy ((cW cy ad eb es mb mz tp os bits F G u nb ns T M id ft fo g dq ++ tl) ++ dy) e0.1 eb nb ba pt ih il ip pn op := hDY.1.app
  have hS1 : TS1 cy ((cW cy ad eb es mb mz tp os bits F G u nb ns T M id ft fo g dq ++ tl) ++ dy) e0.1 es ns nb ba sa so fa fp st en := hDY.2.1.app
  have hST : STP ((cW cy ad eb es mb mz tp os bits F G u nb ns T M id ft fo g dq ++ tl) ++ dy) (ad 5) bits F G := STP_of (ks := 5) rfl hsi
  have hPL : PLP cy ((cW cy ad eb es mb mz tp os bits F G u nb ns T M id ft fo g dq ++ tl) ++ dy) (ad 6) g u := PLP_of (kp := 6) (kq := 7) rfl rfl hu4
  have hnb := hB.le
  have hns := hS1.le
  have hin := in0 hz0
  have hq3 : q = 1 ∨ q = 6 ∨ q = 17 := by rw [eq0]; split <;> omega
  have hsum : tg_sumAt q + 2 ≤ tp - 40 := by have h6 : q = 6 → tg_rd ft tp 6 = 6 := (by rw [eq0]; split <;> omega); unfold tg_sumAt; (repeat' split) <;> omega
  have hq : q < 256 := by omega
  have hport : port < 65536 := by rw [eport]; exact tg_pr_lt _ _ _
  have hfar : far < 2 ^ 32 := by rw [efar]; exact tg_dr_lt (by have := hsi.b; omega)
  have hfpt : fpt < 65536 := by rw [efpt]; split; omega; exact tg_pr_lt _ _ _
  have hev : ev ≤ 3 := by rw [eev]; exact tg_event_le _ _ _
  have hhi : hi < 2 ^ 64 := by rw [ehi]; exact tg_ei_lt _ _ _
  have hlo : lo < 2 ^ 64 := by rw [elo]; exact tg_ei_lt _ _ _
  have hu0 : 1 ≤ u := by omega
  refine lv_aload_n hx hb dX11_passFromInside_0 rfl (lv_at hl 0 rfl) ?_
  refine va_get (ci := 8) (C := RX11) (T := TX11) (N := 8) hx hb ht iFX11 hown hK hP 0 rfl rfl 0 (by decide) (ht _ kw1_123) (fun _ h9 => h9) rfl dX11_passFromInside_1 ?_
  refine lv_aload_n hx hb dX11_passFromInside_4 rfl (lv_at hl 0 rfl) ?_
  refine va_get (ci := 8) (C := RX11) (T := TX11) (N := 8) hx hb ht iFX11 hown hK hP 0 rfl rfl 2 (by decide) (ht _ kw1_125) (fun _ h9 => h9) rfl dX11_passFromInside_5 ?_
  refine lv_aload_n hx hb dX11_passFromInside_8 rfl (lv_at hl 0 rfl) ?_
  refine va_get (ci := 8) (C := RX11) (T := TX11) (N := 8) hx hb ht iFX11 hown hK hP 0 rfl rfl 3 (by decide) (ht _ kw1_126) (fun _ h9 => h9) rfl dX11_passFromInside_9 ?_
  refine ro_S S (c_X6_faultFromInside (PK_of (ws := (cW cy ad eb es mb mz tp os bits F G u nb ns T M id ft fo g dq ++ tl) ++ dy) (kb := 1) (ka := 2) (N := 1600) rfl rfl (by omega) (by omega)) hST hPL) kw2_7 yv_X6_faultFromInside ⟨Nat.le_of_ble_eq_true rfl, Nat.le_of_ble_eq_true rfl⟩ hK hP rfl hl.1 rfl (Nat.le_of_ble_eq_true rfl) dX11_passFromInside_12 ⟨(by show _ ≤ 1; omega), (by show _ ≤ 6; omega)⟩ ?_
  rw [hz0]
  refine lv_istore_n (lv' := [(1, .int (nI 0)), (0, .ref (ad 0))]) hx hb dX11_passFromInside_15 rfl hl (by decide) rfl (fun ls hl => ?_)
  refine lv_iload_n hx hb dX11_passFromInside_16 rfl (lv_at hl 0 rfl) ?_
  refine nv_if_eq (tgt := 22) hx hb dX11_passFromInside_17 (by decide) (by omega) (fun _ => ?_) (fun h => absurd h (by decide))
  refine lv_aload_n hx hb dX11_passFromInside_22 rfl (lv_at hl 1 rfl) ?_
  refine va_get (ci := 8) (C := RX11) (T := TX11) (N := 8) hx hb ht iFX11 hown hK hP 0 rfl rfl 0 (by decide) (ht _ kw1_123) (fun _ h9 => h9) rfl dX11_passFromInside_23 ?_
  refine lv_aload_n hx hb dX11_passFromInside_26 rfl (lv_at hl 1 rfl) ?_
  refine va_get (ci := 8) (C := RX11) (T := TX11) (N := 8) hx hb ht iFX11 hown hK hP 0 rfl rfl 2 (by decide) (ht _ kw1_125) (fun _ h9 => h9) rfl dX11_passFromInside_27 ?_
  refine lv_aload_n hx hb dX11_passFromInside_30 rfl (lv_at hl 1 rfl) ?_
  refine va_get (ci := 8) (C := RX11) (T := TX11) (N := 8) hx hb ht iFX11 hown hK hP 0 rfl rfl 0 (by decide) (ht _ kw1_123) (fun _ h9 => h9) rfl dX11_passFromInside_31 ?_
  refine nv_bipush (k := 24) hx hb dX11_passFromInside_34 (by decide) ?_
  refine ro_V S (c_X1_eight (PK_of (ws := (cW cy ad eb es mb mz tp os bits F G u nb ns T M id ft fo g dq ++ tl) ++ dy) (kb := 1) (ka := 2) (N := 1600) rfl rfl (by omega) (by omega)) (a := 24) (by omega)) kw2_88 yv_X1_eight ⟨Nat.le_of_ble_eq_true rfl, Nat.le_of_ble_eq_true rfl⟩ hK hP (va_recv hK hP (ci := 2) (q0 := 1) rfl rfl) rfl hl.1 rfl (Nat.le_of_ble_eq_true rfl) dX11_passFromInside_36 ⟨(by show _ ≤ 1; omega), (by show _ ≤ 6; omega)⟩ ?_
  have hq36 := tg_ei_lt ft tp 24
  refine lv_aload_n hx hb dX11_passFromInside_39 rfl (lv_at hl 1 rfl) ?_
  refine va_get (ci := 8) (C := RX11) (T := TX11) (N := 8) hx hb ht iFX11 hown hK hP 0 rfl rfl 0 (by decide) (ht _ kw1_123) (fun _ h9 => h9) rfl dX11_passFromInside_40 ?_
  refine nv_bipush (k := 32) hx hb dX11_passFromInside_43 (by decide) ?_
  refine ro_V S (c_X1_eight (PK_of (ws := (cW cy ad eb es mb mz tp os bits F G u nb ns T M id ft fo g dq ++ tl) ++ dy) (kb := 1) (ka := 2) (N := 1600) rfl rfl (by omega) (by omega)) (a := 32) (by omega)) kw2_88 yv_X1_eight ⟨Nat.le_of_ble_eq_true rfl, Nat.le_of_ble_eq_true rfl⟩ hK hP (va_recv hK hP (ci := 2) (q0 := 1) rfl rfl) rfl hl.1 rfl (Nat.le_of_ble_eq_true rfl) dX11_passFromInside_45 ⟨(by show _ ≤ 1; omega), (by show _ ≤ 6; omega)⟩ ?_
  have hq45 := tg_ei_lt ft tp 32
  refine ro_V S (c_X8_draw hST (hi := tg_ei (tg_rd ft tp) 24) (lo := tg_ei (tg_rd ft tp) 32) (tg_ei_lt _ _ _) (tg_ei_lt _ _ _)) kw1_212 yv_X8_draw ⟨Nat.le_of_ble_eq_true rfl, Nat.le_of_ble_eq_true rfl⟩ hK hP (va_recv hK hP (ci := 6) (q0 := 5) rfl rfl) rfl hl.1 rfl (Nat.le_of_ble_eq_true rfl) dX11_passFromInside_48 ⟨(by show _ ≤ 1; omega), (by show _ ≤ 6; omega)⟩ ?_
  rw [tg_draw_of hin.2.2.2, ← efar]
  refine nv_l2i hx hb dX11_passFromInside_51 ?_
  refine wr_S S (c_X2_fromInside (PK_of (ws := (cW cy ad eb es mb mz tp os bits F G u nb ns T M id ft fo g dq ++ tl) ++ dy) (kb := 1) (ka := 2) (N := 1600) rfl rfl (by omega) (by omega)) (far := far) hfar) kw2_89 yv_X2_fromInside ⟨Nat.le_of_ble_eq_true rfl, Nat.le_of_ble_eq_true rfl⟩ hK hP hD hS hA rfl hl.1 rfl (Nat.le_of_ble_eq_true rfl) dX11_passFromInside_52 ⟨(by show _ ≤ 1; omega), (by show _ ≤ 6; omega)⟩ (fun fl H locs hfl hP hD hS => ?_)
  rw [List.append_assoc, ← eq0, ← eport, ← efpt, ← eev] at hP hD
  have hP : va_P D vwCl ((cW cy ad eb es mb mz tp os bits F G u nb ns T M id ft fo g dq ++ tl) ++ (dy ++ [fE fl true q port far fpt ev])) H := hP
  have hD : va_D A ((cW cy ad eb es mb mz tp os bits F G u nb ns T M id ft fo g dq ++ tl) ++ (dy ++ [fE fl true q port far fpt ev])) := hD
  obtain ⟨kf, hkf⟩ : ∃ z, z = dy.length := ⟨_, rfl⟩
  have hfd : (dy ++ [fE fl true q port far fpt ev])[kf]? = some (fE fl true q port far fpt ev) := by rw [hkf]; exact app_e
  have hDYf : DY cy e0.1 (dy ++ [fE fl true q port far fpt ev]) eb es nb ns ba sa pt ih il ip pn op so fa fp st en := hDY.ext
  have hT : ((cW cy ad eb es mb mz tp os bits F G u nb ns T M id ft fo g dq ++ tl) ++ (dy ++ [fE fl true q port far fpt ev]))[8]? = some (tE (ad 8) (ad 9) (ad 10) T) := rfl
  have hLb : ((cW cy ad eb es mb mz tp os bits F G u nb ns T M id ft fo g dq ++ tl) ++ (dy ++ [fE fl true q port far fpt ev]))[9]? = some (aL (ad 9) mb eb nb) := rfl
  have hLs : ((cW cy ad eb es mb mz tp os bits F G u nb ns T M id ft fo g dq ++ tl) ++ (dy ++ [fE fl true q port far fpt ev]))[10]? = some (aL (ad 10) mz es ns) := rfl
  have hB : TB1 cy ((cW cy ad eb es mb mz tp os bits F G u nb ns T M id ft fo g dq ++ tl) ++ (dy ++ [fE fl true q port far fpt ev])) e0.1 eb nb ba pt ih il ip pn op := hDYf.1.app
  have hS1 : TS1 cy ((cW cy ad eb es mb mz tp os bits F G u nb ns T M id ft fo g dq ++ tl) ++ (dy ++ [fE fl true q port far fpt ev])) e0.1 es ns nb ba sa so fa fp st en := hDYf.2.1.app
  have hf0 : ((cW cy ad eb es mb mz tp os bits F G u nb ns T M id ft fo g dq ++ tl) ++ (dy ++ [fE fl true q port far fpt ev]))[(cW cy ad eb es mb mz tp os bits F G u nb ns T M id ft fo g dq ++ tl).length + kf]? = some (fE fl true q port far fpt ev) := app_r hfd
  have hST : STP ((cW cy ad eb es mb mz tp os bits F G u nb ns T M id ft fo g dq ++ tl) ++ (dy ++ [fE fl true q port far fpt ev])) (ad 5) bits F G := STP_of (ks := 5) rfl hsi
  have hPL : PLP cy ((cW cy ad eb es mb mz tp os bits F G u nb ns T M id ft fo g dq ++ tl) ++ (dy ++ [fE fl true q port far fpt ev])) (ad 6) g u := PLP_of (kp := 6) (kq := 7) rfl rfl hu4
  refine W.eq (g2 := F0 m 55 ls [.ref fl]) rfl ?_
  refine lv_astore_n (lv' := [(2, .ref fl), (1, .int (nI 0)), (0, .ref (ad 0))]) hx hb dX11_passFromInside_55 rfl hl (by decide) rfl (fun ls hl => ?_)
  refine lv_aload_n hx hb dX11_passFromInside_56 rfl (lv_at hl 2 rfl) ?_
  refine va_get (ci := 8) (C := RX11) (T := TX11) (N := 8) hx hb ht iFX11 hown hK hP 0 rfl rfl 4 (by decide) (ht _ kw1_127) (fun _ h9 => h9) rfl dX11_passFromInside_57 ?_
  refine lv_aload_n hx hb dX11_passFromInside_60 rfl (lv_at hl 0 rfl) ?_
  refine lv_aload_n hx hb dX11_passFromInside_61 rfl (lv_at hl 2 rfl) ?_
  refine va_get (ci := 8) (C := RX11) (T := TX11) (N := 8) hx hb ht iFX11 hown hK hP 0 rfl rfl 0 (by decide) (ht _ kw1_123) (fun _ h9 => h9) rfl dX11_passFromInside_62 ?_
  refine nv_bipush (k := 8) hx hb dX11_passFromInside_65 (by decide) ?_
  refine ro_V S (c_X1_eight (PK_of (ws := (cW cy ad eb es mb mz tp os bits F G u nb ns T M id ft fo g dq ++ tl) ++ (dy ++ [fE fl true q port far fpt ev])) (kb := 1) (ka := 2) (N := 1600) rfl rfl (by omega) (by omega)) (a := 8) (by omega)) kw2_88 yv_X1_eight ⟨Nat.le_of_ble_eq_true rfl, Nat.le_of_ble_eq_true rfl⟩ hK hP (va_recv hK hP (ci := 2) (q0 := 1) rfl rfl) rfl hl.1 rfl (Nat.le_of_ble_eq_true rfl) dX11_passFromInside_67 ⟨(by show _ ≤ 1; omega), (by show _ ≤ 6; omega)⟩ ?_
  have hq67 := tg_ei_lt ft tp 8
  refine lv_aload_n hx hb dX11_passFromInside_70 rfl (lv_at hl 2 rfl) ?_
  refine va_get (ci := 8) (C := RX11) (T := TX11) (N := 8) hx hb ht iFX11 hown hK hP 0 rfl rfl 0 (by decide) (ht _ kw1_123) (fun _ h9 => h9) rfl dX11_passFromInside_71 ?_
  refine nv_bipush (k := 16) hx hb dX11_passFromInside_74 (by decide) ?_
  refine ro_V S (c_X1_eight (PK_of (ws := (cW cy ad eb es mb mz tp os bits F G u nb ns T M id ft fo g dq ++ tl) ++ (dy ++ [fE fl true q port far fpt ev])) (kb := 1) (ka := 2) (N := 1600) rfl rfl (by omega) (by omega)) (a := 16) (by omega)) kw2_88 yv_X1_eight ⟨Nat.le_of_ble_eq_true rfl, Nat.le_of_ble_eq_true rfl⟩ hK hP (va_recv hK hP (ci := 2) (q0 := 1) rfl rfl) rfl hl.1 rfl (Nat.le_of_ble_eq_true rfl) dX11_passFromInside_76 ⟨(by show _ ≤ 1; omega), (by show _ ≤ 6; omega)⟩ ?_
  have hq76 := tg_ei_lt ft tp 16
  refine lv_aload_n hx hb dX11_passFromInside_79 rfl (lv_at hl 2 rfl) ?_
  refine va_get (ci := 8) (C := RX11) (T := TX11) (N := 8) hx hb ht iFX11 hown hK hP 0 rfl rfl 3 (by decide) (ht _ kw1_126) (fun _ h9 => h9) rfl dX11_passFromInside_80 ?_
  refine ro_V S (c_X5_size hPL) kw2_148 yv_X5_size ⟨Nat.le_of_ble_eq_true rfl, Nat.le_of_ble_eq_true rfl⟩ hK hP (va_recv hK hP (ci := 4) (q0 := 6) rfl rfl) rfl hl.1 rfl (Nat.le_of_ble_eq_true rfl) dX11_passFromInside_83 ⟨(by show _ ≤ 1; omega), (by show _ ≤ 6; omega)⟩ ?_
  rw [← ehi, ← elo]
  refine ro_V S (c_X10_admitFromInsidea hT hLb hB hLs hS1 hb_pt hb_ih hb_il hb_ip hb_pn hb_op hb_fa hb_fp hb_st hb_en hf0 hq hport hfar hfpt hev hb_pn4 hhi hlo hu0 hu4 hb9 hfb hfj hmay) kw2_149 yv_X10_admitFromInside ⟨Nat.le_of_ble_eq_true rfl, Nat.le_of_ble_eq_true rfl⟩ hK hP (va_recv hK hP (ci := 7) (q0 := 8) rfl rfl) rfl hl.1 rfl (Nat.le_of_ble_eq_true rfl) dX11_passFromInside_86 ⟨(by show _ ≤ 1; omega), (by show _ ≤ 6; omega)⟩ ?_
  refine W.eq (g2 := F0 m 89 ls [.null]) rfl ?_
  refine lv_astore_nN (lv' := [(3, .null), (2, .ref fl), (1, .int (nI 0)), (0, .ref (ad 0))]) hx hb dX11_passFromInside_89 rfl hl (by decide) rfl (fun ls hl => ?_)
  refine lv_aload_nN hx hb dX11_passFromInside_90 rfl (lv_at hl 0 rfl) ?_
  refine lv_ifnonnullN hx hb dX11_passFromInside_91 ?_
  refine nv_bipush (k := 15) hx hb dX11_passFromInside_94 (by decide) ?_
  exact hend _ rfl hDYf hP hD hS dX11_passFromInside_96
set_option maxHeartbeats 4000000 in
set_option maxRecDepth 100000 in
theorem c_X11_passFromInsideb {l : Launch} {D : va_G} {cy : Nat → ClassId} {ad : Nat → Nat} {tl dy : va_W} {eb es tp os bits F G u nb ns T M id : Nat} {mb mz : Int32} {ft fo : Nat → UInt8} {g : Nat → Int32} {dq ba sa pt ih il ip pn op so fa fp st en : Nat → Nat} {e0 : Nat × Nat} (htp : tp ≤ 1600) (hos : os ≤ 1620) (hsi : SI bits F G) (hu4 : u ≤ 4) (hDY : DY cy e0.1 dy eb es nb ns ba sa pt ih il ip pn op so fa fp st en) (hb_pt : ∀ i, pt i < 2 ^ 31) (hb_ih : ∀ i, ih i < 2 ^ 64) (hb_il : ∀ i, il i < 2 ^ 64) (hb_ip : ∀ i, ip i < 2 ^ 31) (hb_pn : ∀ i, pn i < 2 ^ 31) (hb_op : ∀ i, op i < 2 ^ 31) (hb_fa : ∀ i, fa i < 2 ^ 32) (hb_fp : ∀ i, fp i < 2 ^ 31) (hb_st : ∀ i, st i ≤ 7) (hb_en : ∀ i, en i < 2 ^ 62) {q port far fpt ev hi lo : Nat} (eq0 : q = if tg_rd ft tp 6 = 58 then 1 else tg_rd ft tp 6) (eport : port = tg_pr (tg_rd ft tp) (40 + tg_spa q)) (efar : far = tg_dr bits (tg_ei (tg_rd ft tp) 24) (tg_ei (tg_rd ft tp) 32)) (efpt : fpt = if q = 1 then 0 else tg_pr (tg_rd ft tp) (40 + tg_dpa q)) (eev : ev = tg_event (tg_rd ft tp) 40 q) (ehi : hi = tg_ei (tg_rd ft tp) 8) (elo : lo = tg_ei (tg_rd ft tp) 16) (hz0 : tg_in (tg_rd ft tp) tp bits F G u = 0) (hb_pn4 : ∀ i, pn i < 4) (hfb : ¬ tg_first (fun k => decide (pt k = q ∧ ih k = hi ∧ il k = lo ∧ ip k = port)) nb < nb) (hno9 : 64 ≤ nb ∨ ¬ ((q ≠ 6 ∨ ev = 2) ∧ ns < 128)) : WR (S := va_W) l yX11_passFromInside cX11_passFromInside 6 (some .int) 5 1 6 120 [.ref (ad 0)] D cy ((cW cy ad eb es mb mz tp os bits F G u nb ns T M id ft fo g dq ++ tl) ++ dy) (fun u_ => some (.int (nI 15))) (fun z9 => DY cy e0.1 z9 eb es nb ns ba sa pt ih il ip pn op so fa fp st en) (fun z9 => (cW cy ad eb es mb mz tp os bits F G u nb ns T M id ft fo g dq ++ tl) ++ z9) := by
  refine WRi (by decide) (lv0 := [(0, .ref (ad 0))]) rfl (Nat.le_of_ble_eq_true rfl) ?_
  intro p e s m args below meth c ls A Q S hnm hP hK hD hS hA hend hl
  have hx := S.1
  have hb := S.2.1
  have hown : s.vm.findClass RX11 = some m.cls := S.2.2.2.1
  have ht : ∀ w ∈ lw_g, w.before args s = true := fun w h => S.2.2.2.2 w (List.mem_cons_of_mem _ h)
  have hP : va_P D vwCl ((cW cy ad eb es mb mz tp os bits F G u nb ns T M id ft fo g dq ++ tl) ++ dy) s.heap := hP
  have hT : ((cW cy ad eb es mb mz tp os bits F G u nb ns T M id ft fo g dq ++ tl) ++ dy)[8]? = some (tE (ad 8) (ad 9) (ad 10) T) := rfl
  have hLb : ((cW cy ad eb es mb mz tp os bits F G u nb ns T M id ft fo g dq ++ tl) ++ dy)[9]? = some (aL (ad 9) mb eb nb) := rfl
  have hLs : ((cW cy ad eb es mb mz tp os bits F G u nb ns T M id ft fo g dq ++ tl) ++ dy)[10]? = some (aL (ad 10) mz es ns) := rfl
  have hB : TB1 cy ((cW cy ad eb es mb mz tp os bits F G u nb ns T M id ft fo g dq ++ tl) ++ dy) e0.1 eb nb ba pt ih il ip pn op := hDY.1.app
  have hS1 : TS1 cy ((cW cy ad eb es mb mz tp os bits F G u nb ns T M id ft fo g dq ++ tl) ++ dy) e0.1 es ns nb ba sa so fa fp st en := hDY.2.1.app
  have hST : STP ((cW cy ad eb es mb mz tp os bits F G u nb ns T M id ft fo g dq ++ tl) ++ dy) (ad 5) bits F G := STP_of (ks := 5) rfl hsi
  have hPL : PLP cy ((cW cy ad eb es mb mz tp os bits F G u nb ns T M id ft fo g dq ++ tl) ++ dy) (ad 6) g u := PLP_of (kp := 6) (kq := 7) rfl rfl hu4
  have hnb := hB.le
  have hns := hS1.le
  have hin := in0 hz0
  have hq3 : q = 1 ∨ q = 6 ∨ q = 17 := by rw [eq0]; split <;> omega
  have hsum : tg_sumAt q + 2 ≤ tp - 40 := by have h6 : q = 6 → tg_rd ft tp 6 = 6 := (by rw [eq0]; split <;> omega); unfold tg_sumAt; (repeat' split) <;> omega
  have hq : q < 256 := by omega
  have hport : port < 65536 := by rw [eport]; exact tg_pr_lt _ _ _
  have hfar : far < 2 ^ 32 := by rw [efar]; exact tg_dr_lt (by have := hsi.b; omega)
  have hfpt : fpt < 65536 := by rw [efpt]; split; omega; exact tg_pr_lt _ _ _
  have hev : ev ≤ 3 := by rw [eev]; exact tg_event_le _ _ _
  have hhi : hi < 2 ^ 64 := by rw [ehi]; exact tg_ei_lt _ _ _
  have hlo : lo < 2 ^ 64 := by rw [elo]; exact tg_ei_lt _ _ _
  have hu0 : 1 ≤ u := by omega
  refine lv_aload_n hx hb dX11_passFromInside_0 rfl (lv_at hl 0 rfl) ?_
  refine va_get (ci := 8) (C := RX11) (T := TX11) (N := 8) hx hb ht iFX11 hown hK hP 0 rfl rfl 0 (by decide) (ht _ kw1_123) (fun _ h9 => h9) rfl dX11_passFromInside_1 ?_
  refine lv_aload_n hx hb dX11_passFromInside_4 rfl (lv_at hl 0 rfl) ?_
  refine va_get (ci := 8) (C := RX11) (T := TX11) (N := 8) hx hb ht iFX11 hown hK hP 0 rfl rfl 2 (by decide) (ht _ kw1_125) (fun _ h9 => h9) rfl dX11_passFromInside_5 ?_
  refine lv_aload_n hx hb dX11_passFromInside_8 rfl (lv_at hl 0 rfl) ?_
  refine va_get (ci := 8) (C := RX11) (T := TX11) (N := 8) hx hb ht iFX11 hown hK hP 0 rfl rfl 3 (by decide) (ht _ kw1_126) (fun _ h9 => h9) rfl dX11_passFromInside_9 ?_
  refine ro_S S (c_X6_faultFromInside (PK_of (ws := (cW cy ad eb es mb mz tp os bits F G u nb ns T M id ft fo g dq ++ tl) ++ dy) (kb := 1) (ka := 2) (N := 1600) rfl rfl (by omega) (by omega)) hST hPL) kw2_7 yv_X6_faultFromInside ⟨Nat.le_of_ble_eq_true rfl, Nat.le_of_ble_eq_true rfl⟩ hK hP rfl hl.1 rfl (Nat.le_of_ble_eq_true rfl) dX11_passFromInside_12 ⟨(by show _ ≤ 1; omega), (by show _ ≤ 6; omega)⟩ ?_
  rw [hz0]
  refine lv_istore_n (lv' := [(1, .int (nI 0)), (0, .ref (ad 0))]) hx hb dX11_passFromInside_15 rfl hl (by decide) rfl (fun ls hl => ?_)
  refine lv_iload_n hx hb dX11_passFromInside_16 rfl (lv_at hl 0 rfl) ?_
  refine nv_if_eq (tgt := 22) hx hb dX11_passFromInside_17 (by decide) (by omega) (fun _ => ?_) (fun h => absurd h (by decide))
  refine lv_aload_n hx hb dX11_passFromInside_22 rfl (lv_at hl 1 rfl) ?_
  refine va_get (ci := 8) (C := RX11) (T := TX11) (N := 8) hx hb ht iFX11 hown hK hP 0 rfl rfl 0 (by decide) (ht _ kw1_123) (fun _ h9 => h9) rfl dX11_passFromInside_23 ?_
  refine lv_aload_n hx hb dX11_passFromInside_26 rfl (lv_at hl 1 rfl) ?_
  refine va_get (ci := 8) (C := RX11) (T := TX11) (N := 8) hx hb ht iFX11 hown hK hP 0 rfl rfl 2 (by decide) (ht _ kw1_125) (fun _ h9 => h9) rfl dX11_passFromInside_27 ?_
  refine lv_aload_n hx hb dX11_passFromInside_30 rfl (lv_at hl 1 rfl) ?_
  refine va_get (ci := 8) (C := RX11) (T := TX11) (N := 8) hx hb ht iFX11 hown hK hP 0 rfl rfl 0 (by decide) (ht _ kw1_123) (fun _ h9 => h9) rfl dX11_passFromInside_31 ?_
  refine nv_bipush (k := 24) hx hb dX11_passFromInside_34 (by decide) ?_
  refine ro_V S (c_X1_eight (PK_of (ws := (cW cy ad eb es mb mz tp os bits F G u nb ns T M id ft fo g dq ++ tl) ++ dy) (kb := 1) (ka := 2) (N := 1600) rfl rfl (by omega) (by omega)) (a := 24) (by omega)) kw2_88 yv_X1_eight ⟨Nat.le_of_ble_eq_true rfl, Nat.le_of_ble_eq_true rfl⟩ hK hP (va_recv hK hP (ci := 2) (q0 := 1) rfl rfl) rfl hl.1 rfl (Nat.le_of_ble_eq_true rfl) dX11_passFromInside_36 ⟨(by show _ ≤ 1; omega), (by show _ ≤ 6; omega)⟩ ?_
  have hq36 := tg_ei_lt ft tp 24
  refine lv_aload_n hx hb dX11_passFromInside_39 rfl (lv_at hl 1 rfl) ?_
  refine va_get (ci := 8) (C := RX11) (T := TX11) (N := 8) hx hb ht iFX11 hown hK hP 0 rfl rfl 0 (by decide) (ht _ kw1_123) (fun _ h9 => h9) rfl dX11_passFromInside_40 ?_
  refine nv_bipush (k := 32) hx hb dX11_passFromInside_43 (by decide) ?_
  refine ro_V S (c_X1_eight (PK_of (ws := (cW cy ad eb es mb mz tp os bits F G u nb ns T M id ft fo g dq ++ tl) ++ dy) (kb := 1) (ka := 2) (N := 1600) rfl rfl (by omega) (by omega)) (a := 32) (by omega)) kw2_88 yv_X1_eight ⟨Nat.le_of_ble_eq_true rfl, Nat.le_of_ble_eq_true rfl⟩ hK hP (va_recv hK hP (ci := 2) (q0 := 1) rfl rfl) rfl hl.1 rfl (Nat.le_of_ble_eq_true rfl) dX11_passFromInside_45 ⟨(by show _ ≤ 1; omega), (by show _ ≤ 6; omega)⟩ ?_
  have hq45 := tg_ei_lt ft tp 32
  refine ro_V S (c_X8_draw hST (hi := tg_ei (tg_rd ft tp) 24) (lo := tg_ei (tg_rd ft tp) 32) (tg_ei_lt _ _ _) (tg_ei_lt _ _ _)) kw1_212 yv_X8_draw ⟨Nat.le_of_ble_eq_true rfl, Nat.le_of_ble_eq_true rfl⟩ hK hP (va_recv hK hP (ci := 6) (q0 := 5) rfl rfl) rfl hl.1 rfl (Nat.le_of_ble_eq_true rfl) dX11_passFromInside_48 ⟨(by show _ ≤ 1; omega), (by show _ ≤ 6; omega)⟩ ?_
  rw [tg_draw_of hin.2.2.2, ← efar]
  refine nv_l2i hx hb dX11_passFromInside_51 ?_
  refine wr_S S (c_X2_fromInside (PK_of (ws := (cW cy ad eb es mb mz tp os bits F G u nb ns T M id ft fo g dq ++ tl) ++ dy) (kb := 1) (ka := 2) (N := 1600) rfl rfl (by omega) (by omega)) (far := far) hfar) kw2_89 yv_X2_fromInside ⟨Nat.le_of_ble_eq_true rfl, Nat.le_of_ble_eq_true rfl⟩ hK hP hD hS hA rfl hl.1 rfl (Nat.le_of_ble_eq_true rfl) dX11_passFromInside_52 ⟨(by show _ ≤ 1; omega), (by show _ ≤ 6; omega)⟩ (fun fl H locs hfl hP hD hS => ?_)
  rw [List.append_assoc, ← eq0, ← eport, ← efpt, ← eev] at hP hD
  have hP : va_P D vwCl ((cW cy ad eb es mb mz tp os bits F G u nb ns T M id ft fo g dq ++ tl) ++ (dy ++ [fE fl true q port far fpt ev])) H := hP
  have hD : va_D A ((cW cy ad eb es mb mz tp os bits F G u nb ns T M id ft fo g dq ++ tl) ++ (dy ++ [fE fl true q port far fpt ev])) := hD
  obtain ⟨kf, hkf⟩ : ∃ z, z = dy.length := ⟨_, rfl⟩
  have hfd : (dy ++ [fE fl true q port far fpt ev])[kf]? = some (fE fl true q port far fpt ev) := by rw [hkf]; exact app_e
  have hDYf : DY cy e0.1 (dy ++ [fE fl true q port far fpt ev]) eb es nb ns ba sa pt ih il ip pn op so fa fp st en := hDY.ext
  have hT : ((cW cy ad eb es mb mz tp os bits F G u nb ns T M id ft fo g dq ++ tl) ++ (dy ++ [fE fl true q port far fpt ev]))[8]? = some (tE (ad 8) (ad 9) (ad 10) T) := rfl
  have hLb : ((cW cy ad eb es mb mz tp os bits F G u nb ns T M id ft fo g dq ++ tl) ++ (dy ++ [fE fl true q port far fpt ev]))[9]? = some (aL (ad 9) mb eb nb) := rfl
  have hLs : ((cW cy ad eb es mb mz tp os bits F G u nb ns T M id ft fo g dq ++ tl) ++ (dy ++ [fE fl true q port far fpt ev]))[10]? = some (aL (ad 10) mz es ns) := rfl
  have hB : TB1 cy ((cW cy ad eb es mb mz tp os bits F G u nb ns T M id ft fo g dq ++ tl) ++ (dy ++ [fE fl true q port far fpt ev])) e0.1 eb nb ba pt ih il ip pn op := hDYf.1.app
  have hS1 : TS1 cy ((cW cy ad eb es mb mz tp os bits F G u nb ns T M id ft fo g dq ++ tl) ++ (dy ++ [fE fl true q port far fpt ev])) e0.1 es ns nb ba sa so fa fp st en := hDYf.2.1.app
  have hf0 : ((cW cy ad eb es mb mz tp os bits F G u nb ns T M id ft fo g dq ++ tl) ++ (dy ++ [fE fl true q port far fpt ev]))[(cW cy ad eb es mb mz tp os bits F G u nb ns T M id ft fo g dq ++ tl).length + kf]? = some (fE fl true q port far fpt ev) := app_r hfd
  have hST : STP ((cW cy ad eb es mb mz tp os bits F G u nb ns T M id ft fo g dq ++ tl) ++ (dy ++ [fE fl true q port far fpt ev])) (ad 5) bits F G := STP_of (ks := 5) rfl hsi
  have hPL : PLP cy ((cW cy ad eb es mb mz tp os bits F G u nb ns T M id ft fo g dq ++ tl) ++ (dy ++ [fE fl true q port far fpt ev])) (ad 6) g u := PLP_of (kp := 6) (kq := 7) rfl rfl hu4
  refine W.eq (g2 := F0 m 55 ls [.ref fl]) rfl ?_
  refine lv_astore_n (lv' := [(2, .ref fl), (1, .int (nI 0)), (0, .ref (ad 0))]) hx hb dX11_passFromInside_55 rfl hl (by decide) rfl (fun ls hl => ?_)
  refine lv_aload_n hx hb dX11_passFromInside_56 rfl (lv_at hl 2 rfl) ?_
  refine va_get (ci := 8) (C := RX11) (T := TX11) (N := 8) hx hb ht iFX11 hown hK hP 0 rfl rfl 4 (by decide) (ht _ kw1_127) (fun _ h9 => h9) rfl dX11_passFromInside_57 ?_
  refine lv_aload_n hx hb dX11_passFromInside_60 rfl (lv_at hl 0 rfl) ?_
  refine lv_aload_n hx hb dX11_passFromInside_61 rfl (lv_at hl 2 rfl) ?_
  refine va_get (ci := 8) (C := RX11) (T := TX11) (N := 8) hx hb ht iFX11 hown hK hP 0 rfl rfl 0 (by decide) (ht _ kw1_123) (fun _ h9 => h9) rfl dX11_passFromInside_62 ?_
  refine nv_bipush (k := 8) hx hb dX11_passFromInside_65 (by decide) ?_
  refine ro_V S (c_X1_eight (PK_of (ws := (cW cy ad eb es mb mz tp os bits F G u nb ns T M id ft fo g dq ++ tl) ++ (dy ++ [fE fl true q port far fpt ev])) (kb := 1) (ka := 2) (N := 1600) rfl rfl (by omega) (by omega)) (a := 8) (by omega)) kw2_88 yv_X1_eight ⟨Nat.le_of_ble_eq_true rfl, Nat.le_of_ble_eq_true rfl⟩ hK hP (va_recv hK hP (ci := 2) (q0 := 1) rfl rfl) rfl hl.1 rfl (Nat.le_of_ble_eq_true rfl) dX11_passFromInside_67 ⟨(by show _ ≤ 1; omega), (by show _ ≤ 6; omega)⟩ ?_
  have hq67 := tg_ei_lt ft tp 8
  refine lv_aload_n hx hb dX11_passFromInside_70 rfl (lv_at hl 2 rfl) ?_
  refine va_get (ci := 8) (C := RX11) (T := TX11) (N := 8) hx hb ht iFX11 hown hK hP 0 rfl rfl 0 (by decide) (ht _ kw1_123) (fun _ h9 => h9) rfl dX11_passFromInside_71 ?_
  refine nv_bipush (k := 16) hx hb dX11_passFromInside_74 (by decide) ?_
  refine ro_V S (c_X1_eight (PK_of (ws := (cW cy ad eb es mb mz tp os bits F G u nb ns T M id ft fo g dq ++ tl) ++ (dy ++ [fE fl true q port far fpt ev])) (kb := 1) (ka := 2) (N := 1600) rfl rfl (by omega) (by omega)) (a := 16) (by omega)) kw2_88 yv_X1_eight ⟨Nat.le_of_ble_eq_true rfl, Nat.le_of_ble_eq_true rfl⟩ hK hP (va_recv hK hP (ci := 2) (q0 := 1) rfl rfl) rfl hl.1 rfl (Nat.le_of_ble_eq_true rfl) dX11_passFromInside_76 ⟨(by show _ ≤ 1; omega), (by show _ ≤ 6; omega)⟩ ?_
  have hq76 := tg_ei_lt ft tp 16
  refine lv_aload_n hx hb dX11_passFromInside_79 rfl (lv_at hl 2 rfl) ?_
  refine va_get (ci := 8) (C := RX11) (T := TX11) (N := 8) hx hb ht iFX11 hown hK hP 0 rfl rfl 3 (by decide) (ht _ kw1_126) (fun _ h9 => h9) rfl dX11_passFromInside_80 ?_
  refine ro_V S (c_X5_size hPL) kw2_148 yv_X5_size ⟨Nat.le_of_ble_eq_true rfl, Nat.le_of_ble_eq_true rfl⟩ hK hP (va_recv hK hP (ci := 4) (q0 := 6) rfl rfl) rfl hl.1 rfl (Nat.le_of_ble_eq_true rfl) dX11_passFromInside_83 ⟨(by show _ ≤ 1; omega), (by show _ ≤ 6; omega)⟩ ?_
  rw [← ehi, ← elo]
  refine ro_V S (c_X10_admitFromInsideb hT hLb hB hLs hS1 hb_pt hb_ih hb_il hb_ip hb_pn hb_op hb_fa hb_fp hb_st hb_en hf0 hq hport hfar hfpt hev hb_pn4 hhi hlo hu0 hu4 hfb hno9) kw2_149 yv_X10_admitFromInside ⟨Nat.le_of_ble_eq_true rfl, Nat.le_of_ble_eq_true rfl⟩ hK hP (va_recv hK hP (ci := 7) (q0 := 8) rfl rfl) rfl hl.1 rfl (Nat.le_of_ble_eq_true rfl) dX11_passFromInside_86 ⟨(by show _ ≤ 1; omega), (by show _ ≤ 6; omega)⟩ ?_
  refine W.eq (g2 := F0 m 89 ls [.null]) rfl ?_
  refine lv_astore_nN (lv' := [(3, .null), (2, .ref fl), (1, .int (nI 0)), (0, .ref (ad 0))]) hx hb dX11_passFromInside_89 rfl hl (by decide) rfl (fun ls hl => ?_)
  refine lv_aload_nN hx hb dX11_passFromInside_90 rfl (lv_at hl 0 rfl) ?_
  refine lv_ifnonnullN hx hb dX11_passFromInside_91 ?_
  refine nv_bipush (k := 15) hx hb dX11_passFromInside_94 (by decide) ?_
  exact hend _ rfl hDYf hP hD hS dX11_passFromInside_96
