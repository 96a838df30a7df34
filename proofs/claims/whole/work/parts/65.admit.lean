theorem tg_first_min {q : Nat → Bool} : ∀ {n j : Nat}, j < tg_first q n → q j = false
  | 0, j, h => absurd h (Nat.not_lt_zero _)
  | n + 1, j, h => by
    have hl := tg_first_le q n
    unfold tg_first at h
    split at h
    · exact tg_first_min h
    · split at h
      · exact tg_first_min (n := n) (by omega)
      · rcases Nat.lt_or_ge j n with z | z
        · exact tg_first_min (n := n) (by omega)
        · rw [show j = n by omega]
          exact Bool.eq_false_iff.mpr (by assumption)
theorem tg_first_no {q : Nat → Bool} {n : Nat} (h : ¬ tg_first q n < n) : ∀ j, j < n → q j = false := fun j hj => tg_first_min (n := n) (by omega)
theorem dX10_admitFromInside_0 : decode cX10_admitFromInside 0 = .ok (.aload_n 0, 1) := by decide +kernel
theorem dX10_admitFromInside_1 : decode cX10_admitFromInside 1 = .ok (.aload_n 1, 1) := by decide +kernel
theorem dX10_admitFromInside_2 : decode cX10_admitFromInside 2 = .ok (.lload_n 2, 1) := by decide +kernel
theorem dX10_admitFromInside_3 : decode cX10_admitFromInside 3 = .ok (.lload 4, 2) := by decide +kernel
theorem dX10_admitFromInside_5 : decode cX10_admitFromInside 5 = .ok (.invokevirtual 57, 3) := by decide +kernel
theorem dX10_admitFromInside_8 : decode cX10_admitFromInside 8 = .ok (.astore 7, 2) := by decide +kernel
theorem dX10_admitFromInside_10 : decode cX10_admitFromInside 10 = .ok (.aload_n 0, 1) := by decide +kernel
theorem dX10_admitFromInside_11 : decode cX10_admitFromInside 11 = .ok (.aload 7, 2) := by decide +kernel
theorem dX10_admitFromInside_13 : decode cX10_admitFromInside 13 = .ok (.aload_n 1, 1) := by decide +kernel
theorem dX10_admitFromInside_14 : decode cX10_admitFromInside 14 = .ok (.invokevirtual 61, 3) := by decide +kernel
theorem dX10_admitFromInside_17 : decode cX10_admitFromInside 17 = .ok (.ifCond .eq 6, 3) := by decide +kernel
theorem dX10_admitFromInside_20 : decode cX10_admitFromInside 20 = .ok (.aload 7, 2) := by decide +kernel
theorem dX10_admitFromInside_22 : decode cX10_admitFromInside 22 = .ok (.areturn, 1) := by decide +kernel
theorem dX10_admitFromInside_23 : decode cX10_admitFromInside 23 = .ok (.aload 7, 2) := by decide +kernel
theorem dX10_admitFromInside_25 : decode cX10_admitFromInside 25 = .ok (.ifnonnull 19, 3) := by decide +kernel
theorem dX10_admitFromInside_28 : decode cX10_admitFromInside 28 = .ok (.aload_n 0, 1) := by decide +kernel
theorem dX10_admitFromInside_29 : decode cX10_admitFromInside 29 = .ok (.getfield 12, 3) := by decide +kernel
theorem dX10_admitFromInside_32 : decode cX10_admitFromInside 32 = .ok (.invokevirtual 25, 3) := by decide +kernel
theorem dX10_admitFromInside_35 : decode cX10_admitFromInside 35 = .ok (.bipush 64, 2) := by decide +kernel
theorem dX10_admitFromInside_37 : decode cX10_admitFromInside 37 = .ok (.if_icmp .lt 7, 3) := by decide +kernel
theorem dX10_admitFromInside_40 : decode cX10_admitFromInside 40 = .ok (.iconst 1, 1) := by decide +kernel
theorem dX10_admitFromInside_41 : decode cX10_admitFromInside 41 = .ok (.goto 4, 3) := by decide +kernel
theorem dX10_admitFromInside_44 : decode cX10_admitFromInside 44 = .ok (.iconst 0, 1) := by decide +kernel
theorem dX10_admitFromInside_45 : decode cX10_admitFromInside 45 = .ok (.istore 8, 2) := by decide +kernel
theorem dX10_admitFromInside_47 : decode cX10_admitFromInside 47 = .ok (.iload 8, 2) := by decide +kernel
theorem dX10_admitFromInside_49 : decode cX10_admitFromInside 49 = .ok (.ifCond .ne 11, 3) := by decide +kernel
theorem dX10_admitFromInside_52 : decode cX10_admitFromInside 52 = .ok (.aload_n 0, 1) := by decide +kernel
theorem dX10_admitFromInside_53 : decode cX10_admitFromInside 53 = .ok (.aload_n 1, 1) := by decide +kernel
theorem dX10_admitFromInside_54 : decode cX10_admitFromInside 54 = .ok (.invokevirtual 65, 3) := by decide +kernel
theorem dX10_admitFromInside_57 : decode cX10_admitFromInside 57 = .ok (.ifCond .ne 5, 3) := by decide +kernel
theorem dX10_admitFromInside_60 : decode cX10_admitFromInside 60 = .ok (.aconst_null, 1) := by decide +kernel
theorem dX10_admitFromInside_61 : decode cX10_admitFromInside 61 = .ok (.areturn, 1) := by decide +kernel
theorem dX10_admitFromInside_62 : decode cX10_admitFromInside 62 = .ok (.aload 7, 2) := by decide +kernel
theorem dX10_admitFromInside_64 : decode cX10_admitFromInside 64 = .ok (.ifnonnull 15, 3) := by decide +kernel
theorem dX10_admitFromInside_67 : decode cX10_admitFromInside 67 = .ok (.aload_n 0, 1) := by decide +kernel
theorem dX10_admitFromInside_68 : decode cX10_admitFromInside 68 = .ok (.aload_n 1, 1) := by decide +kernel
theorem dX10_admitFromInside_69 : decode cX10_admitFromInside 69 = .ok (.lload_n 2, 1) := by decide +kernel
theorem dX10_admitFromInside_70 : decode cX10_admitFromInside 70 = .ok (.lload 4, 2) := by decide +kernel
theorem dX10_admitFromInside_72 : decode cX10_admitFromInside 72 = .ok (.iload 6, 2) := by decide +kernel
theorem dX10_admitFromInside_74 : decode cX10_admitFromInside 74 = .ok (.invokevirtual 69, 3) := by decide +kernel
theorem dX10_admitFromInside_77 : decode cX10_admitFromInside 77 = .ok (.astore 7, 2) := by decide +kernel
theorem dX10_admitFromInside_79 : decode cX10_admitFromInside 79 = .ok (.aload_n 0, 1) := by decide +kernel
theorem dX10_admitFromInside_80 : decode cX10_admitFromInside 80 = .ok (.getfield 18, 3) := by decide +kernel
theorem dX10_admitFromInside_83 : decode cX10_admitFromInside 83 = .ok (.new 35, 3) := by decide +kernel
theorem dX10_admitFromInside_86 : decode cX10_admitFromInside 86 = .ok (.dup, 1) := by decide +kernel
theorem dX10_admitFromInside_87 : decode cX10_admitFromInside 87 = .ok (.aload 7, 2) := by decide +kernel
theorem dX10_admitFromInside_89 : decode cX10_admitFromInside 89 = .ok (.aload_n 1, 1) := by decide +kernel
theorem dX10_admitFromInside_90 : decode cX10_admitFromInside 90 = .ok (.aload_n 0, 1) := by decide +kernel
theorem dX10_admitFromInside_91 : decode cX10_admitFromInside 91 = .ok (.getfield 21, 3) := by decide +kernel
theorem dX10_admitFromInside_94 : decode cX10_admitFromInside 94 = .ok (.invokespecial 73, 3) := by decide +kernel
theorem dX10_admitFromInside_97 : decode cX10_admitFromInside 97 = .ok (.invokevirtual 76, 3) := by decide +kernel
theorem dX10_admitFromInside_100 : decode cX10_admitFromInside 100 = .ok (.pop, 1) := by decide +kernel
theorem dX10_admitFromInside_101 : decode cX10_admitFromInside 101 = .ok (.aload 7, 2) := by decide +kernel
theorem dX10_admitFromInside_103 : decode cX10_admitFromInside 103 = .ok (.areturn, 1) := by decide +kernel
theorem yv_X10_admitFromInside : YV RX10 yX10_admitFromInside cX10_admitFromInside 9 (some (.object "TransitGate$Binding")) 4 := ⟨kw2_150, kw2_151, kw1_6, kw2_152, by decide +kernel⟩
set_option maxHeartbeats 4000000 in
set_option maxRecDepth 100000 in
theorem c_X10_admitFromInside1 {l : Launch} {D : va_G} {cy : Nat → ClassId} {ad : Nat → Nat} {tl dy : va_W} {eb es tp os bits F G u nb ns T M id : Nat} {mb mz : Int32} {ft fo : Nat → UInt8} {g : Nat → Int32} {dq ba sa pt ih il ip pn op so fa fp st en : Nat → Nat} {e0 : Nat × Nat} (hDY : DY cy e0.1 dy eb es nb ns ba sa pt ih il ip pn op so fa fp st en) (hb_pt : ∀ i, pt i < 2 ^ 31) (hb_ih : ∀ i, ih i < 2 ^ 64) (hb_il : ∀ i, il i < 2 ^ 64) (hb_ip : ∀ i, ip i < 2 ^ 31) (hb_pn : ∀ i, pn i < 2 ^ 31) (hb_op : ∀ i, op i < 2 ^ 31) (hb_fa : ∀ i, fa i < 2 ^ 32) (hb_fp : ∀ i, fp i < 2 ^ 31) (hb_st : ∀ i, st i ≤ 7) (hb_en : ∀ i, en i < 2 ^ 62) {kf fl q port far fpt ev : Nat} {ins : Bool} (hfd : dy[kf]? = some (fE fl ins q port far fpt ev)) (hq : q < 256) (hport : port < 65536) (hfar : far < 2 ^ 32) (hfpt : fpt < 65536) (hev : ev ≤ 3) (hb_pn4 : ∀ i, pn i < 4) {hi lo : Nat} (hhi : hi < 2 ^ 64) (hlo : lo < 2 ^ 64) {u9 : Nat} (hu0 : 1 ≤ u9) (hu4 : u9 ≤ 4) {b : Nat} (hb9 : b < nb) (hfb : tg_first (fun k => decide (pt k = q ∧ ih k = hi ∧ il k = lo ∧ ip k = port)) nb = b) {j : Nat} (hj9 : j < ns) (hfj : tg_first (fun k => decide (so k = b ∧ fa k = far ∧ fp k = fpt)) ns = j) : WR (S := va_W) l yX10_admitFromInside cX10_admitFromInside 9 (some (.object "TransitGate$Binding")) 4 0 0 92 [.ref (ad 8), .ref fl, .long (lN (hi)), .long (lN (lo)), .int (nI u9)] D cy ((cW cy ad eb es mb mz tp os bits F G u nb ns T M id ft fo g dq ++ tl) ++ dy) (fun u_ => some (va_rf (some (ba b)))) (fun z9 => DY cy e0.1 z9 eb es nb ns ba sa pt ih il ip pn op so fa fp (if tg_nxt (st j) ev ins = 8 then st else va_up st j (tg_nxt (st j) ev ins)) (if tg_nxt (st j) ev ins = 8 then en else va_up en j (T + tg_life (tg_nxt (st j) ev ins) q)) ∧ z9[kf]? = some (fE fl ins q port far fpt ev)) (fun z9 => (cW cy ad eb es mb mz tp os bits F G u nb ns T M id ft fo g dq ++ tl) ++ z9) := by
  refine WRr (by first | exact Or.inl ⟨_, rfl⟩ | exact Or.inr ⟨_, rfl⟩) (by decide) (lv0 := [(0, .ref (ad 8)), (1, .ref fl), (2, .long (lN (hi))), (4, .long (lN (lo))), (6, .int (nI u9))]) rfl (Nat.le_of_ble_eq_true rfl) ?_
  intro p e s m args below meth c ls A Q S hnm hP hK hD hS hA hend hl
  have hx := S.1
  have hb := S.2.1
  have hown : s.vm.findClass RX10 = some m.cls := S.2.2.2.1
  have ht : ∀ w ∈ lw_g, w.before args s = true := fun w h => S.2.2.2.2 w (List.mem_cons_of_mem _ h)
  have hP : va_P D vwCl ((cW cy ad eb es mb mz tp os bits F G u nb ns T M id ft fo g dq ++ tl) ++ dy) s.heap := hP
  have hT : ((cW cy ad eb es mb mz tp os bits F G u nb ns T M id ft fo g dq ++ tl) ++ dy)[8]? = some (tE (ad 8) (ad 9) (ad 10) T) := rfl
  have hLb : ((cW cy ad eb es mb mz tp os bits F G u nb ns T M id ft fo g dq ++ tl) ++ dy)[9]? = some (aL (ad 9) mb eb nb) := rfl
  have hLs : ((cW cy ad eb es mb mz tp os bits F G u nb ns T M id ft fo g dq ++ tl) ++ dy)[10]? = some (aL (ad 10) mz es ns) := rfl
  have hB : TB1 cy ((cW cy ad eb es mb mz tp os bits F G u nb ns T M id ft fo g dq ++ tl) ++ dy) e0.1 eb nb ba pt ih il ip pn op := hDY.1.app
  have hS1 : TS1 cy ((cW cy ad eb es mb mz tp os bits F G u nb ns T M id ft fo g dq ++ tl) ++ dy) e0.1 es ns nb ba sa so fa fp st en := hDY.2.1.app
  have hf0 : ((cW cy ad eb es mb mz tp os bits F G u nb ns T M id ft fo g dq ++ tl) ++ dy)[(cW cy ad eb es mb mz tp os bits F G u nb ns T M id ft fo g dq ++ tl).length + kf]? = some (fE fl ins q port far fpt ev) := app_r hfd
  have hnb := hB.le
  have hns := hS1.le
  have hjq : so j = b ∧ fa j = far ∧ fp j = fpt := by have h9 := tg_first_is (q := (fun k => decide (so k = b ∧ fa k = far ∧ fp k = fpt))) (n := ns) (by rw [hfj]; exact hj9); rw [hfj] at h9; exact of_decide_eq_true h9
  refine lv_aload_n hx hb dX10_admitFromInside_0 rfl (lv_at hl 0 rfl) ?_
  refine lv_aload_n hx hb dX10_admitFromInside_1 rfl (lv_at hl 1 rfl) ?_
  refine lv_lload_n hx hb dX10_admitFromInside_2 rfl (lv_at hl 2 rfl) ?_
  refine lv_lload hx hb dX10_admitFromInside_3 (lv_at hl 3 rfl) ?_
  refine ro_V S (c_X10_byInner hT hLb hB hb_pt hb_ih hb_il hb_ip hb_pn hb_op hf0 hq hport hfar hfpt hev (hi := hi) (lo := lo) (by omega) (by omega)) kw2_153 yv_X10_byInner ⟨Nat.le_of_ble_eq_true rfl, Nat.le_of_ble_eq_true rfl⟩ hK hP (va_recv hK hP (ci := 7) (q0 := 8) rfl rfl) rfl hl.1 rfl (Nat.le_of_ble_eq_true rfl) dX10_admitFromInside_5 ⟨(Nat.zero_le _), (Nat.zero_le _)⟩ ?_
  have eX : tg_at ba (fun k => decide (pt k = q ∧ ih k = hi ∧ il k = lo ∧ ip k = port)) nb = some (ba b) := by rw [tg_at, hfb, if_pos hb9]
  rw [eX]
  refine W.eq (g2 := F0 m 8 ls [.ref (ba b)]) rfl ?_
  refine lv_astore (lv' := [(7, .ref (ba b)), (0, .ref (ad 8)), (1, .ref fl), (2, .long (lN (hi))), (4, .long (lN (lo))), (6, .int (nI u9))]) hx hb dX10_admitFromInside_8 hl (by decide) rfl (fun ls hl => ?_)
  refine lv_aload_n hx hb dX10_admitFromInside_10 rfl (lv_at hl 1 rfl) ?_
  refine lv_aload hx hb dX10_admitFromInside_11 (lv_at hl 0 rfl) ?_
  refine lv_aload_n hx hb dX10_admitFromInside_13 rfl (lv_at hl 2 rfl) ?_
  have hD0 := hD
  refine wr_V S (c_X10_meetsSession1 hT hLb hB hLs hS1 hb_fa hb_fp hb_st hb_en hf0 hq hport hfar hfpt hev hb9 hj9 (b := b) (j := j) hjq (fun i hi => tg_first_min (n := ns) (by rw [hfj]; exact hi))) kw2_180 yv_X10_meetsSession ⟨Nat.le_of_ble_eq_true rfl, Nat.le_of_ble_eq_true rfl⟩ hK hP hD hS hA (va_recv hK hP (ci := 7) (q0 := 8) rfl rfl) rfl hl.1 rfl (Nat.le_of_ble_eq_true rfl) dX10_admitFromInside_14 ⟨(Nat.zero_le _), (Nat.zero_le _)⟩ (fun u1 H locs hu1 hP hD hS => ?_)
  obtain ⟨kd, hkd⟩ := hDY.2.1.at hj9
  have ek := dy_place hD0 hu1 hkd rfl
  rw [ek, app_setr] at hP hD
  have hDY2 := (⟨hDY.1.setS (x := (0, .inr (0, []))) hkd, TS1.meet hDY.2.1 hj9 hkd, hDY.2.2⟩ : DY cy e0.1 (dy.set kd (sE (sa j) (ba (so j)) (fa j) (fp j) (if tg_nxt (st j) ev ins = 8 then st j else tg_nxt (st j) ev ins) (if tg_nxt (st j) ev ins = 8 then en j else T + tg_life (tg_nxt (st j) ev ins) q))) eb es nb ns ba sa pt ih il ip pn op so fa fp (va_up st j (if tg_nxt (st j) ev ins = 8 then st j else tg_nxt (st j) ev ins)) (va_up en j (if tg_nxt (st j) ev ins = 8 then en j else T + tg_life (tg_nxt (st j) ev ins) q)))
  rw [va_up_if, va_up_if] at hDY2
  have hfd2 : (dy.set kd (sE (sa j) (ba (so j)) (fa j) (fp j) (if tg_nxt (st j) ev ins = 8 then st j else tg_nxt (st j) ev ins) (if tg_nxt (st j) ev ins = 8 then en j else T + tg_life (tg_nxt (st j) ev ins) q)))[kf]? = some (fE fl ins q port far fpt ev) := (List.getElem?_set_ne (lst_ne hkd hfd (by intro h9; injection h9 with _ h8; injection h8 with h7; injection h7 with h6; cases h6))).trans hfd
  have hP : va_P D vwCl ((cW cy ad eb es mb mz tp os bits F G u nb ns T M id ft fo g dq ++ tl) ++ (dy.set kd (sE (sa j) (ba (so j)) (fa j) (fp j) (if tg_nxt (st j) ev ins = 8 then st j else tg_nxt (st j) ev ins) (if tg_nxt (st j) ev ins = 8 then en j else T + tg_life (tg_nxt (st j) ev ins) q)))) H := hP
  have hD : va_D A ((cW cy ad eb es mb mz tp os bits F G u nb ns T M id ft fo g dq ++ tl) ++ (dy.set kd (sE (sa j) (ba (so j)) (fa j) (fp j) (if tg_nxt (st j) ev ins = 8 then st j else tg_nxt (st j) ev ins) (if tg_nxt (st j) ev ins = 8 then en j else T + tg_life (tg_nxt (st j) ev ins) q)))) := hD
  refine W.eq (g2 := F0 m 17 ls [.int (bI (true))]) rfl ?_
  refine nv_if_eqb (tgt := 23) hx hb dX10_admitFromInside_17 (by decide) (fun h => absurd h (by decide)) (fun _ => ?_)
  refine lv_aload hx hb dX10_admitFromInside_20 (lv_at hl 0 rfl) ?_
  exact hend _ rfl ⟨hDY2, hfd2⟩ hP hD hS dX10_admitFromInside_22
set_option maxHeartbeats 4000000 in
set_option maxRecDepth 100000 in
theorem c_X10_admitFromInside2 {l : Launch} {D : va_G} {cy : Nat → ClassId} {e0 : Nat × Nat} {ad : Nat → Nat} {tl dy : va_W} {eb es tp os bits F G u nb ns T M id : Nat} {mb mz : Int32} {ft fo : Nat → UInt8} {g : Nat → Int32} {dq ba sa pt ih il ip pn op so fa fp st en : Nat → Nat} (hDY : DY cy e0.1 dy eb es nb ns ba sa pt ih il ip pn op so fa fp st en) (hb_pt : ∀ i, pt i < 2 ^ 31) (hb_ih : ∀ i, ih i < 2 ^ 64) (hb_il : ∀ i, il i < 2 ^ 64) (hb_ip : ∀ i, ip i < 2 ^ 31) (hb_pn : ∀ i, pn i < 2 ^ 31) (hb_op : ∀ i, op i < 2 ^ 31) (hb_fa : ∀ i, fa i < 2 ^ 32) (hb_fp : ∀ i, fp i < 2 ^ 31) (hb_st : ∀ i, st i ≤ 7) (hb_en : ∀ i, en i < 2 ^ 62) {kf fl q port far fpt ev : Nat} {ins : Bool} (hfd : dy[kf]? = some (fE fl ins q port far fpt ev)) (hq : q < 256) (hport : port < 65536) (hfar : far < 2 ^ 32) (hfpt : fpt < 65536) (hev : ev ≤ 3) (hb_pn4 : ∀ i, pn i < 4) {hi lo : Nat} (hhi : hi < 2 ^ 64) (hlo : lo < 2 ^ 64) {u9 : Nat} (hu0 : 1 ≤ u9) (hu4 : u9 ≤ 4) {b : Nat} (hb9 : b < nb) (hfb : tg_first (fun k => decide (pt k = q ∧ ih k = hi ∧ il k = lo ∧ ip k = port)) nb = b) (hfj : ¬ tg_first (fun k => decide (so k = b ∧ fa k = far ∧ fp k = fpt)) ns < ns) (hmay : (q ≠ 6 ∨ ev = 2) ∧ ns < 128) : WRX (S := (Nat × Nat × va_W)) l yX10_admitFromInside cX10_admitFromInside 9 (some (.object "TransitGate$Binding")) 7 2 305 161 [.ref (ad 8), .ref fl, .long (lN (hi)), .long (lN (lo)), .int (nI u9)] D cy e0 ((cW cy ad eb es mb mz tp os bits F G u nb ns T M id ft fo g dq ++ tl) ++ dy) (fun u_ => some (va_rf (some (ba b)))) (fun z9 => DY cy e0.1 z9.2.2 eb z9.2.1 nb (ns + 1) ba (va_up sa ns z9.1) pt ih il ip pn op (va_up so ns b) (va_up fa ns far) (va_up fp ns fpt) (va_up st ns (tg_first_st q ins)) (va_up en ns (T + tg_life (tg_first_st q ins) q)) ∧ z9.2.2[kf]? = some (fE fl ins q port far fpt ev)) (fun z9 => (cW cy ad eb z9.2.1 mb (mz + nI 1) tp os bits F G u nb (ns + 1) T M id ft fo g dq ++ tl) ++ z9.2.2) := by
  refine WRXr (by first | exact Or.inl ⟨_, rfl⟩ | exact Or.inr ⟨_, rfl⟩) (by decide) (lv0 := [(0, .ref (ad 8)), (1, .ref fl), (2, .long (lN (hi))), (4, .long (lN (lo))), (6, .int (nI u9))]) rfl (Nat.le_of_ble_eq_true rfl) ?_
  intro p e s m args below meth c ls A Q S hnm hP hK hD hS hA hE hend hl
  have hx := S.1
  have hb := S.2.1
  have hown : s.vm.findClass RX10 = some m.cls := S.2.2.2.1
  have ht : ∀ w ∈ lw_g, w.before args s = true := fun w h => S.2.2.2.2 w (List.mem_cons_of_mem _ h)
  have hP : va_P D vwCl ((cW cy ad eb es mb mz tp os bits F G u nb ns T M id ft fo g dq ++ tl) ++ dy) s.heap := hP
  have hT : ((cW cy ad eb es mb mz tp os bits F G u nb ns T M id ft fo g dq ++ tl) ++ dy)[8]? = some (tE (ad 8) (ad 9) (ad 10) T) := rfl
  have hLb : ((cW cy ad eb es mb mz tp os bits F G u nb ns T M id ft fo g dq ++ tl) ++ dy)[9]? = some (aL (ad 9) mb eb nb) := rfl
  have hLs : ((cW cy ad eb es mb mz tp os bits F G u nb ns T M id ft fo g dq ++ tl) ++ dy)[10]? = some (aL (ad 10) mz es ns) := rfl
  have hB : TB1 cy ((cW cy ad eb es mb mz tp os bits F G u nb ns T M id ft fo g dq ++ tl) ++ dy) e0.1 eb nb ba pt ih il ip pn op := hDY.1.app
  have hS1 : TS1 cy ((cW cy ad eb es mb mz tp os bits F G u nb ns T M id ft fo g dq ++ tl) ++ dy) e0.1 es ns nb ba sa so fa fp st en := hDY.2.1.app
  have hf0 : ((cW cy ad eb es mb mz tp os bits F G u nb ns T M id ft fo g dq ++ tl) ++ dy)[(cW cy ad eb es mb mz tp os bits F G u nb ns T M id ft fo g dq ++ tl).length + kf]? = some (fE fl ins q port far fpt ev) := app_r hfd
  have hnb := hB.le
  have hns := hS1.le
  refine lv_aload_n hx hb dX10_admitFromInside_0 rfl (lv_at hl 0 rfl) ?_
  refine lv_aload_n hx hb dX10_admitFromInside_1 rfl (lv_at hl 1 rfl) ?_
  refine lv_lload_n hx hb dX10_admitFromInside_2 rfl (lv_at hl 2 rfl) ?_
  refine lv_lload hx hb dX10_admitFromInside_3 (lv_at hl 3 rfl) ?_
  refine ro_V S (c_X10_byInner hT hLb hB hb_pt hb_ih hb_il hb_ip hb_pn hb_op hf0 hq hport hfar hfpt hev (hi := hi) (lo := lo) (by omega) (by omega)) kw2_153 yv_X10_byInner ⟨Nat.le_of_ble_eq_true rfl, Nat.le_of_ble_eq_true rfl⟩ hK hP (va_recv hK hP (ci := 7) (q0 := 8) rfl rfl) rfl hl.1 rfl (Nat.le_of_ble_eq_true rfl) dX10_admitFromInside_5 ⟨(by show _ ≤ 2; omega), (by show _ ≤ 305; omega)⟩ ?_
  have eX : tg_at ba (fun k => decide (pt k = q ∧ ih k = hi ∧ il k = lo ∧ ip k = port)) nb = some (ba b) := by rw [tg_at, hfb, if_pos hb9]
  rw [eX]
  refine W.eq (g2 := F0 m 8 ls [.ref (ba b)]) rfl ?_
  refine lv_astore (lv' := [(7, .ref (ba b)), (0, .ref (ad 8)), (1, .ref fl), (2, .long (lN (hi))), (4, .long (lN (lo))), (6, .int (nI u9))]) hx hb dX10_admitFromInside_8 hl (by decide) rfl (fun ls hl => ?_)
  refine lv_aload_n hx hb dX10_admitFromInside_10 rfl (lv_at hl 1 rfl) ?_
  refine lv_aload hx hb dX10_admitFromInside_11 (lv_at hl 0 rfl) ?_
  refine lv_aload_n hx hb dX10_admitFromInside_13 rfl (lv_at hl 2 rfl) ?_
  refine ro_V S (c_X10_meetsSession0 hT hLb hB hLs hS1 hb_fa hb_fp hb_st hb_en hf0 hq hport hfar hfpt hev hb9 (tg_first_no hfj)) kw2_180 yv_X10_meetsSession ⟨Nat.le_of_ble_eq_true rfl, Nat.le_of_ble_eq_true rfl⟩ hK hP (va_recv hK hP (ci := 7) (q0 := 8) rfl rfl) rfl hl.1 rfl (Nat.le_of_ble_eq_true rfl) dX10_admitFromInside_14 ⟨(by show _ ≤ 2; omega), (by show _ ≤ 305; omega)⟩ ?_
  refine nv_if_eqb (tgt := 23) hx hb dX10_admitFromInside_17 (by decide) (fun _ => ?_) (fun h => absurd h (by decide))
  refine lv_aload hx hb dX10_admitFromInside_23 (lv_at hl 0 rfl) ?_
  refine lv_ifnonnull (tgt := 44) hx hb dX10_admitFromInside_25 (by decide) ?_
  refine nv_iconst (k := 0) hx hb dX10_admitFromInside_44 rfl ?_
  refine lv_istore (lv' := [(8, .int (nI 0)), (7, .ref (ba b)), (0, .ref (ad 8)), (1, .ref fl), (2, .long (lN (hi))), (4, .long (lN (lo))), (6, .int (nI u9))]) hx hb dX10_admitFromInside_45 hl (by decide) rfl (fun ls hl => ?_)
  refine lv_iload hx hb dX10_admitFromInside_47 (lv_at hl 0 rfl) ?_
  refine nv_if_ne (tgt := 60) hx hb dX10_admitFromInside_49 (by decide) (by omega) (fun h => absurd h (by decide)) (fun _ => ?_)
  refine lv_aload_n hx hb dX10_admitFromInside_52 rfl (lv_at hl 2 rfl) ?_
  refine lv_aload_n hx hb dX10_admitFromInside_53 rfl (lv_at hl 3 rfl) ?_
  refine ro_V S (c_X10_mayAddSession hT hLs (by omega) hf0 hq hport hfar hfpt hev) kw2_197 yv_X10_mayAddSession ⟨Nat.le_of_ble_eq_true rfl, Nat.le_of_ble_eq_true rfl⟩ hK hP (va_recv hK hP (ci := 7) (q0 := 8) rfl rfl) rfl hl.1 rfl (Nat.le_of_ble_eq_true rfl) dX10_admitFromInside_54 ⟨(by show _ ≤ 2; omega), (by show _ ≤ 305; omega)⟩ ?_
  refine nv_if_neb (tgt := 62) hx hb dX10_admitFromInside_57 (by decide) (fun h57 => ?_) (fun h57 => ?_)
  · skip
    refine lv_aload hx hb dX10_admitFromInside_62 (lv_at hl 1 rfl) ?_
    refine lv_ifnonnull (tgt := 79) hx hb dX10_admitFromInside_64 (by decide) ?_
    refine lv_aload_n hx hb dX10_admitFromInside_79 rfl (lv_at hl 2 rfl) ?_
    refine va_get (ci := 7) (C := RX10) (T := TX10) (N := 3) hx hb ht iFX10 hown hK hP 8 rfl rfl 1 (by decide) (ht _ kw1_114) (fun _ h9 => h9) rfl dX10_admitFromInside_80 ?_
    refine va_new (ci := 5) (fs := [.null, .int 0, .int 0, .int 0, .long 0]) (C := RX7) (T := TX7) (N := 5) hx hb ht iFX7 tyX7 tyX7_ok hown (ht _ kw2_184) (ht _ kw2_192) (ht _ kw1_17) hK hP hD hS hA rfl (fun j hj => by rcases (show j = 0 ∨ j = 1 ∨ j = 2 ∨ j = 3 ∨ j = 4 by omega) with rfl | rfl | rfl | rfl | rfl <;> rfl) (by show _ ≤ 2; omega) (by show _ ≤ 305; omega) dX10_admitFromInside_83 (fun o_1 H hP hD hS => ?_)
    have hfr9 := app_new hD
    refine lv_dup hx hb dX10_admitFromInside_86 rfl ?_
    refine lv_aload hx hb dX10_admitFromInside_87 (lv_at hl 1 rfl) ?_
    refine lv_aload_n hx hb dX10_admitFromInside_89 rfl (lv_at hl 3 rfl) ?_
    refine lv_aload_n hx hb dX10_admitFromInside_90 rfl (lv_at hl 2 rfl) ?_
    refine va_get (ci := 7) (C := RX10) (T := TX10) (N := 3) hx hb ht iFX10 hown hK hP 8 rfl rfl 2 (by decide) (ht _ kw1_115) (fun _ h9 => h9) rfl dX10_admitFromInside_91 ?_
    refine wr_I S (c_X7_init (w0 := (cW cy ad eb es mb mz tp os bits F G u nb ns T M id ft fo g dq ++ tl) ++ dy) (x9 := o_1) hf0 hq hport hfar hfpt hev (ow := (ba b)) (T := T)) kw3_80 yv_X7_init ⟨Nat.le_of_ble_eq_true rfl, Nat.le_of_ble_eq_true rfl⟩ hK hP hD hS hA rfl hl.1 rfl (Nat.le_of_ble_eq_true rfl) dX10_admitFromInside_94 ⟨(by show _ ≤ 2; omega), (by show _ ≤ 305; omega)⟩ (fun u94 H locs hu94 hP hD hS => ?_)
    rw [List.append_assoc] at hP hD
    have hP : va_P D vwCl ((cW cy ad eb es mb mz tp os bits F G u nb ns T M id ft fo g dq ++ tl) ++ (dy ++ [sE o_1 ((ba b)) far fpt (tg_first_st q ins) (T + tg_life (tg_first_st q ins) q)])) H := hP
    have hD : va_D A ((cW cy ad eb es mb mz tp os bits F G u nb ns T M id ft fo g dq ++ tl) ++ (dy ++ [sE o_1 ((ba b)) far fpt (tg_first_st q ins) (T + tg_life (tg_first_st q ins) q)])) := hD
    refine W.eq (g2 := F0 m 97 ls [.ref o_1, .ref (ad 10)]) rfl ?_
    have hDx : DY cy e0.1 (dy ++ [sE o_1 ((ba b)) far fpt (tg_first_st q ins) (T + tg_life (tg_first_st q ins) q)]) eb es nb ns ba sa pt ih il ip pn op so fa fp st en := hDY.ext
    have he9 := e0_outr hE hD
    obtain ⟨Nx, fx, hADx, hnx, h3x, h4x⟩ := hDx.2.1
    refine wx_V S (c_add (pre := (cW cy ad eb es mb mz tp os bits F G u nb ns T M id ft fo g dq ++ tl)) (dy := dy ++ [sE o_1 ((ba b)) far fpt (tg_first_st q ins) (T + tg_life (tg_first_st q ins) q)]) (kl := 10) rfl hADx (by omega) (TS1.obj (N := Nx) h3x) (ci := 5) rfl (Or.inr rfl) (by decide) (kx := dy.length) app_e) kw3_27 yv_Jx4a65c_add_9ea2d ⟨Nat.le_of_ble_eq_true rfl, Nat.le_of_ble_eq_true rfl⟩ hK hP hD hS hA hE (va_recv hK hP (ci := 0) (q0 := 10) rfl rfl) rfl hl.1 rfl (Nat.le_of_ble_eq_true rfl) dX10_admitFromInside_97 ⟨(by show _ ≤ 2; omega), (by show _ ≤ 305; omega)⟩ (fun u97 H locs hu97 hP hD hS => ?_)
    have hP : va_P D vwCl ((cW cy ad eb u97.1 mb (mz + nI 1) tp os bits F G u nb (ns + 1) T M id ft fo g dq ++ tl) ++ u97.2.2.2) H := hP
    have hD : va_D A ((cW cy ad eb u97.1 mb (mz + nI 1) tp os bits F G u nb (ns + 1) T M id ft fo g dq ++ tl) ++ u97.2.2.2) := hD
    have hDY_2 : DY cy e0.1 u97.2.2.2 eb u97.1 nb (ns + 1) ba (va_up sa ns o_1) pt ih il ip pn op (va_up so ns b) (va_up fa ns far) (va_up fp ns fpt) (va_up st ns (tg_first_st q ins)) (va_up en ns (T + tg_life (tg_first_st q ins) q)) := ⟨hDx.1.kp hu97.2.2.2.2.2.2.1 (fun e => hDx.2.2 e.symm) he9, TS1.add (N := Nx) (b := b) h3x h4x (by omega) (by omega) app_e (hS1.fresh hfr9) hu97, DY.ne_addS hDx (fun _ h9 => h9) hu97⟩
    have hfd_3 : (u97.2.2.2)[kf]? = some (fE fl ins q port far fpt ev) := hu97.2.2.2.2.2.2.1 kf _ (app_l hfd) (Or.inl ⟨_, rfl⟩)
    have hT : ((cW cy ad eb u97.1 mb (mz + nI 1) tp os bits F G u nb (ns + 1) T M id ft fo g dq ++ tl) ++ u97.2.2.2)[8]? = some (tE (ad 8) (ad 9) (ad 10) T) := rfl
    have hLb : ((cW cy ad eb u97.1 mb (mz + nI 1) tp os bits F G u nb (ns + 1) T M id ft fo g dq ++ tl) ++ u97.2.2.2)[9]? = some (aL (ad 9) mb eb nb) := rfl
    have hLs : ((cW cy ad eb u97.1 mb (mz + nI 1) tp os bits F G u nb (ns + 1) T M id ft fo g dq ++ tl) ++ u97.2.2.2)[10]? = some (aL (ad 10) (mz + nI 1) u97.1 (ns + 1)) := rfl
    have hB : TB1 cy ((cW cy ad eb u97.1 mb (mz + nI 1) tp os bits F G u nb (ns + 1) T M id ft fo g dq ++ tl) ++ u97.2.2.2) e0.1 eb nb ba pt ih il ip pn op := hDY_2.1.app
    have hS1 : TS1 cy ((cW cy ad eb u97.1 mb (mz + nI 1) tp os bits F G u nb (ns + 1) T M id ft fo g dq ++ tl) ++ u97.2.2.2) e0.1 u97.1 (ns + 1) nb ba (va_up sa ns o_1) (va_up so ns b) (va_up fa ns far) (va_up fp ns fpt) (va_up st ns (tg_first_st q ins)) (va_up en ns (T + tg_life (tg_first_st q ins) q)) := hDY_2.2.1.app
    have hf0 : ((cW cy ad eb u97.1 mb (mz + nI 1) tp os bits F G u nb (ns + 1) T M id ft fo g dq ++ tl) ++ u97.2.2.2)[(cW cy ad eb u97.1 mb (mz + nI 1) tp os bits F G u nb (ns + 1) T M id ft fo g dq ++ tl).length + kf]? = some (fE fl ins q port far fpt ev) := app_r hfd_3
    refine W.eq (g2 := F0 m 100 ls [.int (bI (true))]) rfl ?_
    refine lv_pop hx hb dX10_admitFromInside_100 rfl ?_
    refine lv_aload hx hb dX10_admitFromInside_101 (lv_at hl 1 rfl) ?_
    refine W.widen (k := 2) (n := 305) (by omega) (by omega) ?_
    exact hend (o_1, u97.1, u97.2.2.2) rfl ⟨hDY_2, hfd_3⟩ hP hD hS dX10_admitFromInside_103
  exact absurd hmay (of_decide_eq_false h57)
set_option maxHeartbeats 4000000 in
set_option maxRecDepth 100000 in
theorem c_X10_admitFromInside3 {l : Launch} {D : va_G} {cy : Nat → ClassId} {e0 : Nat × Nat} {ad : Nat → Nat} {tl dy : va_W} {eb es tp os bits F G u nb ns T M id : Nat} {mb mz : Int32} {ft fo : Nat → UInt8} {g : Nat → Int32} {dq ba sa pt ih il ip pn op so fa fp st en : Nat → Nat} (hDY : DY cy e0.1 dy eb es nb ns ba sa pt ih il ip pn op so fa fp st en) (hb_pt : ∀ i, pt i < 2 ^ 31) (hb_ih : ∀ i, ih i < 2 ^ 64) (hb_il : ∀ i, il i < 2 ^ 64) (hb_ip : ∀ i, ip i < 2 ^ 31) (hb_pn : ∀ i, pn i < 2 ^ 31) (hb_op : ∀ i, op i < 2 ^ 31) (hb_fa : ∀ i, fa i < 2 ^ 32) (hb_fp : ∀ i, fp i < 2 ^ 31) (hb_st : ∀ i, st i ≤ 7) (hb_en : ∀ i, en i < 2 ^ 62) {kf fl q port far fpt ev : Nat} {ins : Bool} (hfd : dy[kf]? = some (fE fl ins q port far fpt ev)) (hq : q < 256) (hport : port < 65536) (hfar : far < 2 ^ 32) (hfpt : fpt < 65536) (hev : ev ≤ 3) (hb_pn4 : ∀ i, pn i < 4) {hi lo : Nat} (hhi : hi < 2 ^ 64) (hlo : lo < 2 ^ 64) {u9 : Nat} (hu0 : 1 ≤ u9) (hu4 : u9 ≤ 4) (hfb : ¬ tg_first (fun k => decide (pt k = q ∧ ih k = hi ∧ il k = lo ∧ ip k = port)) nb < nb) (hmay : (q ≠ 6 ∨ ev = 2) ∧ ns < 128) (hnb0 : nb < 64) : WRX (S := (Nat × Nat × Nat × Nat × va_W)) l yX10_admitFromInside cX10_admitFromInside 9 (some (.object "TransitGate$Binding")) 8 4 611 190 [.ref (ad 8), .ref fl, .long (lN (hi)), .long (lN (lo)), .int (nI u9)] D cy e0 ((cW cy ad eb es mb mz tp os bits F G u nb ns T M id ft fo g dq ++ tl) ++ dy) (fun u_ => some (va_rf (some u_.1))) (fun z9 => DY cy e0.1 z9.2.2.2.2 z9.2.1 z9.2.2.2.1 (nb + 1) (ns + 1) (va_up ba nb z9.1) (va_up sa ns z9.2.2.1) (va_up pt nb q) (va_up ih nb hi) (va_up il nb lo) (va_up ip nb port) (va_up pn nb (tg_best ih il pn nb u9 hi lo)) (va_up op nb (tg_port pt pn op nb q (tg_best ih il pn nb u9 hi lo) port)) (va_up so ns nb) (va_up fa ns far) (va_up fp ns fpt) (va_up st ns (tg_first_st q ins)) (va_up en ns (T + tg_life (tg_first_st q ins) q)) ∧ z9.2.2.2.2[kf]? = some (fE fl ins q port far fpt ev)) (fun z9 => (cW cy ad z9.2.1 z9.2.2.2.1 (mb + nI 1) (mz + nI 1) tp os bits F G u (nb + 1) (ns + 1) T M id ft fo g dq ++ tl) ++ z9.2.2.2.2) := by
  refine WRXr (by first | exact Or.inl ⟨_, rfl⟩ | exact Or.inr ⟨_, rfl⟩) (by decide) (lv0 := [(0, .ref (ad 8)), (1, .ref fl), (2, .long (lN (hi))), (4, .long (lN (lo))), (6, .int (nI u9))]) rfl (Nat.le_of_ble_eq_true rfl) ?_
  intro p e s m args below meth c ls A Q S hnm hP hK hD hS hA hE hend hl
  have hx := S.1
  have hb := S.2.1
  have hown : s.vm.findClass RX10 = some m.cls := S.2.2.2.1
  have ht : ∀ w ∈ lw_g, w.before args s = true := fun w h => S.2.2.2.2 w (List.mem_cons_of_mem _ h)
  have hP : va_P D vwCl ((cW cy ad eb es mb mz tp os bits F G u nb ns T M id ft fo g dq ++ tl) ++ dy) s.heap := hP
  have hT : ((cW cy ad eb es mb mz tp os bits F G u nb ns T M id ft fo g dq ++ tl) ++ dy)[8]? = some (tE (ad 8) (ad 9) (ad 10) T) := rfl
  have hLb : ((cW cy ad eb es mb mz tp os bits F G u nb ns T M id ft fo g dq ++ tl) ++ dy)[9]? = some (aL (ad 9) mb eb nb) := rfl
  have hLs : ((cW cy ad eb es mb mz tp os bits F G u nb ns T M id ft fo g dq ++ tl) ++ dy)[10]? = some (aL (ad 10) mz es ns) := rfl
  have hB : TB1 cy ((cW cy ad eb es mb mz tp os bits F G u nb ns T M id ft fo g dq ++ tl) ++ dy) e0.1 eb nb ba pt ih il ip pn op := hDY.1.app
  have hS1 : TS1 cy ((cW cy ad eb es mb mz tp os bits F G u nb ns T M id ft fo g dq ++ tl) ++ dy) e0.1 es ns nb ba sa so fa fp st en := hDY.2.1.app
  have hf0 : ((cW cy ad eb es mb mz tp os bits F G u nb ns T M id ft fo g dq ++ tl) ++ dy)[(cW cy ad eb es mb mz tp os bits F G u nb ns T M id ft fo g dq ++ tl).length + kf]? = some (fE fl ins q port far fpt ev) := app_r hfd
  have hnb := hB.le
  have hns := hS1.le
  refine lv_aload_n hx hb dX10_admitFromInside_0 rfl (lv_at hl 0 rfl) ?_
  refine lv_aload_n hx hb dX10_admitFromInside_1 rfl (lv_at hl 1 rfl) ?_
  refine lv_lload_n hx hb dX10_admitFromInside_2 rfl (lv_at hl 2 rfl) ?_
  refine lv_lload hx hb dX10_admitFromInside_3 (lv_at hl 3 rfl) ?_
  refine ro_V S (c_X10_byInner hT hLb hB hb_pt hb_ih hb_il hb_ip hb_pn hb_op hf0 hq hport hfar hfpt hev (hi := hi) (lo := lo) (by omega) (by omega)) kw2_153 yv_X10_byInner ⟨Nat.le_of_ble_eq_true rfl, Nat.le_of_ble_eq_true rfl⟩ hK hP (va_recv hK hP (ci := 7) (q0 := 8) rfl rfl) rfl hl.1 rfl (Nat.le_of_ble_eq_true rfl) dX10_admitFromInside_5 ⟨(by show _ ≤ 4; omega), (by show _ ≤ 611; omega)⟩ ?_
  have eX : tg_at ba (fun k => decide (pt k = q ∧ ih k = hi ∧ il k = lo ∧ ip k = port)) nb = none := if_neg hfb
  rw [eX]
  refine W.eq (g2 := F0 m 8 ls [.null]) rfl ?_
  refine lv_astoreN (lv' := [(7, .null), (0, .ref (ad 8)), (1, .ref fl), (2, .long (lN (hi))), (4, .long (lN (lo))), (6, .int (nI u9))]) hx hb dX10_admitFromInside_8 hl (by decide) rfl (fun ls hl => ?_)
  refine lv_aload_n hx hb dX10_admitFromInside_10 rfl (lv_at hl 1 rfl) ?_
  refine lv_aloadN hx hb dX10_admitFromInside_11 (lv_at hl 0 rfl) ?_
  refine lv_aload_n hx hb dX10_admitFromInside_13 rfl (lv_at hl 2 rfl) ?_
  refine ro_V S (c_X10_meetsSessionN hT hLs hS1 hb_fa hb_fp hb_st hb_en hf0 hq hport hfar hfpt hev) kw2_180 yv_X10_meetsSession ⟨Nat.le_of_ble_eq_true rfl, Nat.le_of_ble_eq_true rfl⟩ hK hP (va_recv hK hP (ci := 7) (q0 := 8) rfl rfl) rfl hl.1 rfl (Nat.le_of_ble_eq_true rfl) dX10_admitFromInside_14 ⟨(by show _ ≤ 4; omega), (by show _ ≤ 611; omega)⟩ ?_
  refine nv_if_eqb (tgt := 23) hx hb dX10_admitFromInside_17 (by decide) (fun _ => ?_) (fun h => absurd h (by decide))
  refine lv_aloadN hx hb dX10_admitFromInside_23 (lv_at hl 0 rfl) ?_
  refine lv_ifnonnullN hx hb dX10_admitFromInside_25 ?_
  refine lv_aload_n hx hb dX10_admitFromInside_28 rfl (lv_at hl 1 rfl) ?_
  refine va_get (ci := 7) (C := RX10) (T := TX10) (N := 3) hx hb ht iFX10 hown hK hP 8 rfl rfl 0 (by decide) (ht _ kw1_113) (fun _ h9 => h9) rfl dX10_admitFromInside_29 ?_
  refine ro_V S (c_Jx4a65c_size_8abf5 hLb) kw2_157 yv_Jx4a65c_size_8abf5 ⟨Nat.le_of_ble_eq_true rfl, Nat.le_of_ble_eq_true rfl⟩ hK hP (va_recv hK hP (ci := 0) (q0 := 9) rfl rfl) rfl hl.1 rfl (Nat.le_of_ble_eq_true rfl) dX10_admitFromInside_32 ⟨(by show _ ≤ 4; omega), (by show _ ≤ 611; omega)⟩ ?_
  refine nv_bipush (k := 64) hx hb dX10_admitFromInside_35 (by decide) ?_
  refine nv_icmp_lt (tgt := 44) hx hb dX10_admitFromInside_37 (by decide) (by omega) (by omega) (fun h37 => ?_) (fun h37 => ?_)
  · skip
    refine nv_iconst (k := 0) hx hb dX10_admitFromInside_44 rfl ?_
    refine lv_istore (lv' := [(8, .int (nI 0)), (7, .null), (0, .ref (ad 8)), (1, .ref fl), (2, .long (lN (hi))), (4, .long (lN (lo))), (6, .int (nI u9))]) hx hb dX10_admitFromInside_45 hl (by decide) rfl (fun ls hl => ?_)
    refine lv_iload hx hb dX10_admitFromInside_47 (lv_at hl 0 rfl) ?_
    refine nv_if_ne (tgt := 60) hx hb dX10_admitFromInside_49 (by decide) (by omega) (fun h => absurd h (by decide)) (fun _ => ?_)
    refine lv_aload_n hx hb dX10_admitFromInside_52 rfl (lv_at hl 2 rfl) ?_
    refine lv_aload_n hx hb dX10_admitFromInside_53 rfl (lv_at hl 3 rfl) ?_
    refine ro_V S (c_X10_mayAddSession hT hLs (by omega) hf0 hq hport hfar hfpt hev) kw2_197 yv_X10_mayAddSession ⟨Nat.le_of_ble_eq_true rfl, Nat.le_of_ble_eq_true rfl⟩ hK hP (va_recv hK hP (ci := 7) (q0 := 8) rfl rfl) rfl hl.1 rfl (Nat.le_of_ble_eq_true rfl) dX10_admitFromInside_54 ⟨(by show _ ≤ 4; omega), (by show _ ≤ 611; omega)⟩ ?_
    refine nv_if_neb (tgt := 62) hx hb dX10_admitFromInside_57 (by decide) (fun h57 => ?_) (fun h57 => ?_)
    · skip
      refine lv_aloadN hx hb dX10_admitFromInside_62 (lv_at hl 1 rfl) ?_
      refine lv_ifnonnullN hx hb dX10_admitFromInside_64 ?_
      refine lv_aload_n hx hb dX10_admitFromInside_67 rfl (lv_at hl 2 rfl) ?_
      refine lv_aload_n hx hb dX10_admitFromInside_68 rfl (lv_at hl 3 rfl) ?_
      refine lv_lload_n hx hb dX10_admitFromInside_69 rfl (lv_at hl 4 rfl) ?_
      refine lv_lload hx hb dX10_admitFromInside_70 (lv_at hl 5 rfl) ?_
      refine lv_iload hx hb dX10_admitFromInside_72 (lv_at hl 6 rfl) ?_
      refine wx_V S (c_X10_bind hDY hb_pt hb_ih hb_il hb_ip hb_pn hb_op hb_fa hb_fp hb_st hb_en hfd hq hport hfar hfpt hev hb_pn4 (hi := hi) (lo := lo) hhi hlo (u9 := u9) hu0 hu4 (by omega)) kw2_205 yv_X10_bind ⟨Nat.le_of_ble_eq_true rfl, Nat.le_of_ble_eq_true rfl⟩ hK hP hD hS hA hE (va_recv hK hP (ci := 7) (q0 := 8) rfl rfl) rfl hl.1 rfl (Nat.le_of_ble_eq_true rfl) dX10_admitFromInside_74 ⟨(by show _ ≤ 4; omega), (by show _ ≤ 611; omega)⟩ (fun u74 H locs hu74 hP hD hS => ?_)
      have hP : va_P D vwCl ((cW cy ad u74.2.1 es (mb + nI 1) mz tp os bits F G u (nb + 1) ns T M id ft fo g dq ++ tl) ++ u74.2.2) H := hP
      have hD : va_D A ((cW cy ad u74.2.1 es (mb + nI 1) mz tp os bits F G u (nb + 1) ns T M id ft fo g dq ++ tl) ++ u74.2.2) := hD
      have hT : ((cW cy ad u74.2.1 es (mb + nI 1) mz tp os bits F G u (nb + 1) ns T M id ft fo g dq ++ tl) ++ u74.2.2)[8]? = some (tE (ad 8) (ad 9) (ad 10) T) := rfl
      have hLb : ((cW cy ad u74.2.1 es (mb + nI 1) mz tp os bits F G u (nb + 1) ns T M id ft fo g dq ++ tl) ++ u74.2.2)[9]? = some (aL (ad 9) (mb + nI 1) u74.2.1 (nb + 1)) := rfl
      have hLs : ((cW cy ad u74.2.1 es (mb + nI 1) mz tp os bits F G u (nb + 1) ns T M id ft fo g dq ++ tl) ++ u74.2.2)[10]? = some (aL (ad 10) mz es ns) := rfl
      have hB : TB1 cy ((cW cy ad u74.2.1 es (mb + nI 1) mz tp os bits F G u (nb + 1) ns T M id ft fo g dq ++ tl) ++ u74.2.2) e0.1 u74.2.1 (nb + 1) (va_up ba nb u74.1) (va_up pt nb q) (va_up ih nb hi) (va_up il nb lo) (va_up ip nb port) (va_up pn nb (tg_best ih il pn nb u9 hi lo)) (va_up op nb (tg_port pt pn op nb q (tg_best ih il pn nb u9 hi lo) port)) := hu74.1.1.app
      have hS1 : TS1 cy ((cW cy ad u74.2.1 es (mb + nI 1) mz tp os bits F G u (nb + 1) ns T M id ft fo g dq ++ tl) ++ u74.2.2) e0.1 es ns (nb + 1) (va_up ba nb u74.1) sa so fa fp st en := hu74.1.2.1.app
      have hf0 : ((cW cy ad u74.2.1 es (mb + nI 1) mz tp os bits F G u (nb + 1) ns T M id ft fo g dq ++ tl) ++ u74.2.2)[(cW cy ad u74.2.1 es (mb + nI 1) mz tp os bits F G u (nb + 1) ns T M id ft fo g dq ++ tl).length + kf]? = some (fE fl ins q port far fpt ev) := app_r hu74.2
      refine W.eq (g2 := F0 m 77 ls [.ref u74.1]) rfl ?_
      refine lv_astore (lv' := [(7, .ref u74.1), (8, .int (nI 0)), (0, .ref (ad 8)), (1, .ref fl), (2, .long (lN (hi))), (4, .long (lN (lo))), (6, .int (nI u9))]) hx hb dX10_admitFromInside_77 hl (by decide) rfl (fun ls hl => ?_)
      refine lv_aload_n hx hb dX10_admitFromInside_79 rfl (lv_at hl 2 rfl) ?_
      refine va_get (ci := 7) (C := RX10) (T := TX10) (N := 3) hx hb ht iFX10 hown hK hP 8 rfl rfl 1 (by decide) (ht _ kw1_114) (fun _ h9 => h9) rfl dX10_admitFromInside_80 ?_
      refine va_new (ci := 5) (fs := [.null, .int 0, .int 0, .int 0, .long 0]) (C := RX7) (T := TX7) (N := 5) hx hb ht iFX7 tyX7 tyX7_ok hown (ht _ kw2_184) (ht _ kw2_192) (ht _ kw1_17) hK hP hD hS hA rfl (fun j hj => by rcases (show j = 0 ∨ j = 1 ∨ j = 2 ∨ j = 3 ∨ j = 4 by omega) with rfl | rfl | rfl | rfl | rfl <;> rfl) (by show _ ≤ 4; omega) (by show _ ≤ 611; omega) dX10_admitFromInside_83 (fun o_1 H hP hD hS => ?_)
      have hfr9 := app_new hD
      refine lv_dup hx hb dX10_admitFromInside_86 rfl ?_
      refine lv_aload hx hb dX10_admitFromInside_87 (lv_at hl 0 rfl) ?_
      refine lv_aload_n hx hb dX10_admitFromInside_89 rfl (lv_at hl 3 rfl) ?_
      refine lv_aload_n hx hb dX10_admitFromInside_90 rfl (lv_at hl 2 rfl) ?_
      refine va_get (ci := 7) (C := RX10) (T := TX10) (N := 3) hx hb ht iFX10 hown hK hP 8 rfl rfl 2 (by decide) (ht _ kw1_115) (fun _ h9 => h9) rfl dX10_admitFromInside_91 ?_
      refine wr_I S (c_X7_init (w0 := (cW cy ad u74.2.1 es (mb + nI 1) mz tp os bits F G u (nb + 1) ns T M id ft fo g dq ++ tl) ++ u74.2.2) (x9 := o_1) hf0 hq hport hfar hfpt hev (ow := u74.1) (T := T)) kw3_80 yv_X7_init ⟨Nat.le_of_ble_eq_true rfl, Nat.le_of_ble_eq_true rfl⟩ hK hP hD hS hA rfl hl.1 rfl (Nat.le_of_ble_eq_true rfl) dX10_admitFromInside_94 ⟨(by show _ ≤ 4; omega), (by show _ ≤ 611; omega)⟩ (fun u94 H locs hu94 hP hD hS => ?_)
      rw [List.append_assoc] at hP hD
      have hP : va_P D vwCl ((cW cy ad u74.2.1 es (mb + nI 1) mz tp os bits F G u (nb + 1) ns T M id ft fo g dq ++ tl) ++ (u74.2.2 ++ [sE o_1 u74.1 far fpt (tg_first_st q ins) (T + tg_life (tg_first_st q ins) q)])) H := hP
      have hD : va_D A ((cW cy ad u74.2.1 es (mb + nI 1) mz tp os bits F G u (nb + 1) ns T M id ft fo g dq ++ tl) ++ (u74.2.2 ++ [sE o_1 u74.1 far fpt (tg_first_st q ins) (T + tg_life (tg_first_st q ins) q)])) := hD
      refine W.eq (g2 := F0 m 97 ls [.ref o_1, .ref (ad 10)]) rfl ?_
      have hDx : DY cy e0.1 (u74.2.2 ++ [sE o_1 u74.1 far fpt (tg_first_st q ins) (T + tg_life (tg_first_st q ins) q)]) u74.2.1 es (nb + 1) ns (va_up ba nb u74.1) sa (va_up pt nb q) (va_up ih nb hi) (va_up il nb lo) (va_up ip nb port) (va_up pn nb (tg_best ih il pn nb u9 hi lo)) (va_up op nb (tg_port pt pn op nb q (tg_best ih il pn nb u9 hi lo) port)) so fa fp st en := hu74.1.ext
      have he9 := e0_outr hE hD
      obtain ⟨Nx, fx, hADx, hnx, h3x, h4x⟩ := hDx.2.1
      refine wx_V S (c_add (pre := (cW cy ad u74.2.1 es (mb + nI 1) mz tp os bits F G u (nb + 1) ns T M id ft fo g dq ++ tl)) (dy := u74.2.2 ++ [sE o_1 u74.1 far fpt (tg_first_st q ins) (T + tg_life (tg_first_st q ins) q)]) (kl := 10) rfl hADx (by omega) (TS1.obj (N := Nx) h3x) (ci := 5) rfl (Or.inr rfl) (by decide) (kx := u74.2.2.length) app_e) kw3_27 yv_Jx4a65c_add_9ea2d ⟨Nat.le_of_ble_eq_true rfl, Nat.le_of_ble_eq_true rfl⟩ hK hP hD hS hA hE (va_recv hK hP (ci := 0) (q0 := 10) rfl rfl) rfl hl.1 rfl (Nat.le_of_ble_eq_true rfl) dX10_admitFromInside_97 ⟨(by show _ ≤ 4; omega), (by show _ ≤ 611; omega)⟩ (fun u97 H locs hu97 hP hD hS => ?_)
      have hP : va_P D vwCl ((cW cy ad u74.2.1 u97.1 (mb + nI 1) (mz + nI 1) tp os bits F G u (nb + 1) (ns + 1) T M id ft fo g dq ++ tl) ++ u97.2.2.2) H := hP
      have hD : va_D A ((cW cy ad u74.2.1 u97.1 (mb + nI 1) (mz + nI 1) tp os bits F G u (nb + 1) (ns + 1) T M id ft fo g dq ++ tl) ++ u97.2.2.2) := hD
      have hDY_2 : DY cy e0.1 u97.2.2.2 u74.2.1 u97.1 (nb + 1) (ns + 1) (va_up ba nb u74.1) (va_up sa ns o_1) (va_up pt nb q) (va_up ih nb hi) (va_up il nb lo) (va_up ip nb port) (va_up pn nb (tg_best ih il pn nb u9 hi lo)) (va_up op nb (tg_port pt pn op nb q (tg_best ih il pn nb u9 hi lo) port)) (va_up so ns nb) (va_up fa ns far) (va_up fp ns fpt) (va_up st ns (tg_first_st q ins)) (va_up en ns (T + tg_life (tg_first_st q ins) q)) := ⟨hDx.1.kp hu97.2.2.2.2.2.2.1 (fun e => hDx.2.2 e.symm) he9, TS1.add (N := Nx) (b := nb) h3x h4x (by omega) (by omega) (by rw [va_up_self]; exact app_e) (hS1.fresh hfr9) hu97, DY.ne_addS hDx (fun _ h9 => h9) hu97⟩
      have hfd_3 : (u97.2.2.2)[kf]? = some (fE fl ins q port far fpt ev) := hu97.2.2.2.2.2.2.1 kf _ (app_l hu74.2) (Or.inl ⟨_, rfl⟩)
      have hT : ((cW cy ad u74.2.1 u97.1 (mb + nI 1) (mz + nI 1) tp os bits F G u (nb + 1) (ns + 1) T M id ft fo g dq ++ tl) ++ u97.2.2.2)[8]? = some (tE (ad 8) (ad 9) (ad 10) T) := rfl
      have hLb : ((cW cy ad u74.2.1 u97.1 (mb + nI 1) (mz + nI 1) tp os bits F G u (nb + 1) (ns + 1) T M id ft fo g dq ++ tl) ++ u97.2.2.2)[9]? = some (aL (ad 9) (mb + nI 1) u74.2.1 (nb + 1)) := rfl
      have hLs : ((cW cy ad u74.2.1 u97.1 (mb + nI 1) (mz + nI 1) tp os bits F G u (nb + 1) (ns + 1) T M id ft fo g dq ++ tl) ++ u97.2.2.2)[10]? = some (aL (ad 10) (mz + nI 1) u97.1 (ns + 1)) := rfl
      have hB : TB1 cy ((cW cy ad u74.2.1 u97.1 (mb + nI 1) (mz + nI 1) tp os bits F G u (nb + 1) (ns + 1) T M id ft fo g dq ++ tl) ++ u97.2.2.2) e0.1 u74.2.1 (nb + 1) (va_up ba nb u74.1) (va_up pt nb q) (va_up ih nb hi) (va_up il nb lo) (va_up ip nb port) (va_up pn nb (tg_best ih il pn nb u9 hi lo)) (va_up op nb (tg_port pt pn op nb q (tg_best ih il pn nb u9 hi lo) port)) := hDY_2.1.app
      have hS1 : TS1 cy ((cW cy ad u74.2.1 u97.1 (mb + nI 1) (mz + nI 1) tp os bits F G u (nb + 1) (ns + 1) T M id ft fo g dq ++ tl) ++ u97.2.2.2) e0.1 u97.1 (ns + 1) (nb + 1) (va_up ba nb u74.1) (va_up sa ns o_1) (va_up so ns nb) (va_up fa ns far) (va_up fp ns fpt) (va_up st ns (tg_first_st q ins)) (va_up en ns (T + tg_life (tg_first_st q ins) q)) := hDY_2.2.1.app
      have hf0 : ((cW cy ad u74.2.1 u97.1 (mb + nI 1) (mz + nI 1) tp os bits F G u (nb + 1) (ns + 1) T M id ft fo g dq ++ tl) ++ u97.2.2.2)[(cW cy ad u74.2.1 u97.1 (mb + nI 1) (mz + nI 1) tp os bits F G u (nb + 1) (ns + 1) T M id ft fo g dq ++ tl).length + kf]? = some (fE fl ins q port far fpt ev) := app_r hfd_3
      refine W.eq (g2 := F0 m 100 ls [.int (bI (true))]) rfl ?_
      refine lv_pop hx hb dX10_admitFromInside_100 rfl ?_
      refine lv_aload hx hb dX10_admitFromInside_101 (lv_at hl 0 rfl) ?_
      refine W.widen (k := 4) (n := 611) (by omega) (by omega) ?_
      exact hend (u74.1, u74.2.1, o_1, u97.1, u97.2.2.2) rfl ⟨hDY_2, hfd_3⟩ hP hD hS dX10_admitFromInside_103
    exact absurd hmay (of_decide_eq_false h57)
  exact absurd h37 (by omega)
set_option maxHeartbeats 4000000 in
set_option maxRecDepth 100000 in
theorem c_X10_admitFromInsidea {l : Launch} {D : va_G} {cy : Nat → ClassId} {ws : va_W} {kt tb lb ls T : Nat} (hT : ws[kt]? = some (tE tb lb ls T)) {kb eb nb e0 : Nat} {mb : Int32} (hLb : ws[kb]? = some (aL lb mb eb nb)) {ba pt ih il ip pn op : Nat → Nat} (hB : TB1 cy ws e0 eb nb ba pt ih il ip pn op) {kc es ns : Nat} {mc9 : Int32} (hLs : ws[kc]? = some (aL ls mc9 es ns)) {sa so fa fp st en : Nat → Nat} (hS1 : TS1 cy ws e0 es ns nb ba sa so fa fp st en) (hb_pt : ∀ i, pt i < 2 ^ 31) (hb_ih : ∀ i, ih i < 2 ^ 64) (hb_il : ∀ i, il i < 2 ^ 64) (hb_ip : ∀ i, ip i < 2 ^ 31) (hb_pn : ∀ i, pn i < 2 ^ 31) (hb_op : ∀ i, op i < 2 ^ 31) (hb_fa : ∀ i, fa i < 2 ^ 32) (hb_fp : ∀ i, fp i < 2 ^ 31) (hb_st : ∀ i, st i ≤ 7) (hb_en : ∀ i, en i < 2 ^ 62) {kf fl q port far fpt ev : Nat} {ins : Bool} (hf0 : ws[kf]? = some (fE fl ins q port far fpt ev)) (hq : q < 256) (hport : port < 65536) (hfar : far < 2 ^ 32) (hfpt : fpt < 65536) (hev : ev ≤ 3) (hb_pn4 : ∀ i, pn i < 4) {hi lo : Nat} (hhi : hi < 2 ^ 64) (hlo : lo < 2 ^ 64) {u9 : Nat} (hu0 : 1 ≤ u9) (hu4 : u9 ≤ 4) {b : Nat} (hb9 : b < nb) (hfb : tg_first (fun k => decide (pt k = q ∧ ih k = hi ∧ il k = lo ∧ ip k = port)) nb = b) (hfj : ¬ tg_first (fun k => decide (so k = b ∧ fa k = far ∧ fp k = fpt)) ns < ns) (hmay : ¬ ((q ≠ 6 ∨ ev = 2) ∧ ns < 128)) : RO l yX10_admitFromInside cX10_admitFromInside 9 (some (.object "TransitGate$Binding")) 4 92 [.ref tb, .ref fl, .long (lN (hi)), .long (lN (lo)), .int (nI u9)] D cy ws (va_rf (none)) := by
  refine ROr (by first | exact Or.inl ⟨_, rfl⟩ | exact Or.inr ⟨_, rfl⟩) (by decide) (lv0 := [(0, .ref tb), (1, .ref fl), (2, .long (lN (hi))), (4, .long (lN (lo))), (6, .int (nI u9))]) rfl (Nat.le_of_ble_eq_true rfl) ?_
  intro p e s m args below meth c ls Q S hP hK hend hl
  have hx := S.1
  have hb := S.2.1
  have hown : s.vm.findClass RX10 = some m.cls := S.2.2.2.1
  have ht : ∀ w ∈ lw_g, w.before args s = true := fun w h => S.2.2.2.2 w (List.mem_cons_of_mem _ h)
  have hnb := hB.le
  have hns := hS1.le
  refine lv_aload_n hx hb dX10_admitFromInside_0 rfl (lv_at hl 0 rfl) ?_
  refine lv_aload_n hx hb dX10_admitFromInside_1 rfl (lv_at hl 1 rfl) ?_
  refine lv_lload_n hx hb dX10_admitFromInside_2 rfl (lv_at hl 2 rfl) ?_
  refine lv_lload hx hb dX10_admitFromInside_3 (lv_at hl 3 rfl) ?_
  refine ro_V S (c_X10_byInner hT hLb hB hb_pt hb_ih hb_il hb_ip hb_pn hb_op hf0 hq hport hfar hfpt hev (hi := hi) (lo := lo) (by omega) (by omega)) kw2_153 yv_X10_byInner ⟨Nat.le_of_ble_eq_true rfl, Nat.le_of_ble_eq_true rfl⟩ hK hP (va_recv hK hP (ci := 7) (q0 := kt) rfl hT) rfl hl.1 rfl (Nat.le_of_ble_eq_true rfl) dX10_admitFromInside_5 ⟨(Nat.zero_le _), (Nat.zero_le _)⟩ ?_
  have eX : tg_at ba (fun k => decide (pt k = q ∧ ih k = hi ∧ il k = lo ∧ ip k = port)) nb = some (ba b) := by rw [tg_at, hfb, if_pos hb9]
  rw [eX]
  refine W.eq (g2 := F0 m 8 ls [.ref (ba b)]) rfl ?_
  refine lv_astore (lv' := [(7, .ref (ba b)), (0, .ref tb), (1, .ref fl), (2, .long (lN (hi))), (4, .long (lN (lo))), (6, .int (nI u9))]) hx hb dX10_admitFromInside_8 hl (by decide) rfl (fun ls hl => ?_)
  refine lv_aload_n hx hb dX10_admitFromInside_10 rfl (lv_at hl 1 rfl) ?_
  refine lv_aload hx hb dX10_admitFromInside_11 (lv_at hl 0 rfl) ?_
  refine lv_aload_n hx hb dX10_admitFromInside_13 rfl (lv_at hl 2 rfl) ?_
  refine ro_V S (c_X10_meetsSession0 hT hLb hB hLs hS1 hb_fa hb_fp hb_st hb_en hf0 hq hport hfar hfpt hev hb9 (tg_first_no hfj)) kw2_180 yv_X10_meetsSession ⟨Nat.le_of_ble_eq_true rfl, Nat.le_of_ble_eq_true rfl⟩ hK hP (va_recv hK hP (ci := 7) (q0 := kt) rfl hT) rfl hl.1 rfl (Nat.le_of_ble_eq_true rfl) dX10_admitFromInside_14 ⟨(Nat.zero_le _), (Nat.zero_le _)⟩ ?_
  refine nv_if_eqb (tgt := 23) hx hb dX10_admitFromInside_17 (by decide) (fun _ => ?_) (fun h => absurd h (by decide))
  refine lv_aload hx hb dX10_admitFromInside_23 (lv_at hl 0 rfl) ?_
  refine lv_ifnonnull (tgt := 44) hx hb dX10_admitFromInside_25 (by decide) ?_
  refine nv_iconst (k := 0) hx hb dX10_admitFromInside_44 rfl ?_
  refine lv_istore (lv' := [(8, .int (nI 0)), (7, .ref (ba b)), (0, .ref tb), (1, .ref fl), (2, .long (lN (hi))), (4, .long (lN (lo))), (6, .int (nI u9))]) hx hb dX10_admitFromInside_45 hl (by decide) rfl (fun ls hl => ?_)
  refine lv_iload hx hb dX10_admitFromInside_47 (lv_at hl 0 rfl) ?_
  refine nv_if_ne (tgt := 60) hx hb dX10_admitFromInside_49 (by decide) (by omega) (fun h => absurd h (by decide)) (fun _ => ?_)
  refine lv_aload_n hx hb dX10_admitFromInside_52 rfl (lv_at hl 2 rfl) ?_
  refine lv_aload_n hx hb dX10_admitFromInside_53 rfl (lv_at hl 3 rfl) ?_
  refine ro_V S (c_X10_mayAddSession hT hLs (by omega) hf0 hq hport hfar hfpt hev) kw2_197 yv_X10_mayAddSession ⟨Nat.le_of_ble_eq_true rfl, Nat.le_of_ble_eq_true rfl⟩ hK hP (va_recv hK hP (ci := 7) (q0 := kt) rfl hT) rfl hl.1 rfl (Nat.le_of_ble_eq_true rfl) dX10_admitFromInside_54 ⟨(Nat.zero_le _), (Nat.zero_le _)⟩ ?_
  refine nv_if_neb (tgt := 62) hx hb dX10_admitFromInside_57 (by decide) (fun h57 => ?_) (fun h57 => ?_)
  · skip
    exact absurd (of_decide_eq_true h57) hmay
  refine lv_null hx hb dX10_admitFromInside_60 ?_
  exact hend (rfl) dX10_admitFromInside_61
set_option maxHeartbeats 4000000 in
set_option maxRecDepth 100000 in
theorem c_X10_admitFromInsideb {l : Launch} {D : va_G} {cy : Nat → ClassId} {ws : va_W} {kt tb lb ls T : Nat} (hT : ws[kt]? = some (tE tb lb ls T)) {kb eb nb e0 : Nat} {mb : Int32} (hLb : ws[kb]? = some (aL lb mb eb nb)) {ba pt ih il ip pn op : Nat → Nat} (hB : TB1 cy ws e0 eb nb ba pt ih il ip pn op) {kc es ns : Nat} {mc9 : Int32} (hLs : ws[kc]? = some (aL ls mc9 es ns)) {sa so fa fp st en : Nat → Nat} (hS1 : TS1 cy ws e0 es ns nb ba sa so fa fp st en) (hb_pt : ∀ i, pt i < 2 ^ 31) (hb_ih : ∀ i, ih i < 2 ^ 64) (hb_il : ∀ i, il i < 2 ^ 64) (hb_ip : ∀ i, ip i < 2 ^ 31) (hb_pn : ∀ i, pn i < 2 ^ 31) (hb_op : ∀ i, op i < 2 ^ 31) (hb_fa : ∀ i, fa i < 2 ^ 32) (hb_fp : ∀ i, fp i < 2 ^ 31) (hb_st : ∀ i, st i ≤ 7) (hb_en : ∀ i, en i < 2 ^ 62) {kf fl q port far fpt ev : Nat} {ins : Bool} (hf0 : ws[kf]? = some (fE fl ins q port far fpt ev)) (hq : q < 256) (hport : port < 65536) (hfar : far < 2 ^ 32) (hfpt : fpt < 65536) (hev : ev ≤ 3) (hb_pn4 : ∀ i, pn i < 4) {hi lo : Nat} (hhi : hi < 2 ^ 64) (hlo : lo < 2 ^ 64) {u9 : Nat} (hu0 : 1 ≤ u9) (hu4 : u9 ≤ 4) (hfb : ¬ tg_first (fun k => decide (pt k = q ∧ ih k = hi ∧ il k = lo ∧ ip k = port)) nb < nb) (hno9 : 64 ≤ nb ∨ ¬ ((q ≠ 6 ∨ ev = 2) ∧ ns < 128)) : RO l yX10_admitFromInside cX10_admitFromInside 9 (some (.object "TransitGate$Binding")) 4 92 [.ref tb, .ref fl, .long (lN (hi)), .long (lN (lo)), .int (nI u9)] D cy ws (va_rf (none)) := by
  refine ROr (by first | exact Or.inl ⟨_, rfl⟩ | exact Or.inr ⟨_, rfl⟩) (by decide) (lv0 := [(0, .ref tb), (1, .ref fl), (2, .long (lN (hi))), (4, .long (lN (lo))), (6, .int (nI u9))]) rfl (Nat.le_of_ble_eq_true rfl) ?_
  intro p e s m args below meth c ls Q S hP hK hend hl
  have hx := S.1
  have hb := S.2.1
  have hown : s.vm.findClass RX10 = some m.cls := S.2.2.2.1
  have ht : ∀ w ∈ lw_g, w.before args s = true := fun w h => S.2.2.2.2 w (List.mem_cons_of_mem _ h)
  have hnb := hB.le
  have hns := hS1.le
  refine lv_aload_n hx hb dX10_admitFromInside_0 rfl (lv_at hl 0 rfl) ?_
  refine lv_aload_n hx hb dX10_admitFromInside_1 rfl (lv_at hl 1 rfl) ?_
  refine lv_lload_n hx hb dX10_admitFromInside_2 rfl (lv_at hl 2 rfl) ?_
  refine lv_lload hx hb dX10_admitFromInside_3 (lv_at hl 3 rfl) ?_
  refine ro_V S (c_X10_byInner hT hLb hB hb_pt hb_ih hb_il hb_ip hb_pn hb_op hf0 hq hport hfar hfpt hev (hi := hi) (lo := lo) (by omega) (by omega)) kw2_153 yv_X10_byInner ⟨Nat.le_of_ble_eq_true rfl, Nat.le_of_ble_eq_true rfl⟩ hK hP (va_recv hK hP (ci := 7) (q0 := kt) rfl hT) rfl hl.1 rfl (Nat.le_of_ble_eq_true rfl) dX10_admitFromInside_5 ⟨(Nat.zero_le _), (Nat.zero_le _)⟩ ?_
  have eX : tg_at ba (fun k => decide (pt k = q ∧ ih k = hi ∧ il k = lo ∧ ip k = port)) nb = none := if_neg hfb
  rw [eX]
  refine W.eq (g2 := F0 m 8 ls [.null]) rfl ?_
  refine lv_astoreN (lv' := [(7, .null), (0, .ref tb), (1, .ref fl), (2, .long (lN (hi))), (4, .long (lN (lo))), (6, .int (nI u9))]) hx hb dX10_admitFromInside_8 hl (by decide) rfl (fun ls hl => ?_)
  refine lv_aload_n hx hb dX10_admitFromInside_10 rfl (lv_at hl 1 rfl) ?_
  refine lv_aloadN hx hb dX10_admitFromInside_11 (lv_at hl 0 rfl) ?_
  refine lv_aload_n hx hb dX10_admitFromInside_13 rfl (lv_at hl 2 rfl) ?_
  refine ro_V S (c_X10_meetsSessionN hT hLs hS1 hb_fa hb_fp hb_st hb_en hf0 hq hport hfar hfpt hev) kw2_180 yv_X10_meetsSession ⟨Nat.le_of_ble_eq_true rfl, Nat.le_of_ble_eq_true rfl⟩ hK hP (va_recv hK hP (ci := 7) (q0 := kt) rfl hT) rfl hl.1 rfl (Nat.le_of_ble_eq_true rfl) dX10_admitFromInside_14 ⟨(Nat.zero_le _), (Nat.zero_le _)⟩ ?_
  refine nv_if_eqb (tgt := 23) hx hb dX10_admitFromInside_17 (by decide) (fun _ => ?_) (fun h => absurd h (by decide))
  refine lv_aloadN hx hb dX10_admitFromInside_23 (lv_at hl 0 rfl) ?_
  refine lv_ifnonnullN hx hb dX10_admitFromInside_25 ?_
  refine lv_aload_n hx hb dX10_admitFromInside_28 rfl (lv_at hl 1 rfl) ?_
  refine va_get (ci := 7) (C := RX10) (T := TX10) (N := 3) hx hb ht iFX10 hown hK hP kt hT rfl 0 (by decide) (ht _ kw1_113) (fun _ h9 => h9) rfl dX10_admitFromInside_29 ?_
  refine ro_V S (c_Jx4a65c_size_8abf5 hLb) kw2_157 yv_Jx4a65c_size_8abf5 ⟨Nat.le_of_ble_eq_true rfl, Nat.le_of_ble_eq_true rfl⟩ hK hP (va_recv hK hP (ci := 0) (q0 := kb) rfl hLb) rfl hl.1 rfl (Nat.le_of_ble_eq_true rfl) dX10_admitFromInside_32 ⟨(Nat.zero_le _), (Nat.zero_le _)⟩ ?_
  refine nv_bipush (k := 64) hx hb dX10_admitFromInside_35 (by decide) ?_
  refine nv_icmp_lt (tgt := 44) hx hb dX10_admitFromInside_37 (by decide) (by omega) (by omega) (fun h37 => ?_) (fun h37 => ?_)
  · skip
    refine nv_iconst (k := 0) hx hb dX10_admitFromInside_44 rfl ?_
    refine lv_istore (lv' := [(8, .int (nI 0)), (7, .null), (0, .ref tb), (1, .ref fl), (2, .long (lN (hi))), (4, .long (lN (lo))), (6, .int (nI u9))]) hx hb dX10_admitFromInside_45 hl (by decide) rfl (fun ls hl => ?_)
    refine lv_iload hx hb dX10_admitFromInside_47 (lv_at hl 0 rfl) ?_
    refine nv_if_ne (tgt := 60) hx hb dX10_admitFromInside_49 (by decide) (by omega) (fun h => absurd h (by decide)) (fun _ => ?_)
    refine lv_aload_n hx hb dX10_admitFromInside_52 rfl (lv_at hl 2 rfl) ?_
    refine lv_aload_n hx hb dX10_admitFromInside_53 rfl (lv_at hl 3 rfl) ?_
    refine ro_V S (c_X10_mayAddSession hT hLs (by omega) hf0 hq hport hfar hfpt hev) kw2_197 yv_X10_mayAddSession ⟨Nat.le_of_ble_eq_true rfl, Nat.le_of_ble_eq_true rfl⟩ hK hP (va_recv hK hP (ci := 7) (q0 := kt) rfl hT) rfl hl.1 rfl (Nat.le_of_ble_eq_true rfl) dX10_admitFromInside_54 ⟨(Nat.zero_le _), (Nat.zero_le _)⟩ ?_
    refine nv_if_neb (tgt := 62) hx hb dX10_admitFromInside_57 (by decide) (fun h57 => ?_) (fun h57 => ?_)
    · skip
      exact absurd (of_decide_eq_true h57) (by intro h9; rcases hno9 with z | z <;> omega)
    refine lv_null hx hb dX10_admitFromInside_60 ?_
    exact hend (rfl) dX10_admitFromInside_61
  refine nv_iconst (k := 1) hx hb dX10_admitFromInside_40 rfl ?_
  refine lv_goto (tgt := 45) hx hb dX10_admitFromInside_41 (by decide) ?_
  refine lv_istore (lv' := [(8, .int (nI 1)), (7, .null), (0, .ref tb), (1, .ref fl), (2, .long (lN (hi))), (4, .long (lN (lo))), (6, .int (nI u9))]) hx hb dX10_admitFromInside_45 hl (by decide) rfl (fun ls hl => ?_)
  refine lv_iload hx hb dX10_admitFromInside_47 (lv_at hl 0 rfl) ?_
  refine nv_if_ne (tgt := 60) hx hb dX10_admitFromInside_49 (by decide) (by omega) (fun _ => ?_) (fun h => absurd h (by decide))
  refine lv_null hx hb dX10_admitFromInside_60 ?_
  exact hend (rfl) dX10_admitFromInside_61
theorem dX10_admitFromOutside_0 : decode cX10_admitFromOutside 0 = .ok (.aload_n 0, 1) := by decide +kernel
theorem dX10_admitFromOutside_1 : decode cX10_admitFromOutside 1 = .ok (.aload_n 1, 1) := by decide +kernel
theorem dX10_admitFromOutside_2 : decode cX10_admitFromOutside 2 = .ok (.getfield 80, 3) := by decide +kernel
theorem dX10_admitFromOutside_5 : decode cX10_admitFromOutside 5 = .ok (.iload_n 2, 1) := by decide +kernel
theorem dX10_admitFromOutside_6 : decode cX10_admitFromOutside 6 = .ok (.aload_n 1, 1) := by decide +kernel
theorem dX10_admitFromOutside_7 : decode cX10_admitFromOutside 7 = .ok (.getfield 86, 3) := by decide +kernel
theorem dX10_admitFromOutside_10 : decode cX10_admitFromOutside 10 = .ok (.invokevirtual 89, 3) := by decide +kernel
theorem dX10_admitFromOutside_13 : decode cX10_admitFromOutside 13 = .ok (.astore_n 3, 1) := by decide +kernel
theorem dX10_admitFromOutside_14 : decode cX10_admitFromOutside 14 = .ok (.aload_n 3, 1) := by decide +kernel
theorem dX10_admitFromOutside_15 : decode cX10_admitFromOutside 15 = .ok (.ifnull 12, 3) := by decide +kernel
theorem dX10_admitFromOutside_18 : decode cX10_admitFromOutside 18 = .ok (.aload_n 0, 1) := by decide +kernel
theorem dX10_admitFromOutside_19 : decode cX10_admitFromOutside 19 = .ok (.aload_n 3, 1) := by decide +kernel
theorem dX10_admitFromOutside_20 : decode cX10_admitFromOutside 20 = .ok (.aload_n 1, 1) := by decide +kernel
theorem dX10_admitFromOutside_21 : decode cX10_admitFromOutside 21 = .ok (.invokevirtual 61, 3) := by decide +kernel
theorem dX10_admitFromOutside_24 : decode cX10_admitFromOutside 24 = .ok (.ifCond .eq 5, 3) := by decide +kernel
theorem dX10_admitFromOutside_27 : decode cX10_admitFromOutside 27 = .ok (.aload_n 3, 1) := by decide +kernel
theorem dX10_admitFromOutside_28 : decode cX10_admitFromOutside 28 = .ok (.areturn, 1) := by decide +kernel
theorem dX10_admitFromOutside_29 : decode cX10_admitFromOutside 29 = .ok (.aload_n 0, 1) := by decide +kernel
theorem dX10_admitFromOutside_30 : decode cX10_admitFromOutside 30 = .ok (.aload_n 1, 1) := by decide +kernel
theorem dX10_admitFromOutside_31 : decode cX10_admitFromOutside 31 = .ok (.invokevirtual 65, 3) := by decide +kernel
theorem dX10_admitFromOutside_34 : decode cX10_admitFromOutside 34 = .ok (.ifCond .ne 5, 3) := by decide +kernel
theorem dX10_admitFromOutside_37 : decode cX10_admitFromOutside 37 = .ok (.aconst_null, 1) := by decide +kernel
theorem dX10_admitFromOutside_38 : decode cX10_admitFromOutside 38 = .ok (.areturn, 1) := by decide +kernel
theorem dX10_admitFromOutside_39 : decode cX10_admitFromOutside 39 = .ok (.aload_n 0, 1) := by decide +kernel
theorem dX10_admitFromOutside_40 : decode cX10_admitFromOutside 40 = .ok (.getfield 18, 3) := by decide +kernel
theorem dX10_admitFromOutside_43 : decode cX10_admitFromOutside 43 = .ok (.new 35, 3) := by decide +kernel
theorem dX10_admitFromOutside_46 : decode cX10_admitFromOutside 46 = .ok (.dup, 1) := by decide +kernel
theorem dX10_admitFromOutside_47 : decode cX10_admitFromOutside 47 = .ok (.aload_n 3, 1) := by decide +kernel
theorem dX10_admitFromOutside_48 : decode cX10_admitFromOutside 48 = .ok (.aload_n 1, 1) := by decide +kernel
theorem dX10_admitFromOutside_49 : decode cX10_admitFromOutside 49 = .ok (.aload_n 0, 1) := by decide +kernel
theorem dX10_admitFromOutside_50 : decode cX10_admitFromOutside 50 = .ok (.getfield 21, 3) := by decide +kernel
theorem dX10_admitFromOutside_53 : decode cX10_admitFromOutside 53 = .ok (.invokespecial 73, 3) := by decide +kernel
theorem dX10_admitFromOutside_56 : decode cX10_admitFromOutside 56 = .ok (.invokevirtual 76, 3) := by decide +kernel
theorem dX10_admitFromOutside_59 : decode cX10_admitFromOutside 59 = .ok (.pop, 1) := by decide +kernel
theorem dX10_admitFromOutside_60 : decode cX10_admitFromOutside 60 = .ok (.aload_n 3, 1) := by decide +kernel
theorem dX10_admitFromOutside_61 : decode cX10_admitFromOutside 61 = .ok (.areturn, 1) := by decide +kernel
theorem yv_X10_admitFromOutside : YV RX10 yX10_admitFromOutside cX10_admitFromOutside 4 (some (.object "TransitGate$Binding")) 2 := ⟨kw3_235, kw3_236, kw1_6, kw3_237, by decide +kernel⟩
set_option maxHeartbeats 4000000 in
set_option maxRecDepth 100000 in
theorem c_X10_admitFromOutside1 {l : Launch} {D : va_G} {cy : Nat → ClassId} {ad : Nat → Nat} {tl dy : va_W} {eb es tp os bits F G u nb ns T M id : Nat} {mb mz : Int32} {ft fo : Nat → UInt8} {g : Nat → Int32} {dq ba sa pt ih il ip pn op so fa fp st en : Nat → Nat} {e0 : Nat × Nat} (hDY : DY cy e0.1 dy eb es nb ns ba sa pt ih il ip pn op so fa fp st en) (hb_pt : ∀ i, pt i < 2 ^ 31) (hb_ih : ∀ i, ih i < 2 ^ 64) (hb_il : ∀ i, il i < 2 ^ 64) (hb_ip : ∀ i, ip i < 2 ^ 31) (hb_pn : ∀ i, pn i < 2 ^ 31) (hb_op : ∀ i, op i < 2 ^ 31) (hb_fa : ∀ i, fa i < 2 ^ 32) (hb_fp : ∀ i, fp i < 2 ^ 31) (hb_st : ∀ i, st i ≤ 7) (hb_en : ∀ i, en i < 2 ^ 62) {kf fl q port far fpt ev : Nat} {ins : Bool} (hfd : dy[kf]? = some (fE fl ins q port far fpt ev)) (hq : q < 256) (hport : port < 65536) (hfar : far < 2 ^ 32) (hfpt : fpt < 65536) (hev : ev ≤ 3) {num : Nat} (hnum : num < 2 ^ 31) {b : Nat} (hb9 : b < nb) (hfb : tg_first (fun k => decide (pt k = q ∧ pn k = num ∧ op k = port)) nb = b) {j : Nat} (hj9 : j < ns) (hfj : tg_first (fun k => decide (so k = b ∧ fa k = far ∧ fp k = fpt)) ns = j) : WR (S := va_W) l yX10_admitFromOutside cX10_admitFromOutside 4 (some (.object "TransitGate$Binding")) 4 0 0 90 [.ref (ad 8), .ref fl, .int (nI num)] D cy ((cW cy ad eb es mb mz tp os bits F G u nb ns T M id ft fo g dq ++ tl) ++ dy) (fun u_ => some (va_rf (some (ba b)))) (fun z9 => DY cy e0.1 z9 eb es nb ns ba sa pt ih il ip pn op so fa fp (if tg_nxt (st j) ev ins = 8 then st else va_up st j (tg_nxt (st j) ev ins)) (if tg_nxt (st j) ev ins = 8 then en else va_up en j (T + tg_life (tg_nxt (st j) ev ins) q)) ∧ z9[kf]? = some (fE fl ins q port far fpt ev)) (fun z9 => (cW cy ad eb es mb mz tp os bits F G u nb ns T M id ft fo g dq ++ tl) ++ z9) := by
  refine WRr (by first | exact Or.inl ⟨_, rfl⟩ | exact Or.inr ⟨_, rfl⟩) (by decide) (lv0 := [(0, .ref (ad 8)), (1, .ref fl), (2, .int (nI num))]) rfl (Nat.le_of_ble_eq_true rfl) ?_
  intro p e s m args below meth c ls A Q S hnm hP hK hD hS hA hend hl
  have hx := S.1
  have hb := S.2.1
  have hown : s.vm.findClass RX10 = some m.cls := S.2.2.2.1
  have ht : ∀ w ∈ lw_g, w.before args s = true := fun w h => S.2.2.2.2 w (List.mem_cons_of_mem _ h)
  have hP : va_P D vwCl ((cW cy ad eb es mb mz tp os bits F G u nb ns T M id ft fo g dq ++ tl) ++ dy) s.heap := hP
  have hT : ((cW cy ad eb es mb mz tp os bits F G u nb ns T M id ft fo g dq ++ tl) ++ dy)[8]? = some (tE (ad 8) (ad 9) (ad 10) T) := rfl
  have hLb : ((cW cy ad eb es mb mz tp os bits F G u nb ns T M id ft fo g dq ++ tl) ++ dy)[9]? = some (aL (ad 9) mb eb nb) := rfl
  have hLs : ((cW cy ad eb es mb mz tp os bits F G u nb ns T M id ft fo g dq ++ tl) ++ dy)[10]? = some (aL (ad 10) mz es ns) := rfl
  have hB : TB1 cy ((cW cy ad eb es mb mz tp os bits F G u nb ns T M id ft fo g dq ++ tl) ++ dy) e0.1 eb nb ba pt ih il ip pn op := hDY.1.app
  have hS1 : TS1 cy ((cW cy ad eb es mb mz tp os bits F G u nb ns T M id ft fo g dq ++ tl) ++ dy) e0.1 es ns nb ba sa so fa fp st en := hDY.2.1.app
  have hf0 : ((cW cy ad eb es mb mz tp os bits F G u nb ns T M id ft fo g dq ++ tl) ++ dy)[(cW cy ad eb es mb mz tp os bits F G u nb ns T M id ft fo g dq ++ tl).length + kf]? = some (fE fl ins q port far fpt ev) := app_r hfd
  have hnb := hB.le
  have hns := hS1.le
  have hjq : so j = b ∧ fa j = far ∧ fp j = fpt := by have h9 := tg_first_is (q := (fun k => decide (so k = b ∧ fa k = far ∧ fp k = fpt))) (n := ns) (by rw [hfj]; exact hj9); rw [hfj] at h9; exact of_decide_eq_true h9
  refine lv_aload_n hx hb dX10_admitFromOutside_0 rfl (lv_at hl 0 rfl) ?_
  refine lv_aload_n hx hb dX10_admitFromOutside_1 rfl (lv_at hl 1 rfl) ?_
  refine va_get (ci := 3) (C := RX2) (T := TX2) (N := 6) hx hb ht iFX2 hown hK hP ((cW cy ad eb es mb mz tp os bits F G u nb ns T M id ft fo g dq ++ tl).length + kf) (app_r hfd) rfl 1 (by decide) (ht _ kw2_122) (fun _ h9 => h9) rfl dX10_admitFromOutside_2 ?_
  refine lv_iload_n hx hb dX10_admitFromOutside_5 rfl (lv_at hl 2 rfl) ?_
  refine lv_aload_n hx hb dX10_admitFromOutside_6 rfl (lv_at hl 1 rfl) ?_
  refine va_get (ci := 3) (C := RX2) (T := TX2) (N := 6) hx hb ht iFX2 hown hK hP ((cW cy ad eb es mb mz tp os bits F G u nb ns T M id ft fo g dq ++ tl).length + kf) (app_r hfd) rfl 2 (by decide) (ht _ kw2_125) (fun _ h9 => h9) rfl dX10_admitFromOutside_7 ?_
  refine ro_V S (c_X10_byOuter hT hLb hB hb_pt hb_ih hb_il hb_ip hb_pn hb_op (q9 := q) (num := num) (v := port) (by omega) (by omega) (by omega)) kw2_224 yv_X10_byOuter ⟨Nat.le_of_ble_eq_true rfl, Nat.le_of_ble_eq_true rfl⟩ hK hP (va_recv hK hP (ci := 7) (q0 := 8) rfl rfl) rfl hl.1 rfl (Nat.le_of_ble_eq_true rfl) dX10_admitFromOutside_10 ⟨(Nat.zero_le _), (Nat.zero_le _)⟩ ?_
  have eX : tg_at ba (fun k => decide (pt k = q ∧ pn k = num ∧ op k = port)) nb = some (ba b) := by rw [tg_at, hfb, if_pos hb9]
  rw [eX]
  refine W.eq (g2 := F0 m 13 ls [.ref (ba b)]) rfl ?_
  refine lv_astore_n (lv' := [(3, .ref (ba b)), (0, .ref (ad 8)), (1, .ref fl), (2, .int (nI num))]) hx hb dX10_admitFromOutside_13 rfl hl (by decide) rfl (fun ls hl => ?_)
  refine lv_aload_n hx hb dX10_admitFromOutside_14 rfl (lv_at hl 0 rfl) ?_
  refine lv_ifnull hx hb dX10_admitFromOutside_15 ?_
  refine lv_aload_n hx hb dX10_admitFromOutside_18 rfl (lv_at hl 1 rfl) ?_
  refine lv_aload_n hx hb dX10_admitFromOutside_19 rfl (lv_at hl 0 rfl) ?_
  refine lv_aload_n hx hb dX10_admitFromOutside_20 rfl (lv_at hl 2 rfl) ?_
  have hD0 := hD
  refine wr_V S (c_X10_meetsSession1 hT hLb hB hLs hS1 hb_fa hb_fp hb_st hb_en hf0 hq hport hfar hfpt hev hb9 hj9 (b := b) (j := j) hjq (fun i hi => tg_first_min (n := ns) (by rw [hfj]; exact hi))) kw2_180 yv_X10_meetsSession ⟨Nat.le_of_ble_eq_true rfl, Nat.le_of_ble_eq_true rfl⟩ hK hP hD hS hA (va_recv hK hP (ci := 7) (q0 := 8) rfl rfl) rfl hl.1 rfl (Nat.le_of_ble_eq_true rfl) dX10_admitFromOutside_21 ⟨(Nat.zero_le _), (Nat.zero_le _)⟩ (fun u1 H locs hu1 hP hD hS => ?_)
  obtain ⟨kd, hkd⟩ := hDY.2.1.at hj9
  have ek := dy_place hD0 hu1 hkd rfl
  rw [ek, app_setr] at hP hD
  have hDY2 := (⟨hDY.1.setS (x := (0, .inr (0, []))) hkd, TS1.meet hDY.2.1 hj9 hkd, hDY.2.2⟩ : DY cy e0.1 (dy.set kd (sE (sa j) (ba (so j)) (fa j) (fp j) (if tg_nxt (st j) ev ins = 8 then st j else tg_nxt (st j) ev ins) (if tg_nxt (st j) ev ins = 8 then en j else T + tg_life (tg_nxt (st j) ev ins) q))) eb es nb ns ba sa pt ih il ip pn op so fa fp (va_up st j (if tg_nxt (st j) ev ins = 8 then st j else tg_nxt (st j) ev ins)) (va_up en j (if tg_nxt (st j) ev ins = 8 then en j else T + tg_life (tg_nxt (st j) ev ins) q)))
  rw [va_up_if, va_up_if] at hDY2
  have hfd2 : (dy.set kd (sE (sa j) (ba (so j)) (fa j) (fp j) (if tg_nxt (st j) ev ins = 8 then st j else tg_nxt (st j) ev ins) (if tg_nxt (st j) ev ins = 8 then en j else T + tg_life (tg_nxt (st j) ev ins) q)))[kf]? = some (fE fl ins q port far fpt ev) := (List.getElem?_set_ne (lst_ne hkd hfd (by intro h9; injection h9 with _ h8; injection h8 with h7; injection h7 with h6; cases h6))).trans hfd
  have hP : va_P D vwCl ((cW cy ad eb es mb mz tp os bits F G u nb ns T M id ft fo g dq ++ tl) ++ (dy.set kd (sE (sa j) (ba (so j)) (fa j) (fp j) (if tg_nxt (st j) ev ins = 8 then st j else tg_nxt (st j) ev ins) (if tg_nxt (st j) ev ins = 8 then en j else T + tg_life (tg_nxt (st j) ev ins) q)))) H := hP
  have hD : va_D A ((cW cy ad eb es mb mz tp os bits F G u nb ns T M id ft fo g dq ++ tl) ++ (dy.set kd (sE (sa j) (ba (so j)) (fa j) (fp j) (if tg_nxt (st j) ev ins = 8 then st j else tg_nxt (st j) ev ins) (if tg_nxt (st j) ev ins = 8 then en j else T + tg_life (tg_nxt (st j) ev ins) q)))) := hD
  refine W.eq (g2 := F0 m 24 ls [.int (bI (true))]) rfl ?_
  refine nv_if_eqb (tgt := 29) hx hb dX10_admitFromOutside_24 (by decide) (fun h => absurd h (by decide)) (fun _ => ?_)
  refine lv_aload_n hx hb dX10_admitFromOutside_27 rfl (lv_at hl 0 rfl) ?_
  exact hend _ rfl ⟨hDY2, hfd2⟩ hP hD hS dX10_admitFromOutside_28
set_option maxHeartbeats 4000000 in
set_option maxRecDepth 100000 in
theorem c_X10_admitFromOutside2 {l : Launch} {D : va_G} {cy : Nat → ClassId} {e0 : Nat × Nat} {ad : Nat → Nat} {tl dy : va_W} {eb es tp os bits F G u nb ns T M id : Nat} {mb mz : Int32} {ft fo : Nat → UInt8} {g : Nat → Int32} {dq ba sa pt ih il ip pn op so fa fp st en : Nat → Nat} (hDY : DY cy e0.1 dy eb es nb ns ba sa pt ih il ip pn op so fa fp st en) (hb_pt : ∀ i, pt i < 2 ^ 31) (hb_ih : ∀ i, ih i < 2 ^ 64) (hb_il : ∀ i, il i < 2 ^ 64) (hb_ip : ∀ i, ip i < 2 ^ 31) (hb_pn : ∀ i, pn i < 2 ^ 31) (hb_op : ∀ i, op i < 2 ^ 31) (hb_fa : ∀ i, fa i < 2 ^ 32) (hb_fp : ∀ i, fp i < 2 ^ 31) (hb_st : ∀ i, st i ≤ 7) (hb_en : ∀ i, en i < 2 ^ 62) {kf fl q port far fpt ev : Nat} {ins : Bool} (hfd : dy[kf]? = some (fE fl ins q port far fpt ev)) (hq : q < 256) (hport : port < 65536) (hfar : far < 2 ^ 32) (hfpt : fpt < 65536) (hev : ev ≤ 3) {num : Nat} (hnum : num < 2 ^ 31) {b : Nat} (hb9 : b < nb) (hfb : tg_first (fun k => decide (pt k = q ∧ pn k = num ∧ op k = port)) nb = b) (hfj : ¬ tg_first (fun k => decide (so k = b ∧ fa k = far ∧ fp k = fpt)) ns < ns) (hmay : (q ≠ 6 ∨ ev = 2) ∧ ns < 128) : WRX (S := (Nat × Nat × va_W)) l yX10_admitFromOutside cX10_admitFromOutside 4 (some (.object "TransitGate$Binding")) 7 2 305 161 [.ref (ad 8), .ref fl, .int (nI num)] D cy e0 ((cW cy ad eb es mb mz tp os bits F G u nb ns T M id ft fo g dq ++ tl) ++ dy) (fun u_ => some (va_rf (some (ba b)))) (fun z9 => DY cy e0.1 z9.2.2 eb z9.2.1 nb (ns + 1) ba (va_up sa ns z9.1) pt ih il ip pn op (va_up so ns b) (va_up fa ns far) (va_up fp ns fpt) (va_up st ns (tg_first_st q ins)) (va_up en ns (T + tg_life (tg_first_st q ins) q)) ∧ z9.2.2[kf]? = some (fE fl ins q port far fpt ev)) (fun z9 => (cW cy ad eb z9.2.1 mb (mz + nI 1) tp os bits F G u nb (ns + 1) T M id ft fo g dq ++ tl) ++ z9.2.2) := by
  refine WRXr (by first | exact Or.inl ⟨_, rfl⟩ | exact Or.inr ⟨_, rfl⟩) (by decide) (lv0 := [(0, .ref (ad 8)), (1, .ref fl), (2, .int (nI num))]) rfl (Nat.le_of_ble_eq_true rfl) ?_
  intro p e s m args below meth c ls A Q S hnm hP hK hD hS hA hE hend hl
  have hx := S.1
  have hb := S.2.1
  have hown : s.vm.findClass RX10 = some m.cls := S.2.2.2.1
  have ht : ∀ w ∈ lw_g, w.before args s = true := fun w h => S.2.2.2.2 w (List.mem_cons_of_mem _ h)
  have hP : va_P D vwCl ((cW cy ad eb es mb mz tp os bits F G u nb ns T M id ft fo g dq ++ tl) ++ dy) s.heap := hP
  have hT : ((cW cy ad eb es mb mz tp os bits F G u nb ns T M id ft fo g dq ++ tl) ++ dy)[8]? = some (tE (ad 8) (ad 9) (ad 10) T) := rfl
  have hLb : ((cW cy ad eb es mb mz tp os bits F G u nb ns T M id ft fo g dq ++ tl) ++ dy)[9]? = some (aL (ad 9) mb eb nb) := rfl
  have hLs : ((cW cy ad eb es mb mz tp os bits F G u nb ns T M id ft fo g dq ++ tl) ++ dy)[10]? = some (aL (ad 10) mz es ns) := rfl
  have hB : TB1 cy ((cW cy ad eb es mb mz tp os bits F G u nb ns T M id ft fo g dq ++ tl) ++ dy) e0.1 eb nb ba pt ih il ip pn op := hDY.1.app
  have hS1 : TS1 cy ((cW cy ad eb es mb mz tp os bits F G u nb ns T M id ft fo g dq ++ tl) ++ dy) e0.1 es ns nb ba sa so fa fp st en := hDY.2.1.app
  have hf0 : ((cW cy ad eb es mb mz tp os bits F G u nb ns T M id ft fo g dq ++ tl) ++ dy)[(cW cy ad eb es mb mz tp os bits F G u nb ns T M id ft fo g dq ++ tl).length + kf]? = some (fE fl ins q port far fpt ev) := app_r hfd
  have hnb := hB.le
  have hns := hS1.le
  refine lv_aload_n hx hb dX10_admitFromOutside_0 rfl (lv_at hl 0 rfl) ?_
  refine lv_aload_n hx hb dX10_admitFromOutside_1 rfl (lv_at hl 1 rfl) ?_
  refine va_get (ci := 3) (C := RX2) (T := TX2) (N := 6) hx hb ht iFX2 hown hK hP ((cW cy ad eb es mb mz tp os bits F G u nb ns T M id ft fo g dq ++ tl).length + kf) (app_r hfd) rfl 1 (by decide) (ht _ kw2_122) (fun _ h9 => h9) rfl dX10_admitFromOutside_2 ?_
  refine lv_iload_n hx hb dX10_admitFromOutside_5 rfl (lv_at hl 2 rfl) ?_
  refine lv_aload_n hx hb dX10_admitFromOutside_6 rfl (lv_at hl 1 rfl) ?_
  refine va_get (ci := 3) (C := RX2) (T := TX2) (N := 6) hx hb ht iFX2 hown hK hP ((cW cy ad eb es mb mz tp os bits F G u nb ns T M id ft fo g dq ++ tl).length + kf) (app_r hfd) rfl 2 (by decide) (ht _ kw2_125) (fun _ h9 => h9) rfl dX10_admitFromOutside_7 ?_
  refine ro_V S (c_X10_byOuter hT hLb hB hb_pt hb_ih hb_il hb_ip hb_pn hb_op (q9 := q) (num := num) (v := port) (by omega) (by omega) (by omega)) kw2_224 yv_X10_byOuter ⟨Nat.le_of_ble_eq_true rfl, Nat.le_of_ble_eq_true rfl⟩ hK hP (va_recv hK hP (ci := 7) (q0 := 8) rfl rfl) rfl hl.1 rfl (Nat.le_of_ble_eq_true rfl) dX10_admitFromOutside_10 ⟨(by show _ ≤ 2; omega), (by show _ ≤ 305; omega)⟩ ?_
  have eX : tg_at ba (fun k => decide (pt k = q ∧ pn k = num ∧ op k = port)) nb = some (ba b) := by rw [tg_at, hfb, if_pos hb9]
  rw [eX]
  refine W.eq (g2 := F0 m 13 ls [.ref (ba b)]) rfl ?_
  refine lv_astore_n (lv' := [(3, .ref (ba b)), (0, .ref (ad 8)), (1, .ref fl), (2, .int (nI num))]) hx hb dX10_admitFromOutside_13 rfl hl (by decide) rfl (fun ls hl => ?_)
  refine lv_aload_n hx hb dX10_admitFromOutside_14 rfl (lv_at hl 0 rfl) ?_
  refine lv_ifnull hx hb dX10_admitFromOutside_15 ?_
  refine lv_aload_n hx hb dX10_admitFromOutside_18 rfl (lv_at hl 1 rfl) ?_
  refine lv_aload_n hx hb dX10_admitFromOutside_19 rfl (lv_at hl 0 rfl) ?_
  refine lv_aload_n hx hb dX10_admitFromOutside_20 rfl (lv_at hl 2 rfl) ?_
  refine ro_V S (c_X10_meetsSession0 hT hLb hB hLs hS1 hb_fa hb_fp hb_st hb_en hf0 hq hport hfar hfpt hev hb9 (tg_first_no hfj)) kw2_180 yv_X10_meetsSession ⟨Nat.le_of_ble_eq_true rfl, Nat.le_of_ble_eq_true rfl⟩ hK hP (va_recv hK hP (ci := 7) (q0 := 8) rfl rfl) rfl hl.1 rfl (Nat.le_of_ble_eq_true rfl) dX10_admitFromOutside_21 ⟨(by show _ ≤ 2; omega), (by show _ ≤ 305; omega)⟩ ?_
  refine nv_if_eqb (tgt := 29) hx hb dX10_admitFromOutside_24 (by decide) (fun _ => ?_) (fun h => absurd h (by decide))
  refine lv_aload_n hx hb dX10_admitFromOutside_29 rfl (lv_at hl 1 rfl) ?_
  refine lv_aload_n hx hb dX10_admitFromOutside_30 rfl (lv_at hl 2 rfl) ?_
  refine ro_V S (c_X10_mayAddSession hT hLs (by omega) hf0 hq hport hfar hfpt hev) kw2_197 yv_X10_mayAddSession ⟨Nat.le_of_ble_eq_true rfl, Nat.le_of_ble_eq_true rfl⟩ hK hP (va_recv hK hP (ci := 7) (q0 := 8) rfl rfl) rfl hl.1 rfl (Nat.le_of_ble_eq_true rfl) dX10_admitFromOutside_31 ⟨(by show _ ≤ 2; omega), (by show _ ≤ 305; omega)⟩ ?_
  refine nv_if_neb (tgt := 39) hx hb dX10_admitFromOutside_34 (by decide) (fun h34 => ?_) (fun h34 => ?_)
  · skip
    refine lv_aload_n hx hb dX10_admitFromOutside_39 rfl (lv_at hl 1 rfl) ?_
    refine va_get (ci := 7) (C := RX10) (T := TX10) (N := 3) hx hb ht iFX10 hown hK hP 8 rfl rfl 1 (by decide) (ht _ kw1_114) (fun _ h9 => h9) rfl dX10_admitFromOutside_40 ?_
    refine va_new (ci := 5) (fs := [.null, .int 0, .int 0, .int 0, .long 0]) (C := RX7) (T := TX7) (N := 5) hx hb ht iFX7 tyX7 tyX7_ok hown (ht _ kw2_184) (ht _ kw2_192) (ht _ kw1_17) hK hP hD hS hA rfl (fun j hj => by rcases (show j = 0 ∨ j = 1 ∨ j = 2 ∨ j = 3 ∨ j = 4 by omega) with rfl | rfl | rfl | rfl | rfl <;> rfl) (by show _ ≤ 2; omega) (by show _ ≤ 305; omega) dX10_admitFromOutside_43 (fun o_1 H hP hD hS => ?_)
    have hfr9 := app_new hD
    refine lv_dup hx hb dX10_admitFromOutside_46 rfl ?_
    refine lv_aload_n hx hb dX10_admitFromOutside_47 rfl (lv_at hl 0 rfl) ?_
    refine lv_aload_n hx hb dX10_admitFromOutside_48 rfl (lv_at hl 2 rfl) ?_
    refine lv_aload_n hx hb dX10_admitFromOutside_49 rfl (lv_at hl 1 rfl) ?_
    refine va_get (ci := 7) (C := RX10) (T := TX10) (N := 3) hx hb ht iFX10 hown hK hP 8 rfl rfl 2 (by decide) (ht _ kw1_115) (fun _ h9 => h9) rfl dX10_admitFromOutside_50 ?_
    refine wr_I S (c_X7_init (w0 := (cW cy ad eb es mb mz tp os bits F G u nb ns T M id ft fo g dq ++ tl) ++ dy) (x9 := o_1) hf0 hq hport hfar hfpt hev (ow := (ba b)) (T := T)) kw3_80 yv_X7_init ⟨Nat.le_of_ble_eq_true rfl, Nat.le_of_ble_eq_true rfl⟩ hK hP hD hS hA rfl hl.1 rfl (Nat.le_of_ble_eq_true rfl) dX10_admitFromOutside_53 ⟨(by show _ ≤ 2; omega), (by show _ ≤ 305; omega)⟩ (fun u53 H locs hu53 hP hD hS => ?_)
    rw [List.append_assoc] at hP hD
    have hP : va_P D vwCl ((cW cy ad eb es mb mz tp os bits F G u nb ns T M id ft fo g dq ++ tl) ++ (dy ++ [sE o_1 ((ba b)) far fpt (tg_first_st q ins) (T + tg_life (tg_first_st q ins) q)])) H := hP
    have hD : va_D A ((cW cy ad eb es mb mz tp os bits F G u nb ns T M id ft fo g dq ++ tl) ++ (dy ++ [sE o_1 ((ba b)) far fpt (tg_first_st q ins) (T + tg_life (tg_first_st q ins) q)])) := hD
    refine W.eq (g2 := F0 m 56 ls [.ref o_1, .ref (ad 10)]) rfl ?_
    have hDx : DY cy e0.1 (dy ++ [sE o_1 ((ba b)) far fpt (tg_first_st q ins) (T + tg_life (tg_first_st q ins) q)]) eb es nb ns ba sa pt ih il ip pn op so fa fp st en := hDY.ext
    have he9 := e0_outr hE hD
    obtain ⟨Nx, fx, hADx, hnx, h3x, h4x⟩ := hDx.2.1
    refine wx_V S (c_add (pre := (cW cy ad eb es mb mz tp os bits F G u nb ns T M id ft fo g dq ++ tl)) (dy := dy ++ [sE o_1 ((ba b)) far fpt (tg_first_st q ins) (T + tg_life (tg_first_st q ins) q)]) (kl := 10) rfl hADx (by omega) (TS1.obj (N := Nx) h3x) (ci := 5) rfl (Or.inr rfl) (by decide) (kx := dy.length) app_e) kw3_27 yv_Jx4a65c_add_9ea2d ⟨Nat.le_of_ble_eq_true rfl, Nat.le_of_ble_eq_true rfl⟩ hK hP hD hS hA hE (va_recv hK hP (ci := 0) (q0 := 10) rfl rfl) rfl hl.1 rfl (Nat.le_of_ble_eq_true rfl) dX10_admitFromOutside_56 ⟨(by show _ ≤ 2; omega), (by show _ ≤ 305; omega)⟩ (fun u56 H locs hu56 hP hD hS => ?_)
    have hP : va_P D vwCl ((cW cy ad eb u56.1 mb (mz + nI 1) tp os bits F G u nb (ns + 1) T M id ft fo g dq ++ tl) ++ u56.2.2.2) H := hP
    have hD : va_D A ((cW cy ad eb u56.1 mb (mz + nI 1) tp os bits F G u nb (ns + 1) T M id ft fo g dq ++ tl) ++ u56.2.2.2) := hD
    have hDY_2 : DY cy e0.1 u56.2.2.2 eb u56.1 nb (ns + 1) ba (va_up sa ns o_1) pt ih il ip pn op (va_up so ns b) (va_up fa ns far) (va_up fp ns fpt) (va_up st ns (tg_first_st q ins)) (va_up en ns (T + tg_life (tg_first_st q ins) q)) := ⟨hDx.1.kp hu56.2.2.2.2.2.2.1 (fun e => hDx.2.2 e.symm) he9, TS1.add (N := Nx) (b := b) h3x h4x (by omega) (by omega) app_e (hS1.fresh hfr9) hu56, DY.ne_addS hDx (fun _ h9 => h9) hu56⟩
    have hfd_3 : (u56.2.2.2)[kf]? = some (fE fl ins q port far fpt ev) := hu56.2.2.2.2.2.2.1 kf _ (app_l hfd) (Or.inl ⟨_, rfl⟩)
    have hT : ((cW cy ad eb u56.1 mb (mz + nI 1) tp os bits F G u nb (ns + 1) T M id ft fo g dq ++ tl) ++ u56.2.2.2)[8]? = some (tE (ad 8) (ad 9) (ad 10) T) := rfl
    have hLb : ((cW cy ad eb u56.1 mb (mz + nI 1) tp os bits F G u nb (ns + 1) T M id ft fo g dq ++ tl) ++ u56.2.2.2)[9]? = some (aL (ad 9) mb eb nb) := rfl
    have hLs : ((cW cy ad eb u56.1 mb (mz + nI 1) tp os bits F G u nb (ns + 1) T M id ft fo g dq ++ tl) ++ u56.2.2.2)[10]? = some (aL (ad 10) (mz + nI 1) u56.1 (ns + 1)) := rfl
    have hB : TB1 cy ((cW cy ad eb u56.1 mb (mz + nI 1) tp os bits F G u nb (ns + 1) T M id ft fo g dq ++ tl) ++ u56.2.2.2) e0.1 eb nb ba pt ih il ip pn op := hDY_2.1.app
    have hS1 : TS1 cy ((cW cy ad eb u56.1 mb (mz + nI 1) tp os bits F G u nb (ns + 1) T M id ft fo g dq ++ tl) ++ u56.2.2.2) e0.1 u56.1 (ns + 1) nb ba (va_up sa ns o_1) (va_up so ns b) (va_up fa ns far) (va_up fp ns fpt) (va_up st ns (tg_first_st q ins)) (va_up en ns (T + tg_life (tg_first_st q ins) q)) := hDY_2.2.1.app
    have hf0 : ((cW cy ad eb u56.1 mb (mz + nI 1) tp os bits F G u nb (ns + 1) T M id ft fo g dq ++ tl) ++ u56.2.2.2)[(cW cy ad eb u56.1 mb (mz + nI 1) tp os bits F G u nb (ns + 1) T M id ft fo g dq ++ tl).length + kf]? = some (fE fl ins q port far fpt ev) := app_r hfd_3
    refine W.eq (g2 := F0 m 59 ls [.int (bI (true))]) rfl ?_
    refine lv_pop hx hb dX10_admitFromOutside_59 rfl ?_
    refine lv_aload_n hx hb dX10_admitFromOutside_60 rfl (lv_at hl 0 rfl) ?_
    refine W.widen (k := 2) (n := 305) (by omega) (by omega) ?_
    exact hend (o_1, u56.1, u56.2.2.2) rfl ⟨hDY_2, hfd_3⟩ hP hD hS dX10_admitFromOutside_61
  exact absurd hmay (of_decide_eq_false h34)
set_option maxHeartbeats 4000000 in
set_option maxRecDepth 100000 in
theorem c_X10_admitFromOutsidea {l : Launch} {D : va_G} {cy : Nat → ClassId} {ws : va_W} {kt tb lb ls T : Nat} (hT : ws[kt]? = some (tE tb lb ls T)) {kb eb nb e0 : Nat} {mb : Int32} (hLb : ws[kb]? = some (aL lb mb eb nb)) {ba pt ih il ip pn op : Nat → Nat} (hB : TB1 cy ws e0 eb nb ba pt ih il ip pn op) {kc es ns : Nat} {mc9 : Int32} (hLs : ws[kc]? = some (aL ls mc9 es ns)) {sa so fa fp st en : Nat → Nat} (hS1 : TS1 cy ws e0 es ns nb ba sa so fa fp st en) (hb_pt : ∀ i, pt i < 2 ^ 31) (hb_ih : ∀ i, ih i < 2 ^ 64) (hb_il : ∀ i, il i < 2 ^ 64) (hb_ip : ∀ i, ip i < 2 ^ 31) (hb_pn : ∀ i, pn i < 2 ^ 31) (hb_op : ∀ i, op i < 2 ^ 31) (hb_fa : ∀ i, fa i < 2 ^ 32) (hb_fp : ∀ i, fp i < 2 ^ 31) (hb_st : ∀ i, st i ≤ 7) (hb_en : ∀ i, en i < 2 ^ 62) {kf fl q port far fpt ev : Nat} {ins : Bool} (hf0 : ws[kf]? = some (fE fl ins q port far fpt ev)) (hq : q < 256) (hport : port < 65536) (hfar : far < 2 ^ 32) (hfpt : fpt < 65536) (hev : ev ≤ 3) {num : Nat} (hnum : num < 2 ^ 31) {b : Nat} (hb9 : b < nb) (hfb : tg_first (fun k => decide (pt k = q ∧ pn k = num ∧ op k = port)) nb = b) (hfj : ¬ tg_first (fun k => decide (so k = b ∧ fa k = far ∧ fp k = fpt)) ns < ns) (hmay : ¬ ((q ≠ 6 ∨ ev = 2) ∧ ns < 128)) : RO l yX10_admitFromOutside cX10_admitFromOutside 4 (some (.object "TransitGate$Binding")) 4 90 [.ref tb, .ref fl, .int (nI num)] D cy ws (va_rf (none)) := by
  refine ROr (by first | exact Or.inl ⟨_, rfl⟩ | exact Or.inr ⟨_, rfl⟩) (by decide) (lv0 := [(0, .ref tb), (1, .ref fl), (2, .int (nI num))]) rfl (Nat.le_of_ble_eq_true rfl) ?_
  intro p e s m args below meth c ls Q S hP hK hend hl
  have hx := S.1
  have hb := S.2.1
  have hown : s.vm.findClass RX10 = some m.cls := S.2.2.2.1
  have ht : ∀ w ∈ lw_g, w.before args s = true := fun w h => S.2.2.2.2 w (List.mem_cons_of_mem _ h)
  have hnb := hB.le
  have hns := hS1.le
  refine lv_aload_n hx hb dX10_admitFromOutside_0 rfl (lv_at hl 0 rfl) ?_
  refine lv_aload_n hx hb dX10_admitFromOutside_1 rfl (lv_at hl 1 rfl) ?_
  refine va_get (ci := 3) (C := RX2) (T := TX2) (N := 6) hx hb ht iFX2 hown hK hP kf hf0 rfl 1 (by decide) (ht _ kw2_122) (fun _ h9 => h9) rfl dX10_admitFromOutside_2 ?_
  refine lv_iload_n hx hb dX10_admitFromOutside_5 rfl (lv_at hl 2 rfl) ?_
  refine lv_aload_n hx hb dX10_admitFromOutside_6 rfl (lv_at hl 1 rfl) ?_
  refine va_get (ci := 3) (C := RX2) (T := TX2) (N := 6) hx hb ht iFX2 hown hK hP kf hf0 rfl 2 (by decide) (ht _ kw2_125) (fun _ h9 => h9) rfl dX10_admitFromOutside_7 ?_
  refine ro_V S (c_X10_byOuter hT hLb hB hb_pt hb_ih hb_il hb_ip hb_pn hb_op (q9 := q) (num := num) (v := port) (by omega) (by omega) (by omega)) kw2_224 yv_X10_byOuter ⟨Nat.le_of_ble_eq_true rfl, Nat.le_of_ble_eq_true rfl⟩ hK hP (va_recv hK hP (ci := 7) (q0 := kt) rfl hT) rfl hl.1 rfl (Nat.le_of_ble_eq_true rfl) dX10_admitFromOutside_10 ⟨(Nat.zero_le _), (Nat.zero_le _)⟩ ?_
  have eX : tg_at ba (fun k => decide (pt k = q ∧ pn k = num ∧ op k = port)) nb = some (ba b) := by rw [tg_at, hfb, if_pos hb9]
  rw [eX]
  refine W.eq (g2 := F0 m 13 ls [.ref (ba b)]) rfl ?_
  refine lv_astore_n (lv' := [(3, .ref (ba b)), (0, .ref tb), (1, .ref fl), (2, .int (nI num))]) hx hb dX10_admitFromOutside_13 rfl hl (by decide) rfl (fun ls hl => ?_)
  refine lv_aload_n hx hb dX10_admitFromOutside_14 rfl (lv_at hl 0 rfl) ?_
  refine lv_ifnull hx hb dX10_admitFromOutside_15 ?_
  refine lv_aload_n hx hb dX10_admitFromOutside_18 rfl (lv_at hl 1 rfl) ?_
  refine lv_aload_n hx hb dX10_admitFromOutside_19 rfl (lv_at hl 0 rfl) ?_
  refine lv_aload_n hx hb dX10_admitFromOutside_20 rfl (lv_at hl 2 rfl) ?_
  refine ro_V S (c_X10_meetsSession0 hT hLb hB hLs hS1 hb_fa hb_fp hb_st hb_en hf0 hq hport hfar hfpt hev hb9 (tg_first_no hfj)) kw2_180 yv_X10_meetsSession ⟨Nat.le_of_ble_eq_true rfl, Nat.le_of_ble_eq_true rfl⟩ hK hP (va_recv hK hP (ci := 7) (q0 := kt) rfl hT) rfl hl.1 rfl (Nat.le_of_ble_eq_true rfl) dX10_admitFromOutside_21 ⟨(Nat.zero_le _), (Nat.zero_le _)⟩ ?_
  refine nv_if_eqb (tgt := 29) hx hb dX10_admitFromOutside_24 (by decide) (fun _ => ?_) (fun h => absurd h (by decide))
  refine lv_aload_n hx hb dX10_admitFromOutside_29 rfl (lv_at hl 1 rfl) ?_
  refine lv_aload_n hx hb dX10_admitFromOutside_30 rfl (lv_at hl 2 rfl) ?_
  refine ro_V S (c_X10_mayAddSession hT hLs (by omega) hf0 hq hport hfar hfpt hev) kw2_197 yv_X10_mayAddSession ⟨Nat.le_of_ble_eq_true rfl, Nat.le_of_ble_eq_true rfl⟩ hK hP (va_recv hK hP (ci := 7) (q0 := kt) rfl hT) rfl hl.1 rfl (Nat.le_of_ble_eq_true rfl) dX10_admitFromOutside_31 ⟨(Nat.zero_le _), (Nat.zero_le _)⟩ ?_
  refine nv_if_neb (tgt := 39) hx hb dX10_admitFromOutside_34 (by decide) (fun h34 => ?_) (fun h34 => ?_)
  · skip
    exact absurd (of_decide_eq_true h34) hmay
  refine lv_null hx hb dX10_admitFromOutside_37 ?_
  exact hend (rfl) dX10_admitFromOutside_38
set_option maxHeartbeats 4000000 in
set_option maxRecDepth 100000 in
theorem c_X10_admitFromOutsideb {l : Launch} {D : va_G} {cy : Nat → ClassId} {ws : va_W} {kt tb lb ls T : Nat} (hT : ws[kt]? = some (tE tb lb ls T)) {kb eb nb e0 : Nat} {mb : Int32} (hLb : ws[kb]? = some (aL lb mb eb nb)) {ba pt ih il ip pn op : Nat → Nat} (hB : TB1 cy ws e0 eb nb ba pt ih il ip pn op) {kc es ns : Nat} {mc9 : Int32} (hLs : ws[kc]? = some (aL ls mc9 es ns)) {sa so fa fp st en : Nat → Nat} (hS1 : TS1 cy ws e0 es ns nb ba sa so fa fp st en) (hb_pt : ∀ i, pt i < 2 ^ 31) (hb_ih : ∀ i, ih i < 2 ^ 64) (hb_il : ∀ i, il i < 2 ^ 64) (hb_ip : ∀ i, ip i < 2 ^ 31) (hb_pn : ∀ i, pn i < 2 ^ 31) (hb_op : ∀ i, op i < 2 ^ 31) (hb_fa : ∀ i, fa i < 2 ^ 32) (hb_fp : ∀ i, fp i < 2 ^ 31) (hb_st : ∀ i, st i ≤ 7) (hb_en : ∀ i, en i < 2 ^ 62) {kf fl q port far fpt ev : Nat} {ins : Bool} (hf0 : ws[kf]? = some (fE fl ins q port far fpt ev)) (hq : q < 256) (hport : port < 65536) (hfar : far < 2 ^ 32) (hfpt : fpt < 65536) (hev : ev ≤ 3) {num : Nat} (hnum : num < 2 ^ 31) (hfb : ¬ tg_first (fun k => decide (pt k = q ∧ pn k = num ∧ op k = port)) nb < nb) : RO l yX10_admitFromOutside cX10_admitFromOutside 4 (some (.object "TransitGate$Binding")) 4 90 [.ref tb, .ref fl, .int (nI num)] D cy ws (va_rf (none)) := by
  refine ROr (by first | exact Or.inl ⟨_, rfl⟩ | exact Or.inr ⟨_, rfl⟩) (by decide) (lv0 := [(0, .ref tb), (1, .ref fl), (2, .int (nI num))]) rfl (Nat.le_of_ble_eq_true rfl) ?_
  intro p e s m args below meth c ls Q S hP hK hend hl
  have hx := S.1
  have hb := S.2.1
  have hown : s.vm.findClass RX10 = some m.cls := S.2.2.2.1
  have ht : ∀ w ∈ lw_g, w.before args s = true := fun w h => S.2.2.2.2 w (List.mem_cons_of_mem _ h)
  have hnb := hB.le
  have hns := hS1.le
  refine lv_aload_n hx hb dX10_admitFromOutside_0 rfl (lv_at hl 0 rfl) ?_
  refine lv_aload_n hx hb dX10_admitFromOutside_1 rfl (lv_at hl 1 rfl) ?_
  refine va_get (ci := 3) (C := RX2) (T := TX2) (N := 6) hx hb ht iFX2 hown hK hP kf hf0 rfl 1 (by decide) (ht _ kw2_122) (fun _ h9 => h9) rfl dX10_admitFromOutside_2 ?_
  refine lv_iload_n hx hb dX10_admitFromOutside_5 rfl (lv_at hl 2 rfl) ?_
  refine lv_aload_n hx hb dX10_admitFromOutside_6 rfl (lv_at hl 1 rfl) ?_
  refine va_get (ci := 3) (C := RX2) (T := TX2) (N := 6) hx hb ht iFX2 hown hK hP kf hf0 rfl 2 (by decide) (ht _ kw2_125) (fun _ h9 => h9) rfl dX10_admitFromOutside_7 ?_
  refine ro_V S (c_X10_byOuter hT hLb hB hb_pt hb_ih hb_il hb_ip hb_pn hb_op (q9 := q) (num := num) (v := port) (by omega) (by omega) (by omega)) kw2_224 yv_X10_byOuter ⟨Nat.le_of_ble_eq_true rfl, Nat.le_of_ble_eq_true rfl⟩ hK hP (va_recv hK hP (ci := 7) (q0 := kt) rfl hT) rfl hl.1 rfl (Nat.le_of_ble_eq_true rfl) dX10_admitFromOutside_10 ⟨(Nat.zero_le _), (Nat.zero_le _)⟩ ?_
  have eX : tg_at ba (fun k => decide (pt k = q ∧ pn k = num ∧ op k = port)) nb = none := if_neg hfb
  rw [eX]
  refine W.eq (g2 := F0 m 13 ls [.null]) rfl ?_
  refine lv_astore_nN (lv' := [(3, .null), (0, .ref tb), (1, .ref fl), (2, .int (nI num))]) hx hb dX10_admitFromOutside_13 rfl hl (by decide) rfl (fun ls hl => ?_)
  refine lv_aload_nN hx hb dX10_admitFromOutside_14 rfl (lv_at hl 0 rfl) ?_
  refine lv_ifnullN (tgt := 27) hx hb dX10_admitFromOutside_15 (by decide) ?_
  refine lv_aload_nN hx hb dX10_admitFromOutside_27 rfl (lv_at hl 0 rfl) ?_
  exact hend (rfl) dX10_admitFromOutside_28
