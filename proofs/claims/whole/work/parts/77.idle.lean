theorem dX10_letIdleBindingsGo_0 : decode cX10_letIdleBindingsGo 0 = .ok (.aload_n 0, 1) := by decide +kernel
theorem dX10_letIdleBindingsGo_1 : decode cX10_letIdleBindingsGo 1 = .ok (.getfield 12, 3) := by decide +kernel
theorem dX10_letIdleBindingsGo_4 : decode cX10_letIdleBindingsGo 4 = .ok (.invokevirtual 25, 3) := by decide +kernel
theorem dX10_letIdleBindingsGo_7 : decode cX10_letIdleBindingsGo 7 = .ok (.iconst 1, 1) := by decide +kernel
theorem dX10_letIdleBindingsGo_8 : decode cX10_letIdleBindingsGo 8 = .ok (.isub, 1) := by decide +kernel
theorem dX10_letIdleBindingsGo_9 : decode cX10_letIdleBindingsGo 9 = .ok (.istore_n 1, 1) := by decide +kernel
theorem dX10_letIdleBindingsGo_10 : decode cX10_letIdleBindingsGo 10 = .ok (.iload_n 1, 1) := by decide +kernel
theorem dX10_letIdleBindingsGo_11 : decode cX10_letIdleBindingsGo 11 = .ok (.ifCond .lt 36, 3) := by decide +kernel
theorem dX10_letIdleBindingsGo_14 : decode cX10_letIdleBindingsGo 14 = .ok (.aload_n 0, 1) := by decide +kernel
theorem dX10_letIdleBindingsGo_15 : decode cX10_letIdleBindingsGo 15 = .ok (.aload_n 0, 1) := by decide +kernel
theorem dX10_letIdleBindingsGo_16 : decode cX10_letIdleBindingsGo 16 = .ok (.getfield 12, 3) := by decide +kernel
theorem dX10_letIdleBindingsGo_19 : decode cX10_letIdleBindingsGo 19 = .ok (.iload_n 1, 1) := by decide +kernel
theorem dX10_letIdleBindingsGo_20 : decode cX10_letIdleBindingsGo 20 = .ok (.invokevirtual 29, 3) := by decide +kernel
theorem dX10_letIdleBindingsGo_23 : decode cX10_letIdleBindingsGo 23 = .ok (.checkcast 33, 3) := by decide +kernel
theorem dX10_letIdleBindingsGo_26 : decode cX10_letIdleBindingsGo 26 = .ok (.invokevirtual 53, 3) := by decide +kernel
theorem dX10_letIdleBindingsGo_29 : decode cX10_letIdleBindingsGo 29 = .ok (.ifCond .ne 12, 3) := by decide +kernel
theorem dX10_letIdleBindingsGo_32 : decode cX10_letIdleBindingsGo 32 = .ok (.aload_n 0, 1) := by decide +kernel
theorem dX10_letIdleBindingsGo_33 : decode cX10_letIdleBindingsGo 33 = .ok (.getfield 12, 3) := by decide +kernel
theorem dX10_letIdleBindingsGo_36 : decode cX10_letIdleBindingsGo 36 = .ok (.iload_n 1, 1) := by decide +kernel
theorem dX10_letIdleBindingsGo_37 : decode cX10_letIdleBindingsGo 37 = .ok (.invokevirtual 47, 3) := by decide +kernel
theorem dX10_letIdleBindingsGo_40 : decode cX10_letIdleBindingsGo 40 = .ok (.pop, 1) := by decide +kernel
theorem dX10_letIdleBindingsGo_41 : decode cX10_letIdleBindingsGo 41 = .ok (.iinc 1 (-1), 3) := by decide +kernel
theorem dX10_letIdleBindingsGo_44 : decode cX10_letIdleBindingsGo 44 = .ok (.goto (-34), 3) := by decide +kernel
theorem dX10_letIdleBindingsGo_47 : decode cX10_letIdleBindingsGo 47 = .ok (.return_, 1) := by decide +kernel
theorem yv_X10_letIdleBindingsGo : YV RX10 yX10_letIdleBindingsGo cX10_letIdleBindingsGo 2 none 0 := ⟨kw4_49, kws_18, kw1_6, kw4_50, by decide +kernel⟩
set_option maxHeartbeats 4000000 in
set_option maxRecDepth 100000 in
theorem c_X10_letIdleBindingsGo {l : Launch} {D : va_G} {cy : Nat → ClassId} {e0 : Nat × Nat} {ad : Nat → Nat} {tl dy : va_W} {eb es tp os bits F G u nb ns T M id : Nat} {mb mz : Int32} {ft fo : Nat → UInt8} {g : Nat → Int32} {dq ba sa pt ih il ip pn op so fa fp st en : Nat → Nat} (hDY : DY cy e0.1 dy eb es nb ns ba sa pt ih il ip pn op so fa fp st en) (hb_pt : ∀ i, pt i < 2 ^ 31) (hb_ih : ∀ i, ih i < 2 ^ 64) (hb_il : ∀ i, il i < 2 ^ 64) (hb_ip : ∀ i, ip i < 2 ^ 31) (hb_pn : ∀ i, pn i < 2 ^ 31) (hb_op : ∀ i, op i < 2 ^ 31) (hb_fa : ∀ i, fa i < 2 ^ 32) (hb_fp : ∀ i, fp i < 2 ^ 31) (hb_st : ∀ i, st i ≤ 7) (hb_en : ∀ i, en i < 2 ^ 62) {q9 : Nat → Bool} (hq9 : q9 = fun j => decide (0 < tg_cnt (fun k => decide (so k = j)) ns)) : WRX (S := (Int32 × va_W)) l yX10_letIdleBindingsGo cX10_letIdleBindingsGo 2 none 4 0 0 87 [.ref (ad 8)] D cy e0 ((cW cy ad eb es mb mz tp os bits F G u nb ns T M id ft fo g dq ++ tl) ++ dy) (fun _ => none) (fun z9 => DY cy e0.1 z9.2 eb es ((fl q9 nb 0).length) ns (pk ba (fl q9 nb 0)) sa (pk pt (fl q9 nb 0)) (pk ih (fl q9 nb 0)) (pk il (fl q9 nb 0)) (pk ip (fl q9 nb 0)) (pk pn (fl q9 nb 0)) (pk op (fl q9 nb 0)) (soC q9 so 0) fa fp st en) (fun z9 => (cW cy ad eb es z9.1 mz tp os bits F G u ((fl q9 nb 0).length) ns T M id ft fo g dq ++ tl) ++ z9.2) := by
  refine WRXv (by decide) (lv0 := [(0, .ref (ad 8))]) rfl (Nat.le_of_ble_eq_true rfl) ?_
  intro p e s m args below meth c ls A Q S hnm hP hK hD hS hA hE hend hl
  have hx := S.1
  have hb := S.2.1
  have hown : s.vm.findClass RX10 = some m.cls := S.2.2.2.1
  have ht : ∀ w ∈ lw_g, w.before args s = true := fun w h => S.2.2.2.2 w (List.mem_cons_of_mem _ h)
  have hP : va_P D vwCl ((cW cy ad eb es mb mz tp os bits F G u nb ns T M id ft fo g dq ++ tl) ++ dy) s.heap := hP
  have hT : ((cW cy ad eb es mb mz tp os bits F G u nb ns T M id ft fo g dq ++ tl) ++ dy)[8]? = some (tE (ad 8) (ad 9) (ad 10) T) := rfl
  have hLb : ((cW cy ad eb es mb mz tp os bits F G u nb ns T M id ft fo g dq ++ tl) ++ dy)[9]? = some (aL (ad 9) mb eb nb) := rfl
  have hLs : ((cW cy ad eb es mb mz tp os bits F G u nb ns T M id ft fo g dq ++ tl) ++ dy)[10]? = some (aL (ad 10) mz es ns) := rfl
  have hB : TB1 cy ((cW cy ad eb es mb mz tp os bits F G u nb ns T M id ft fo g dq ++ tl) ++ dy) e0.1 eb nb ba pt ih il ip pn op := hDY.1.app
  have hS1 : TS1 cy ((cW cy ad eb es mb mz tp os bits F G u nb ns T M id ft fo g dq ++ tl) ++ dy) e0.1 es ns nb ba sa so fa fp st en := hDY.2.1.app
  have hnb := hB.le
  have hns := hS1.le
  refine lv_aload_n hx hb dX10_letIdleBindingsGo_0 rfl (lv_at hl 0 rfl) ?_
  refine va_get (ci := 7) (C := RX10) (T := TX10) (N := 3) hx hb ht iFX10 hown hK hP 8 rfl rfl 0 (by decide) (ht _ kw1_113) (fun _ h9 => h9) rfl dX10_letIdleBindingsGo_1 ?_
  refine ro_V S (c_Jx4a65c_size_8abf5 hLb) kw2_157 yv_Jx4a65c_size_8abf5 ⟨Nat.le_of_ble_eq_true rfl, Nat.le_of_ble_eq_true rfl⟩ hK hP (va_recv hK hP (ci := 0) (q0 := 9) rfl rfl) rfl hl.1 rfl (Nat.le_of_ble_eq_true rfl) dX10_letIdleBindingsGo_4 ⟨(Nat.zero_le _), (Nat.zero_le _)⟩ ?_
  refine nv_iconst (k := 1) hx hb dX10_letIdleBindingsGo_7 rfl ?_
  refine lv_isub hx hb dX10_letIdleBindingsGo_8 ?_
  refine lv_istore_n (lv' := [(1, .int (dcr nb)), (0, .ref (ad 8))]) hx hb dX10_letIdleBindingsGo_9 rfl hl (by decide) rfl (fun ls hl => ?_)
  have L10 : ∀ (fu c9 : Nat) (dyx : va_W) (mbx : Int32) (H : Heap) (locs : List Loc), c9 < fu → c9 ≤ nb → DY cy e0.1 dyx eb es ((fl q9 nb c9).length) ns (pk ba (fl q9 nb c9)) sa (pk pt (fl q9 nb c9)) (pk ih (fl q9 nb c9)) (pk il (fl q9 nb c9)) (pk ip (fl q9 nb c9)) (pk pn (fl q9 nb c9)) (pk op (fl q9 nb c9)) (soC q9 so c9) fa fp st en → va_P D vwCl ((cW cy ad eb es mbx mz tp os bits F G u ((fl q9 nb c9).length) ns T M id ft fo g dq ++ tl) ++ dyx) H → va_D A ((cW cy ad eb es mbx mz tp os bits F G u ((fl q9 nb c9).length) ns T M id ft fo g dq ++ tl) ++ dyx) → va_S A s.heap H locs → ∀ ls : Array Slot, lv_has ls 2 [(0, .ref (ad 8)), (1, .int (dcr c9))] → W p l e (rmw 4 0 0 87) s m args below meth c H locs 0 0 Q (F0 m 10 ls []) := by
    intro fu
    induction fu with
    | zero => intro c9 dyx mbx H locs h9; omega
    | succ fu ihh =>
      intro c9 dyx mbx H locs hfu hc hDYx hP hD hS ls hl
      cases c9 with
      | zero =>
        rw [dcr_0] at hl
        refine lv_iload_n hx hb dX10_letIdleBindingsGo_10 rfl (lv_at hl 1 rfl) ?_
        refine lv_if_lt (tgt := 47) hx hb dX10_letIdleBindingsGo_11 (by decide) (fun _ => ?_) (fun h9 => absurd (by decide) h9)
        exact hend (mbx, dyx) hDYx hP hD hS dX10_letIdleBindingsGo_47
      | succ c9 =>
        rw [dcr_s] at hl
        have hfl := fl_le (p := q9) (n := nb) (c := c9 + 1)
        have hT : ((cW cy ad eb es mbx mz tp os bits F G u ((fl q9 nb (c9 + 1)).length) ns T M id ft fo g dq ++ tl) ++ dyx)[8]? = some (tE (ad 8) (ad 9) (ad 10) T) := rfl
        have hLb : ((cW cy ad eb es mbx mz tp os bits F G u ((fl q9 nb (c9 + 1)).length) ns T M id ft fo g dq ++ tl) ++ dyx)[9]? = some (aL (ad 9) mbx eb ((fl q9 nb (c9 + 1)).length)) := rfl
        have hLs : ((cW cy ad eb es mbx mz tp os bits F G u ((fl q9 nb (c9 + 1)).length) ns T M id ft fo g dq ++ tl) ++ dyx)[10]? = some (aL (ad 10) mz es ns) := rfl
        have hB : TB1 cy ((cW cy ad eb es mbx mz tp os bits F G u ((fl q9 nb (c9 + 1)).length) ns T M id ft fo g dq ++ tl) ++ dyx) e0.1 eb ((fl q9 nb (c9 + 1)).length) (pk ba (fl q9 nb (c9 + 1))) (pk pt (fl q9 nb (c9 + 1))) (pk ih (fl q9 nb (c9 + 1))) (pk il (fl q9 nb (c9 + 1))) (pk ip (fl q9 nb (c9 + 1))) (pk pn (fl q9 nb (c9 + 1))) (pk op (fl q9 nb (c9 + 1))) := hDYx.1.app
        have hS1 : TS1 cy ((cW cy ad eb es mbx mz tp os bits F G u ((fl q9 nb (c9 + 1)).length) ns T M id ft fo g dq ++ tl) ++ dyx) e0.1 es ns ((fl q9 nb (c9 + 1)).length) (pk ba (fl q9 nb (c9 + 1))) sa (soC q9 so (c9 + 1)) fa fp st en := hDYx.2.1.app
        have hlen := hB.le
        refine lv_iload_n hx hb dX10_letIdleBindingsGo_10 rfl (lv_at hl 1 rfl) ?_
        refine nv_if_lt (tgt := 47) hx hb dX10_letIdleBindingsGo_11 (by decide) (by omega) ?_
        refine lv_aload_n hx hb dX10_letIdleBindingsGo_14 rfl (lv_at hl 0 rfl) ?_
        refine lv_aload_n hx hb dX10_letIdleBindingsGo_15 rfl (lv_at hl 0 rfl) ?_
        refine va_get (ci := 7) (C := RX10) (T := TX10) (N := 3) hx hb ht iFX10 hown hK hP 8 rfl rfl 0 (by decide) (ht _ kw1_113) (fun _ h9 => h9) rfl dX10_letIdleBindingsGo_16 ?_
        refine lv_iload_n hx hb dX10_letIdleBindingsGo_19 rfl (lv_at hl 1 rfl) ?_
        refine ro_V S (c_getB hLb hB (i := c9) (by omega)) kw2_161 yv_Jx4a65c_get_915e3 ⟨Nat.le_of_ble_eq_true rfl, Nat.le_of_ble_eq_true rfl⟩ hK hP (va_recv hK hP (ci := 0) (q0 := 9) rfl rfl) rfl hl.1 rfl (Nat.le_of_ble_eq_true rfl) dX10_letIdleBindingsGo_20 ⟨(Nat.zero_le _), (Nat.zero_le _)⟩ ?_
        obtain ⟨k_1, hk_1⟩ := hB.at (i := c9) (by omega)
        refine va_castS hx hb hown (ht _ kw2_175) (hK.1 1 _ rfl).2 (va_recv hK hP (ci := 1) (q0 := k_1) rfl hk_1) dX10_letIdleBindingsGo_23 ?_
        refine ro_V S (c_X10_sessionsOf hT hLb hB hLs hS1 hb_fa hb_fp hb_st hb_en (b := c9) (by omega)) kw4_51 yv_X10_sessionsOf ⟨Nat.le_of_ble_eq_true rfl, Nat.le_of_ble_eq_true rfl⟩ hK hP (va_recv hK hP (ci := 7) (q0 := 8) rfl rfl) rfl hl.1 rfl (Nat.le_of_ble_eq_true rfl) dX10_letIdleBindingsGo_26 ⟨(Nat.zero_le _), (Nat.zero_le _)⟩ ?_
        have hcl := tg_cnt_le (fun k => decide (soC q9 so (c9 + 1) k = c9)) ns
        refine nv_if_ne (tgt := 41) hx hb dX10_letIdleBindingsGo_29 (by decide) (by omega) (fun h29 => ?_) (fun h29 => ?_)
        · skip
          refine lv_iinc (v := dcr c9) (lv' := [(1, .int (dcr c9)), (0, .ref (ad 8))]) hx hb dX10_letIdleBindingsGo_41 hl (k := 1) rfl (dcr_i c9) (by decide) rfl (fun ls hl => ?_)
          refine lv_goto (tgt := 10) hx hb dX10_letIdleBindingsGo_44 (by decide) ?_
          have hqc : q9 c9 = true := by rw [hq9]; refine decide_eq_true ?_; rw [← tg_cnt_cong (fun k _ => decide_eq_decide.mpr (soC_eq (q := q9) (so := so) (c := c9) (s := k)))]; omega
          rw [← fl_keep (by omega) hqc] at hP hD hDYx
          rw [soC_keep hqc] at hDYx
          exact ihh c9 dyx mbx H locs (by omega) (by omega) hDYx hP hD hS ls (lv_sub hl [1, 0] rfl)
        refine lv_aload_n hx hb dX10_letIdleBindingsGo_32 rfl (lv_at hl 0 rfl) ?_
        refine va_get (ci := 7) (C := RX10) (T := TX10) (N := 3) hx hb ht iFX10 hown hK hP 8 rfl rfl 0 (by decide) (ht _ kw1_113) (fun _ h9 => h9) rfl dX10_letIdleBindingsGo_33 ?_
        refine lv_iload_n hx hb dX10_letIdleBindingsGo_36 rfl (lv_at hl 1 rfl) ?_
        have he9 := e0_outr hE hD
        obtain ⟨Nx, fx, hADx, hnx, h3x, h4x⟩ := hDYx.1
        refine wx_V S (c_remove (pre := (cW cy ad eb es mbx mz tp os bits F G u ((fl q9 nb (c9 + 1)).length) ns T M id ft fo g dq ++ tl)) (dy := dyx) (kl := 9) rfl hADx (i := c9) (by omega) (TB1.obj (N := Nx) h3x) (ci := 1) rfl (Or.inl rfl) (by decide)) kw4_38 yv_Jx4a65c_remove_915e3 ⟨Nat.le_of_ble_eq_true rfl, Nat.le_of_ble_eq_true rfl⟩ hK hP hD hS hA hE (va_recv hK hP (ci := 0) (q0 := 9) rfl rfl) rfl hl.1 rfl (Nat.le_of_ble_eq_true rfl) dX10_letIdleBindingsGo_37 ⟨(Nat.zero_le _), (Nat.zero_le _)⟩ (fun u37 H locs hu37 hP hD hS => ?_)
        refine W.eq (g2 := F0 m 40 ls [.ref ((pk ba (fl q9 nb (c9 + 1))) c9)]) (by show F0 m 40 ls ((some (va_rf (fx c9))).toList ++ []) = _; rw [(h3x c9 (by omega)).1]; rfl) ?_
        have hP : va_P D vwCl ((cW cy ad eb es (mbx + nI 1) mz tp os bits F G u ((fl q9 nb (c9 + 1)).length - 1) ns T M id ft fo g dq ++ tl) ++ u37) H := hP
        have hD : va_D A ((cW cy ad eb es (mbx + nI 1) mz tp os bits F G u ((fl q9 nb (c9 + 1)).length - 1) ns T M id ft fo g dq ++ tl) ++ u37) := hD
        refine lv_pop hx hb dX10_letIdleBindingsGo_40 rfl ?_
        refine lv_iinc (v := dcr c9) (lv' := [(1, .int (dcr c9)), (0, .ref (ad 8))]) hx hb dX10_letIdleBindingsGo_41 hl (k := 1) rfl (dcr_i c9) (by decide) rfl (fun ls hl => ?_)
        refine lv_goto (tgt := 10) hx hb dX10_letIdleBindingsGo_44 (by decide) ?_
        have hz9 : tg_cnt (fun k => decide (so k = c9)) ns = 0 := by rw [← tg_cnt_cong (fun k _ => decide_eq_decide.mpr (soC_eq (q := q9) (so := so) (c := c9) (s := k)))]; omega
        have hqc : q9 c9 = false := by rw [hq9]; exact decide_eq_false (by omega)
        have hlen2 := fl_drop_len (p := q9) (n := nb) (c := c9) (by omega) hqc
        have hso9 : ∀ s, s < ns → so s ≠ c9 := fun s hs => of_decide_eq_false (tg_cnt_no hz9 s hs)
        have d1 := TB1.rm (N := Nx) h3x h4x hnx (by omega) hu37
        have d2 := (hDYx.2.1.kp hu37.2 (fun e => by rw [← e]; exact hDYx.2.2 e) he9).rmB (i := c9) (by omega) (fun s hs => fun z => hso9 s hs (soC_eq.mp z))
        rw [fl_drop (by omega) hqc, fl_drop (by omega) hqc, fl_drop (by omega) hqc, fl_drop (by omega) hqc, fl_drop (by omega) hqc, fl_drop (by omega) hqc, fl_drop (by omega) hqc] at d1
        rw [fl_drop (by omega) hqc] at d2
        have el : (fl q9 nb (c9 + 1)).length - 1 = (fl q9 nb c9).length := by omega
        rw [el] at hP hD d1 d2
        exact ihh c9 u37 (mbx + nI 1) H locs (by omega) (by omega) ⟨d1, d2.cong (fun j hj => ⟨rfl, soC_drop hqc (hso9 j hj), rfl, rfl, rfl, rfl⟩) (fun i hi => rfl), hDYx.2.2⟩ hP hD hS ls (lv_sub hl [1, 0] rfl)
  exact L10 (nb + 1) nb dy mb s.heap [] (by omega) (by omega) (by rw [fl_top, List.length_range]; exact ⟨hDY.1.cong (fun j hj => by simp only [pk, range_at hj, and_self]), hDY.2.1.cong (fun j hj => ⟨rfl, (soC_top (hDY.2.1.own hj)).symm, rfl, rfl, rfl, rfl⟩) (fun i hi => by simp only [pk, range_at hi]), hDY.2.2⟩) (by rw [fl_top, List.length_range]; exact hP) (by rw [fl_top, List.length_range]; exact hD) hS ls (lv_sub hl [1, 0] rfl)
theorem dX10_pass_0 : decode cX10_pass 0 = .ok (.aload_n 0, 1) := by decide +kernel
theorem dX10_pass_1 : decode cX10_pass 1 = .ok (.dup, 1) := by decide +kernel
theorem dX10_pass_2 : decode cX10_pass 2 = .ok (.getfield 21, 3) := by decide +kernel
theorem dX10_pass_5 : decode cX10_pass 5 = .ok (.iload_n 1, 1) := by decide +kernel
theorem dX10_pass_6 : decode cX10_pass 6 = .ok (.i2l, 1) := by decide +kernel
theorem dX10_pass_7 : decode cX10_pass 7 = .ok (.ladd, 1) := by decide +kernel
theorem dX10_pass_8 : decode cX10_pass 8 = .ok (.putfield 21, 3) := by decide +kernel
theorem dX10_pass_11 : decode cX10_pass 11 = .ok (.aload_n 0, 1) := by decide +kernel
theorem dX10_pass_12 : decode cX10_pass 12 = .ok (.getfield 18, 3) := by decide +kernel
theorem dX10_pass_15 : decode cX10_pass 15 = .ok (.invokevirtual 25, 3) := by decide +kernel
theorem dX10_pass_18 : decode cX10_pass 18 = .ok (.istore_n 2, 1) := by decide +kernel
theorem dX10_pass_19 : decode cX10_pass 19 = .ok (.iload_n 2, 1) := by decide +kernel
theorem dX10_pass_20 : decode cX10_pass 20 = .ok (.iconst 1, 1) := by decide +kernel
theorem dX10_pass_21 : decode cX10_pass 21 = .ok (.isub, 1) := by decide +kernel
theorem dX10_pass_22 : decode cX10_pass 22 = .ok (.istore_n 3, 1) := by decide +kernel
theorem dX10_pass_23 : decode cX10_pass 23 = .ok (.iload_n 3, 1) := by decide +kernel
theorem dX10_pass_24 : decode cX10_pass 24 = .ok (.ifCond .lt 40, 3) := by decide +kernel
theorem dX10_pass_27 : decode cX10_pass 27 = .ok (.aload_n 0, 1) := by decide +kernel
theorem dX10_pass_28 : decode cX10_pass 28 = .ok (.getfield 18, 3) := by decide +kernel
theorem dX10_pass_31 : decode cX10_pass 31 = .ok (.iload_n 3, 1) := by decide +kernel
theorem dX10_pass_32 : decode cX10_pass 32 = .ok (.invokevirtual 29, 3) := by decide +kernel
theorem dX10_pass_35 : decode cX10_pass 35 = .ok (.checkcast 35, 3) := by decide +kernel
theorem dX10_pass_38 : decode cX10_pass 38 = .ok (.getfield 44, 3) := by decide +kernel
theorem dX10_pass_41 : decode cX10_pass 41 = .ok (.aload_n 0, 1) := by decide +kernel
theorem dX10_pass_42 : decode cX10_pass 42 = .ok (.getfield 21, 3) := by decide +kernel
theorem dX10_pass_45 : decode cX10_pass 45 = .ok (.lcmp, 1) := by decide +kernel
theorem dX10_pass_46 : decode cX10_pass 46 = .ok (.ifCond .gt 12, 3) := by decide +kernel
theorem dX10_pass_49 : decode cX10_pass 49 = .ok (.aload_n 0, 1) := by decide +kernel
theorem dX10_pass_50 : decode cX10_pass 50 = .ok (.getfield 18, 3) := by decide +kernel
theorem dX10_pass_53 : decode cX10_pass 53 = .ok (.iload_n 3, 1) := by decide +kernel
theorem dX10_pass_54 : decode cX10_pass 54 = .ok (.invokevirtual 47, 3) := by decide +kernel
theorem dX10_pass_57 : decode cX10_pass 57 = .ok (.pop, 1) := by decide +kernel
theorem dX10_pass_58 : decode cX10_pass 58 = .ok (.iinc 3 (-1), 3) := by decide +kernel
theorem dX10_pass_61 : decode cX10_pass 61 = .ok (.goto (-38), 3) := by decide +kernel
theorem dX10_pass_64 : decode cX10_pass 64 = .ok (.iload_n 2, 1) := by decide +kernel
theorem dX10_pass_65 : decode cX10_pass 65 = .ok (.aload_n 0, 1) := by decide +kernel
theorem dX10_pass_66 : decode cX10_pass 66 = .ok (.getfield 18, 3) := by decide +kernel
theorem dX10_pass_69 : decode cX10_pass 69 = .ok (.invokevirtual 25, 3) := by decide +kernel
theorem dX10_pass_72 : decode cX10_pass 72 = .ok (.isub, 1) := by decide +kernel
theorem dX10_pass_73 : decode cX10_pass 73 = .ok (.istore_n 3, 1) := by decide +kernel
theorem dX10_pass_74 : decode cX10_pass 74 = .ok (.iload_n 3, 1) := by decide +kernel
theorem dX10_pass_75 : decode cX10_pass 75 = .ok (.ifCond .le 7, 3) := by decide +kernel
theorem dX10_pass_78 : decode cX10_pass 78 = .ok (.aload_n 0, 1) := by decide +kernel
theorem dX10_pass_79 : decode cX10_pass 79 = .ok (.invokevirtual 50, 3) := by decide +kernel
theorem dX10_pass_82 : decode cX10_pass 82 = .ok (.iload_n 3, 1) := by decide +kernel
theorem dX10_pass_83 : decode cX10_pass 83 = .ok (.ireturn, 1) := by decide +kernel
theorem yv_X10_pass : YV RX10 yX10_pass cX10_pass 4 (some .int) 1 := ⟨kw4_35, kw4_36, kw1_6, kw4_37, by decide +kernel⟩
set_option maxHeartbeats 4000000 in
set_option maxRecDepth 100000 in
theorem c_X10_pass {l : Launch} {D : va_G} {cy : Nat → ClassId} {e0 : Nat × Nat} {ad : Nat → Nat} {tl dy : va_W} {eb es tp os bits F G u nb ns T M id : Nat} {mb mz : Int32} {ft fo : Nat → UInt8} {g : Nat → Int32} {dq ba sa pt ih il ip pn op so fa fp st en : Nat → Nat} (hDY : DY cy e0.1 dy eb es nb ns ba sa pt ih il ip pn op so fa fp st en) (hb_pt : ∀ i, pt i < 2 ^ 31) (hb_ih : ∀ i, ih i < 2 ^ 64) (hb_il : ∀ i, il i < 2 ^ 64) (hb_ip : ∀ i, ip i < 2 ^ 31) (hb_pn : ∀ i, pn i < 2 ^ 31) (hb_op : ∀ i, op i < 2 ^ 31) (hb_fa : ∀ i, fa i < 2 ^ 32) (hb_fp : ∀ i, fp i < 2 ^ 31) (hb_st : ∀ i, st i ≤ 7) (hb_en : ∀ i, en i < 2 ^ 62) (hownb : ∀ b, b < nb → ∃ j, j < ns ∧ so j = b) {n9 : Nat} (hn9 : n9 ≤ 10000) (hT62 : T < 2 ^ 61) {p9 q9 : Nat → Bool} (hp9 : p9 = fun j => decide (T + n9 < en j)) (hq9 : q9 = fun j => decide (0 < tg_cnt (fun k => decide (pk so (fl p9 ns 0) k = j)) (fl p9 ns 0).length)) : WRX (S := (Int32 × Int32 × va_W)) l yX10_pass cX10_pass 4 (some .int) 5 0 0 108 [.ref (ad 8), .int (nI n9)] D cy e0 ((cW cy ad eb es mb mz tp os bits F G u nb ns T M id ft fo g dq ++ tl) ++ dy) (fun u_ => some (.int (nI (ns - (fl p9 ns 0).length)))) (fun z9 => DY cy e0.1 z9.2.2 eb es ((fl q9 nb 0).length) ((fl p9 ns 0).length) (pk ba (fl q9 nb 0)) (pk sa (fl p9 ns 0)) (pk pt (fl q9 nb 0)) (pk ih (fl q9 nb 0)) (pk il (fl q9 nb 0)) (pk ip (fl q9 nb 0)) (pk pn (fl q9 nb 0)) (pk op (fl q9 nb 0)) (soC q9 (pk so (fl p9 ns 0)) 0) (pk fa (fl p9 ns 0)) (pk fp (fl p9 ns 0)) (pk st (fl p9 ns 0)) (pk en (fl p9 ns 0))) (fun z9 => (cW cy ad eb es z9.1 z9.2.1 tp os bits F G u ((fl q9 nb 0).length) ((fl p9 ns 0).length) (T + n9) M id ft fo g dq ++ tl) ++ z9.2.2) := by
  refine WRXi (by decide) (lv0 := [(0, .ref (ad 8)), (1, .int (nI n9))]) rfl (Nat.le_of_ble_eq_true rfl) ?_
  intro p e s m args below meth c ls A Q S hnm hP hK hD hS hA hE hend hl
  have hx := S.1
  have hb := S.2.1
  have hown : s.vm.findClass RX10 = some m.cls := S.2.2.2.1
  have ht : ∀ w ∈ lw_g, w.before args s = true := fun w h => S.2.2.2.2 w (List.mem_cons_of_mem _ h)
  have hP : va_P D vwCl ((cW cy ad eb es mb mz tp os bits F G u nb ns T M id ft fo g dq ++ tl) ++ dy) s.heap := hP
  have hT : ((cW cy ad eb es mb mz tp os bits F G u nb ns T M id ft fo g dq ++ tl) ++ dy)[8]? = some (tE (ad 8) (ad 9) (ad 10) T) := rfl
  have hLb : ((cW cy ad eb es mb mz tp os bits F G u nb ns T M id ft fo g dq ++ tl) ++ dy)[9]? = some (aL (ad 9) mb eb nb) := rfl
  have hLs : ((cW cy ad eb es mb mz tp os bits F G u nb ns T M id ft fo g dq ++ tl) ++ dy)[10]? = some (aL (ad 10) mz es ns) := rfl
  have hB : TB1 cy ((cW cy ad eb es mb mz tp os bits F G u nb ns T M id ft fo g dq ++ tl) ++ dy) e0.1 eb nb ba pt ih il ip pn op := hDY.1.app
  have hS1 : TS1 cy ((cW cy ad eb es mb mz tp os bits F G u nb ns T M id ft fo g dq ++ tl) ++ dy) e0.1 es ns nb ba sa so fa fp st en := hDY.2.1.app
  have hnb := hB.le
  have hns := hS1.le
  refine lv_aload_n hx hb dX10_pass_0 rfl (lv_at hl 0 rfl) ?_
  refine lv_dup hx hb dX10_pass_1 rfl ?_
  refine va_get (ci := 7) (C := RX10) (T := TX10) (N := 3) hx hb ht iFX10 hown hK hP 8 rfl rfl 2 (by decide) (ht _ kw1_115) (fun _ h9 => h9) rfl dX10_pass_2 ?_
  refine lv_iload_n hx hb dX10_pass_5 rfl (lv_at hl 1 rfl) ?_
  refine nv_i2l hx hb (by omega) dX10_pass_6 ?_
  refine nv_ladd hx hb dX10_pass_7 ?_
  refine va_put (ci := 7) (C := RX10) (T := TX10) (N := 3) (ty := tyX10 2) hx hb ht iFX10 tyX10 tyX10_ok nmX10 hown hK hP hD hS 8 rfl rfl 2 (by decide) (ht _ kw1_115) (fun _ h9 => h9) rfl (by decide +kernel) (by first | rfl | decide) (by first | rfl | decide) (Nat.le_of_ble_eq_true rfl) dX10_pass_8 (fun H locs hP hD hS => ?_)
  have hP : va_P D vwCl ((cW cy ad eb es mb mz tp os bits F G u nb ns (T + (n9)) M id ft fo g dq ++ tl) ++ dy) H := hP
  have hD : va_D A ((cW cy ad eb es mb mz tp os bits F G u nb ns (T + (n9)) M id ft fo g dq ++ tl) ++ dy) := hD
  have hT : ((cW cy ad eb es mb mz tp os bits F G u nb ns (T + (n9)) M id ft fo g dq ++ tl) ++ dy)[8]? = some (tE (ad 8) (ad 9) (ad 10) (T + (n9))) := rfl
  have hLb : ((cW cy ad eb es mb mz tp os bits F G u nb ns (T + (n9)) M id ft fo g dq ++ tl) ++ dy)[9]? = some (aL (ad 9) mb eb nb) := rfl
  have hLs : ((cW cy ad eb es mb mz tp os bits F G u nb ns (T + (n9)) M id ft fo g dq ++ tl) ++ dy)[10]? = some (aL (ad 10) mz es ns) := rfl
  have hB : TB1 cy ((cW cy ad eb es mb mz tp os bits F G u nb ns (T + (n9)) M id ft fo g dq ++ tl) ++ dy) e0.1 eb nb ba pt ih il ip pn op := hDY.1.app
  have hS1 : TS1 cy ((cW cy ad eb es mb mz tp os bits F G u nb ns (T + (n9)) M id ft fo g dq ++ tl) ++ dy) e0.1 es ns nb ba sa so fa fp st en := hDY.2.1.app
  refine lv_aload_n hx hb dX10_pass_11 rfl (lv_at hl 0 rfl) ?_
  refine va_get (ci := 7) (C := RX10) (T := TX10) (N := 3) hx hb ht iFX10 hown hK hP 8 rfl rfl 1 (by decide) (ht _ kw1_114) (fun _ h9 => h9) rfl dX10_pass_12 ?_
  refine ro_V S (c_Jx4a65c_size_8abf5 hLs) kw2_157 yv_Jx4a65c_size_8abf5 ⟨Nat.le_of_ble_eq_true rfl, Nat.le_of_ble_eq_true rfl⟩ hK hP (va_recv hK hP (ci := 0) (q0 := 10) rfl rfl) rfl hl.1 rfl (Nat.le_of_ble_eq_true rfl) dX10_pass_15 ⟨(Nat.zero_le _), (Nat.zero_le _)⟩ ?_
  refine lv_istore_n (lv' := [(2, .int (nI ns)), (0, .ref (ad 8)), (1, .int (nI n9))]) hx hb dX10_pass_18 rfl hl (by decide) rfl (fun ls hl => ?_)
  refine lv_iload_n hx hb dX10_pass_19 rfl (lv_at hl 0 rfl) ?_
  refine nv_iconst (k := 1) hx hb dX10_pass_20 rfl ?_
  refine lv_isub hx hb dX10_pass_21 ?_
  refine lv_istore_n (lv' := [(3, .int (dcr ns)), (2, .int (nI ns)), (0, .ref (ad 8)), (1, .int (nI n9))]) hx hb dX10_pass_22 rfl hl (by decide) rfl (fun ls hl => ?_)
  have L23 : ∀ (fu c9 : Nat) (dyx : va_W) (mzx : Int32) (H : Heap) (locs : List Loc), c9 < fu → c9 ≤ ns → DY cy e0.1 dyx eb es nb ((fl p9 ns c9).length) ba (pk sa (fl p9 ns c9)) pt ih il ip pn op (pk so (fl p9 ns c9)) (pk fa (fl p9 ns c9)) (pk fp (fl p9 ns c9)) (pk st (fl p9 ns c9)) (pk en (fl p9 ns c9)) → va_P D vwCl ((cW cy ad eb es mb mzx tp os bits F G u nb ((fl p9 ns c9).length) (T + (n9)) M id ft fo g dq ++ tl) ++ dyx) H → va_D A ((cW cy ad eb es mb mzx tp os bits F G u nb ((fl p9 ns c9).length) (T + (n9)) M id ft fo g dq ++ tl) ++ dyx) → va_S A s.heap H locs → ∀ ls : Array Slot, lv_has ls 4 [(0, .ref (ad 8)), (1, .int (nI n9)), (2, .int (nI ns)), (3, .int (dcr c9))] → W p l e (rmw 5 0 0 108) s m args below meth c H locs 0 0 Q (F0 m 23 ls []) := by
    intro fu
    induction fu with
    | zero => intro c9 dyx mzx H locs h9; omega
    | succ fu ihh =>
      intro c9 dyx mzx H locs hfu hc hDYx hP hD hS ls hl
      cases c9 with
      | zero =>
        rw [dcr_0] at hl
        have hln := fl_ln (p := p9) (n := ns) (c := 0) (by omega)
        have hT : ((cW cy ad eb es mb mzx tp os bits F G u nb ((fl p9 ns 0).length) (T + (n9)) M id ft fo g dq ++ tl) ++ dyx)[8]? = some (tE (ad 8) (ad 9) (ad 10) (T + (n9))) := rfl
        have hLb : ((cW cy ad eb es mb mzx tp os bits F G u nb ((fl p9 ns 0).length) (T + (n9)) M id ft fo g dq ++ tl) ++ dyx)[9]? = some (aL (ad 9) mb eb nb) := rfl
        have hLs : ((cW cy ad eb es mb mzx tp os bits F G u nb ((fl p9 ns 0).length) (T + (n9)) M id ft fo g dq ++ tl) ++ dyx)[10]? = some (aL (ad 10) mzx es ((fl p9 ns 0).length)) := rfl
        have hB : TB1 cy ((cW cy ad eb es mb mzx tp os bits F G u nb ((fl p9 ns 0).length) (T + (n9)) M id ft fo g dq ++ tl) ++ dyx) e0.1 eb nb ba pt ih il ip pn op := hDYx.1.app
        have hS1 : TS1 cy ((cW cy ad eb es mb mzx tp os bits F G u nb ((fl p9 ns 0).length) (T + (n9)) M id ft fo g dq ++ tl) ++ dyx) e0.1 es ((fl p9 ns 0).length) nb ba (pk sa (fl p9 ns 0)) (pk so (fl p9 ns 0)) (pk fa (fl p9 ns 0)) (pk fp (fl p9 ns 0)) (pk st (fl p9 ns 0)) (pk en (fl p9 ns 0)) := hDYx.2.1.app
        refine lv_iload_n hx hb dX10_pass_23 rfl (lv_at hl 3 rfl) ?_
        refine lv_if_lt (tgt := 64) hx hb dX10_pass_24 (by decide) (fun _ => ?_) (fun h9 => absurd (by decide) h9)
        refine lv_iload_n hx hb dX10_pass_64 rfl (lv_at hl 2 rfl) ?_
        refine lv_aload_n hx hb dX10_pass_65 rfl (lv_at hl 0 rfl) ?_
        refine va_get (ci := 7) (C := RX10) (T := TX10) (N := 3) hx hb ht iFX10 hown hK hP 8 rfl rfl 1 (by decide) (ht _ kw1_114) (fun _ h9 => h9) rfl dX10_pass_66 ?_
        refine ro_V S (c_Jx4a65c_size_8abf5 hLs) kw2_157 yv_Jx4a65c_size_8abf5 ⟨Nat.le_of_ble_eq_true rfl, Nat.le_of_ble_eq_true rfl⟩ hK hP (va_recv hK hP (ci := 0) (q0 := 10) rfl rfl) rfl hl.1 rfl (Nat.le_of_ble_eq_true rfl) dX10_pass_69 ⟨(Nat.zero_le _), (Nat.zero_le _)⟩ ?_
        refine nv_isub hx hb (by omega) dX10_pass_72 ?_
        refine lv_istore_n (lv' := [(3, .int (nI (ns - ((fl p9 ns 0).length)))), (0, .ref (ad 8)), (1, .int (nI n9)), (2, .int (nI ns))]) hx hb dX10_pass_73 rfl hl (by decide) rfl (fun ls hl => ?_)
        refine lv_iload_n hx hb dX10_pass_74 rfl (lv_at hl 0 rfl) ?_
        refine nv_if_le (tgt := 82) hx hb dX10_pass_75 (by decide) (by omega) (fun h75 => ?_) (fun h75 => ?_)
        · skip
          refine lv_iload_n hx hb dX10_pass_82 rfl (lv_at hl 0 rfl) ?_
          obtain ⟨e5, e6⟩ := DY.stay (by omega) hownb hDYx hq9
          exact hend (mb, mzx, dyx) (congrArg nI (by omega)) e6 (by rw [e5]; exact hP) (by rw [e5]; exact hD) hS dX10_pass_83
        refine lv_aload_n hx hb dX10_pass_78 rfl (lv_at hl 1 rfl) ?_
        refine wx_V S (c_X10_letIdleBindingsGo hDYx hb_pt hb_ih hb_il hb_ip hb_pn hb_op (fun i => hb_fa _) (fun i => hb_fp _) (fun i => hb_st _) (fun i => hb_en _) (q9 := q9) hq9) kw4_47 yv_X10_letIdleBindingsGo ⟨Nat.le_of_ble_eq_true rfl, Nat.le_of_ble_eq_true rfl⟩ hK hP hD hS hA hE (va_recv hK hP (ci := 7) (q0 := 8) rfl rfl) rfl hl.1 rfl (Nat.le_of_ble_eq_true rfl) dX10_pass_79 ⟨(Nat.zero_le _), (Nat.zero_le _)⟩ (fun z1 H locs hz1 hP hD hS => ?_)
        have hP : va_P D vwCl ((cW cy ad eb es z1.1 mzx tp os bits F G u ((fl q9 nb 0).length) ((fl p9 ns 0).length) (T + (n9)) M id ft fo g dq ++ tl) ++ z1.2) H := hP
        have hD : va_D A ((cW cy ad eb es z1.1 mzx tp os bits F G u ((fl q9 nb 0).length) ((fl p9 ns 0).length) (T + (n9)) M id ft fo g dq ++ tl) ++ z1.2) := hD
        refine W.eq (g2 := F0 m 82 ls []) rfl ?_
        refine lv_iload_n hx hb dX10_pass_82 rfl (lv_at hl 0 rfl) ?_
        exact hend (z1.1, mzx, z1.2) (congrArg nI (by omega)) hz1 hP hD hS dX10_pass_83
      | succ c9 =>
        rw [dcr_s] at hl
        have hfl := fl_le (p := p9) (n := ns) (c := c9 + 1)
        have hT : ((cW cy ad eb es mb mzx tp os bits F G u nb ((fl p9 ns (c9 + 1)).length) (T + (n9)) M id ft fo g dq ++ tl) ++ dyx)[8]? = some (tE (ad 8) (ad 9) (ad 10) (T + (n9))) := rfl
        have hLb : ((cW cy ad eb es mb mzx tp os bits F G u nb ((fl p9 ns (c9 + 1)).length) (T + (n9)) M id ft fo g dq ++ tl) ++ dyx)[9]? = some (aL (ad 9) mb eb nb) := rfl
        have hLs : ((cW cy ad eb es mb mzx tp os bits F G u nb ((fl p9 ns (c9 + 1)).length) (T + (n9)) M id ft fo g dq ++ tl) ++ dyx)[10]? = some (aL (ad 10) mzx es ((fl p9 ns (c9 + 1)).length)) := rfl
        have hB : TB1 cy ((cW cy ad eb es mb mzx tp os bits F G u nb ((fl p9 ns (c9 + 1)).length) (T + (n9)) M id ft fo g dq ++ tl) ++ dyx) e0.1 eb nb ba pt ih il ip pn op := hDYx.1.app
        have hS1 : TS1 cy ((cW cy ad eb es mb mzx tp os bits F G u nb ((fl p9 ns (c9 + 1)).length) (T + (n9)) M id ft fo g dq ++ tl) ++ dyx) e0.1 es ((fl p9 ns (c9 + 1)).length) nb ba (pk sa (fl p9 ns (c9 + 1))) (pk so (fl p9 ns (c9 + 1))) (pk fa (fl p9 ns (c9 + 1))) (pk fp (fl p9 ns (c9 + 1))) (pk st (fl p9 ns (c9 + 1))) (pk en (fl p9 ns (c9 + 1))) := hDYx.2.1.app
        have hlen := hS1.le
        have een : pk en (fl p9 ns (c9 + 1)) c9 = en c9 := by rw [pk, fl_at (by omega)]
        have hen9 := hb_en c9
        refine lv_iload_n hx hb dX10_pass_23 rfl (lv_at hl 3 rfl) ?_
        refine nv_if_lt (tgt := 64) hx hb dX10_pass_24 (by decide) (by omega) ?_
        refine lv_aload_n hx hb dX10_pass_27 rfl (lv_at hl 0 rfl) ?_
        refine va_get (ci := 7) (C := RX10) (T := TX10) (N := 3) hx hb ht iFX10 hown hK hP 8 rfl rfl 1 (by decide) (ht _ kw1_114) (fun _ h9 => h9) rfl dX10_pass_28 ?_
        refine lv_iload_n hx hb dX10_pass_31 rfl (lv_at hl 3 rfl) ?_
        refine ro_V S (c_getS hLs hS1 (i := c9) (by omega)) kw2_161 yv_Jx4a65c_get_915e3 ⟨Nat.le_of_ble_eq_true rfl, Nat.le_of_ble_eq_true rfl⟩ hK hP (va_recv hK hP (ci := 0) (q0 := 10) rfl rfl) rfl hl.1 rfl (Nat.le_of_ble_eq_true rfl) dX10_pass_32 ⟨(Nat.zero_le _), (Nat.zero_le _)⟩ ?_
        obtain ⟨k_1, hk_1⟩ := hS1.at (i := c9) (by omega)
        refine va_castS hx hb hown (ht _ kw2_184) (hK.1 5 _ rfl).2 (va_recv hK hP (ci := 5) (q0 := k_1) rfl hk_1) dX10_pass_35 ?_
        refine va_get (ci := 5) (C := RX7) (T := TX7) (N := 5) hx hb ht iFX7 hown hK hP k_1 hk_1 rfl 4 (by decide) (ht _ kw3_99) (fun _ h9 => h9) rfl dX10_pass_38 ?_
        rw [een]
        refine lv_aload_n hx hb dX10_pass_41 rfl (lv_at hl 0 rfl) ?_
        refine va_get (ci := 7) (C := RX10) (T := TX10) (N := 3) hx hb ht iFX10 hown hK hP 8 rfl rfl 2 (by decide) (ht _ kw1_115) (fun _ h9 => h9) rfl dX10_pass_42 ?_
        refine nv_Lcmp_gt (tgt := 58) hx hb dX10_pass_45 dX10_pass_46 (by decide) (by omega) (by omega) (fun h45 => ?_) (fun h45 => ?_)
        · skip
          refine lv_iinc (v := dcr c9) (lv' := [(3, .int (dcr c9)), (0, .ref (ad 8)), (1, .int (nI n9)), (2, .int (nI ns))]) hx hb dX10_pass_58 hl (k := 3) rfl (dcr_i c9) (by decide) rfl (fun ls hl => ?_)
          refine lv_goto (tgt := 23) hx hb dX10_pass_61 (by decide) ?_
          have hpc : p9 c9 = true := by rw [hp9]; exact decide_eq_true (by omega)
          rw [← fl_keep (by omega) hpc] at hP hD hDYx
          exact ihh c9 dyx mzx H locs (by omega) (by omega) hDYx hP hD hS ls (lv_sub hl [1, 2, 3, 0] rfl)
        refine lv_aload_n hx hb dX10_pass_49 rfl (lv_at hl 0 rfl) ?_
        refine va_get (ci := 7) (C := RX10) (T := TX10) (N := 3) hx hb ht iFX10 hown hK hP 8 rfl rfl 1 (by decide) (ht _ kw1_114) (fun _ h9 => h9) rfl dX10_pass_50 ?_
        refine lv_iload_n hx hb dX10_pass_53 rfl (lv_at hl 3 rfl) ?_
        have he9 := e0_outr hE hD
        obtain ⟨Nx, fx, hADx, hnx, h3x, h4x⟩ := hDYx.2.1
        refine wx_V S (c_remove (pre := (cW cy ad eb es mb mzx tp os bits F G u nb ((fl p9 ns (c9 + 1)).length) (T + (n9)) M id ft fo g dq ++ tl)) (dy := dyx) (kl := 10) rfl hADx (i := c9) (by omega) (TS1.obj (N := Nx) h3x) (ci := 5) rfl (Or.inr rfl) (by decide)) kw4_38 yv_Jx4a65c_remove_915e3 ⟨Nat.le_of_ble_eq_true rfl, Nat.le_of_ble_eq_true rfl⟩ hK hP hD hS hA hE (va_recv hK hP (ci := 0) (q0 := 10) rfl rfl) rfl hl.1 rfl (Nat.le_of_ble_eq_true rfl) dX10_pass_54 ⟨(Nat.zero_le _), (Nat.zero_le _)⟩ (fun u54 H locs hu54 hP hD hS => ?_)
        refine W.eq (g2 := F0 m 57 ls [.ref ((pk sa (fl p9 ns (c9 + 1))) c9)]) (by show F0 m 57 ls ((some (va_rf (fx c9))).toList ++ []) = _; rw [(h3x c9 (by omega)).1]; rfl) ?_
        have hP : va_P D vwCl ((cW cy ad eb es mb (mzx + nI 1) tp os bits F G u nb ((fl p9 ns (c9 + 1)).length - 1) (T + (n9)) M id ft fo g dq ++ tl) ++ u54) H := hP
        have hD : va_D A ((cW cy ad eb es mb (mzx + nI 1) tp os bits F G u nb ((fl p9 ns (c9 + 1)).length - 1) (T + (n9)) M id ft fo g dq ++ tl) ++ u54) := hD
        refine lv_pop hx hb dX10_pass_57 rfl ?_
        refine lv_iinc (v := dcr c9) (lv' := [(3, .int (dcr c9)), (0, .ref (ad 8)), (1, .int (nI n9)), (2, .int (nI ns))]) hx hb dX10_pass_58 hl (k := 3) rfl (dcr_i c9) (by decide) rfl (fun ls hl => ?_)
        refine lv_goto (tgt := 23) hx hb dX10_pass_61 (by decide) ?_
        have hpc : p9 c9 = false := by rw [hp9]; exact decide_eq_false (by omega)
        have hlen2 := fl_drop_len (p := p9) (n := ns) (c := c9) (by omega) hpc
        have d2 := TS1.rm (N := Nx) h3x h4x hnx (by omega) hu54
        have d1 := hDYx.1.kp hu54.2 (fun e => hDYx.2.2 e.symm) he9
        rw [fl_drop (by omega) hpc, fl_drop (by omega) hpc, fl_drop (by omega) hpc, fl_drop (by omega) hpc, fl_drop (by omega) hpc, fl_drop (by omega) hpc] at d2
        have el : (fl p9 ns (c9 + 1)).length - 1 = (fl p9 ns c9).length := by omega
        rw [el] at hP hD d2
        exact ihh c9 u54 (mzx + nI 1) H locs (by omega) (by omega) ⟨d1, d2, hDYx.2.2⟩ hP hD hS ls (lv_sub hl [1, 2, 3, 0] rfl)
  have hDY0 : DY cy e0.1 dy eb es nb ns ba (pk sa (List.range ns)) pt ih il ip pn op (pk so (List.range ns)) (pk fa (List.range ns)) (pk fp (List.range ns)) (pk st (List.range ns)) (pk en (List.range ns)) := ⟨hDY.1, hDY.2.1.cong (fun j hj => by simp only [pk, range_at hj, and_self]) (fun i hi => rfl), hDY.2.2⟩
  exact L23 (ns + 1) ns dy mz H locs (by omega) (by omega) (by rw [fl_top, List.length_range]; exact hDY0) (by rw [fl_top, List.length_range]; exact hP) (by rw [fl_top, List.length_range]; exact hD) hS ls (lv_sub hl [2, 3, 1, 0] rfl)
theorem dX11_tick_0 : decode cX11_tick 0 = .ok (.iload_n 1, 1) := by decide +kernel
theorem dX11_tick_1 : decode cX11_tick 1 = .ok (.ifCond .lt 10, 3) := by decide +kernel
theorem dX11_tick_4 : decode cX11_tick 4 = .ok (.iload_n 1, 1) := by decide +kernel
theorem dX11_tick_5 : decode cX11_tick 5 = .ok (.sipush 10000, 3) := by decide +kernel
theorem dX11_tick_8 : decode cX11_tick 8 = .ok (.if_icmp .le 5, 3) := by decide +kernel
theorem dX11_tick_11 : decode cX11_tick 11 = .ok (.iconst (-1), 1) := by decide +kernel
theorem dX11_tick_12 : decode cX11_tick 12 = .ok (.ireturn, 1) := by decide +kernel
theorem dX11_tick_13 : decode cX11_tick 13 = .ok (.aload_n 0, 1) := by decide +kernel
theorem dX11_tick_14 : decode cX11_tick 14 = .ok (.getfield 38, 3) := by decide +kernel
theorem dX11_tick_17 : decode cX11_tick 17 = .ok (.iload_n 1, 1) := by decide +kernel
theorem dX11_tick_18 : decode cX11_tick 18 = .ok (.invokevirtual 126, 3) := by decide +kernel
theorem dX11_tick_21 : decode cX11_tick 21 = .ok (.ireturn, 1) := by decide +kernel
theorem yv_X11_tick : YV RX11 yX11_tick cX11_tick 2 (some .int) 1 := ⟨kw4_31, kw4_32, kw1_1, kw4_33, by decide +kernel⟩
set_option maxHeartbeats 4000000 in
set_option maxRecDepth 100000 in
theorem c_X11_tick {l : Launch} {D : va_G} {cy : Nat → ClassId} {e0 : Nat × Nat} {ad : Nat → Nat} {tl dy : va_W} {eb es tp os bits F G u nb ns T M id : Nat} {mb mz : Int32} {ft fo : Nat → UInt8} {g : Nat → Int32} {dq ba sa pt ih il ip pn op so fa fp st en : Nat → Nat} (htp : tp ≤ 1600) (hos : os ≤ 1620) (hsi : SI bits F G) (hu4 : u ≤ 4) (hDY : DY cy e0.1 dy eb es nb ns ba sa pt ih il ip pn op so fa fp st en) (hb_pt : ∀ i, pt i < 2 ^ 31) (hb_ih : ∀ i, ih i < 2 ^ 64) (hb_il : ∀ i, il i < 2 ^ 64) (hb_ip : ∀ i, ip i < 2 ^ 31) (hb_pn : ∀ i, pn i < 2 ^ 31) (hb_op : ∀ i, op i < 2 ^ 31) (hb_fa : ∀ i, fa i < 2 ^ 32) (hb_fp : ∀ i, fp i < 2 ^ 31) (hb_st : ∀ i, st i ≤ 7) (hb_en : ∀ i, en i < 2 ^ 62) (hownb : ∀ b, b < nb → ∃ j, j < ns ∧ so j = b) {n9 : Nat} (hn9 : n9 ≤ 10000) (hT62 : T < 2 ^ 61) {p9 q9 : Nat → Bool} (hp9 : p9 = fun j => decide (T + n9 < en j)) (hq9 : q9 = fun j => decide (0 < tg_cnt (fun k => decide (pk so (fl p9 ns 0) k = j)) (fl p9 ns 0).length)) : WRX (S := (Int32 × Int32 × va_W)) l yX11_tick cX11_tick 2 (some .int) 6 0 0 131 [.ref (ad 0), .int (nI n9)] D cy e0 ((cW cy ad eb es mb mz tp os bits F G u nb ns T M id ft fo g dq ++ tl) ++ dy) (fun u_ => some (.int (nI (ns - (fl p9 ns 0).length)))) (fun z9 => DY cy e0.1 z9.2.2 eb es ((fl q9 nb 0).length) ((fl p9 ns 0).length) (pk ba (fl q9 nb 0)) (pk sa (fl p9 ns 0)) (pk pt (fl q9 nb 0)) (pk ih (fl q9 nb 0)) (pk il (fl q9 nb 0)) (pk ip (fl q9 nb 0)) (pk pn (fl q9 nb 0)) (pk op (fl q9 nb 0)) (soC q9 (pk so (fl p9 ns 0)) 0) (pk fa (fl p9 ns 0)) (pk fp (fl p9 ns 0)) (pk st (fl p9 ns 0)) (pk en (fl p9 ns 0))) (fun z9 => (cW cy ad eb es z9.1 z9.2.1 tp os bits F G u ((fl q9 nb 0).length) ((fl p9 ns 0).length) (T + n9) M id ft fo g dq ++ tl) ++ z9.2.2) := by
  refine WRXi (by decide) (lv0 := [(0, .ref (ad 0)), (1, .int (nI n9))]) rfl (Nat.le_of_ble_eq_true rfl) ?_
  intro p e s m args below meth c ls A Q S hnm hP hK hD hS hA hE hend hl
  have hx := S.1
  have hb := S.2.1
  have hown : s.vm.findClass RX11 = some m.cls := S.2.2.2.1
  have ht : ∀ w ∈ lw_g, w.before args s = true := fun w h => S.2.2.2.2 w (List.mem_cons_of_mem _ h)
  have hP : va_P D vwCl ((cW cy ad eb es mb mz tp os bits F G u nb ns T M id ft fo g dq ++ tl) ++ dy) s.heap := hP
  have hT : ((cW cy ad eb es mb mz tp os bits F G u nb ns T M id ft fo g dq ++ tl) ++ dy)[8]? = some (tE (ad 8) (ad 9) (ad 10) T) := rfl
  have hLb : ((cW cy ad eb es mb mz tp os bits F G u nb ns T M id ft fo g dq ++ tl) ++ dy)[9]? = some (aL (ad 9) mb eb nb) := rfl
  have hLs : ((cW cy ad eb es mb mz tp os bits F G u nb ns T M id ft fo g dq ++ tl) ++ dy)[10]? = some (aL (ad 10) mz es ns) := rfl
  have hB : TB1 cy ((cW cy ad eb es mb mz tp os bits F G u nb ns T M id ft fo g dq ++ tl) ++ dy) e0.1 eb nb ba pt ih il ip pn op := hDY.1.app
  have hS1 : TS1 cy ((cW cy ad eb es mb mz tp os bits F G u nb ns T M id ft fo g dq ++ tl) ++ dy) e0.1 es ns nb ba sa so fa fp st en := hDY.2.1.app
  have hST : STP ((cW cy ad eb es mb mz tp os bits F G u nb ns T M id ft fo g dq ++ tl) ++ dy) (ad 5) bits F G := STP_of (ks := 5) rfl hsi
  have hPL : PLP cy ((cW cy ad eb es mb mz tp os bits F G u nb ns T M id ft fo g dq ++ tl) ++ dy) (ad 6) g u := PLP_of (kp := 6) (kq := 7) rfl rfl hu4
  refine lv_iload_n hx hb dX11_tick_0 rfl (lv_at hl 1 rfl) ?_
  refine nv_if_lt (tgt := 11) hx hb dX11_tick_1 (by decide) (by omega) ?_
  refine lv_iload_n hx hb dX11_tick_4 rfl (lv_at hl 1 rfl) ?_
  refine nv_sipush (k := 10000) hx hb dX11_tick_5 (by decide) ?_
  refine nv_icmp_le (tgt := 13) hx hb dX11_tick_8 (by decide) (by omega) (by omega) (fun h8 => ?_) (fun h8 => ?_)
  · skip
    refine lv_aload_n hx hb dX11_tick_13 rfl (lv_at hl 0 rfl) ?_
    refine va_get (ci := 8) (C := RX11) (T := TX11) (N := 8) hx hb ht iFX11 hown hK hP 0 rfl rfl 4 (by decide) (ht _ kw1_127) (fun _ h9 => h9) rfl dX11_tick_14 ?_
    refine lv_iload_n hx hb dX11_tick_17 rfl (lv_at hl 1 rfl) ?_
    refine wx_V S (c_X10_pass hDY hb_pt hb_ih hb_il hb_ip hb_pn hb_op hb_fa hb_fp hb_st hb_en hownb hn9 hT62 hp9 hq9) kw4_34 yv_X10_pass ⟨Nat.le_of_ble_eq_true rfl, Nat.le_of_ble_eq_true rfl⟩ hK hP hD hS hA hE (va_recv hK hP (ci := 7) (q0 := 8) rfl rfl) rfl hl.1 rfl (Nat.le_of_ble_eq_true rfl) dX11_tick_18 ⟨(Nat.zero_le _), (Nat.zero_le _)⟩ (fun z1 H locs hz1 hP hD hS => ?_)
    have hP : va_P D vwCl ((cW cy ad eb es z1.1 z1.2.1 tp os bits F G u ((fl q9 nb 0).length) ((fl p9 ns 0).length) (T + n9) M id ft fo g dq ++ tl) ++ z1.2.2) H := hP
    have hD : va_D A ((cW cy ad eb es z1.1 z1.2.1 tp os bits F G u ((fl q9 nb 0).length) ((fl p9 ns 0).length) (T + n9) M id ft fo g dq ++ tl) ++ z1.2.2) := hD
    refine W.eq (g2 := F0 m 21 ls [.int (nI (ns - (fl p9 ns 0).length))]) rfl ?_
    exact hend z1 rfl hz1 hP hD hS dX11_tick_21
  exact absurd h8 (by omega)
set_option maxHeartbeats 4000000 in
set_option maxRecDepth 100000 in
theorem c_X11_tickG {l : Launch} {D : va_G} {cy : Nat → ClassId} {ad : Nat → Nat} {tl dy : va_W} {eb es tp os bits F G u nb ns T M id : Nat} {mb mz : Int32} {ft fo : Nat → UInt8} {g : Nat → Int32} {dq : Nat → Nat} (htp : tp ≤ 1600) (hos : os ≤ 1620) (hsi : SI bits F G) (hu4 : u ≤ 4) {n9 : Nat} (hn9 : n9 < 2 ^ 31) (hn8 : 10000 < n9) : RO l yX11_tick cX11_tick 2 (some .int) 0 0 [.ref (ad 0), .int (nI n9)] D cy ((cW cy ad eb es mb mz tp os bits F G u nb ns T M id ft fo g dq ++ tl) ++ dy) (.int (-1)) := by
  refine ROi (by decide) (lv0 := [(0, .ref (ad 0)), (1, .int (nI n9))]) rfl (Nat.le_of_ble_eq_true rfl) ?_
  intro p e s m args below meth c ls Q S hP hK hend hl
  have hx := S.1
  have hb := S.2.1
  have hown : s.vm.findClass RX11 = some m.cls := S.2.2.2.1
  have ht : ∀ w ∈ lw_g, w.before args s = true := fun w h => S.2.2.2.2 w (List.mem_cons_of_mem _ h)
  have hP : va_P D vwCl ((cW cy ad eb es mb mz tp os bits F G u nb ns T M id ft fo g dq ++ tl) ++ dy) s.heap := hP
  have hT : ((cW cy ad eb es mb mz tp os bits F G u nb ns T M id ft fo g dq ++ tl) ++ dy)[8]? = some (tE (ad 8) (ad 9) (ad 10) T) := rfl
  have hLb : ((cW cy ad eb es mb mz tp os bits F G u nb ns T M id ft fo g dq ++ tl) ++ dy)[9]? = some (aL (ad 9) mb eb nb) := rfl
  have hLs : ((cW cy ad eb es mb mz tp os bits F G u nb ns T M id ft fo g dq ++ tl) ++ dy)[10]? = some (aL (ad 10) mz es ns) := rfl
  have hST : STP ((cW cy ad eb es mb mz tp os bits F G u nb ns T M id ft fo g dq ++ tl) ++ dy) (ad 5) bits F G := STP_of (ks := 5) rfl hsi
  have hPL : PLP cy ((cW cy ad eb es mb mz tp os bits F G u nb ns T M id ft fo g dq ++ tl) ++ dy) (ad 6) g u := PLP_of (kp := 6) (kq := 7) rfl rfl hu4
  refine lv_iload_n hx hb dX11_tick_0 rfl (lv_at hl 1 rfl) ?_
  refine nv_if_lt (tgt := 11) hx hb dX11_tick_1 (by decide) (by omega) ?_
  refine lv_iload_n hx hb dX11_tick_4 rfl (lv_at hl 1 rfl) ?_
  refine nv_sipush (k := 10000) hx hb dX11_tick_5 (by decide) ?_
  refine nv_icmp_le (tgt := 13) hx hb dX11_tick_8 (by decide) (by omega) (by omega) (fun h8 => ?_) (fun h8 => ?_)
  · skip
    exact absurd h8 (by omega)
  refine lv_iconst (v := -1) hx hb dX11_tick_11 (by decide) ?_
  exact hend (rfl) dX11_tick_12
set_option maxHeartbeats 4000000 in
set_option maxRecDepth 100000 in
theorem c_X11_tickN {l : Launch} {D : va_G} {cy : Nat → ClassId} {ad : Nat → Nat} {tl dy : va_W} {eb es tp os bits F G u nb ns T M id : Nat} {mb mz : Int32} {ft fo : Nat → UInt8} {g : Nat → Int32} {dq : Nat → Nat} (htp : tp ≤ 1600) (hos : os ≤ 1620) (hsi : SI bits F G) (hu4 : u ≤ 4) {i : Int32} (hneg : i < 0) : RO l yX11_tick cX11_tick 2 (some .int) 0 0 [.ref (ad 0), .int i] D cy ((cW cy ad eb es mb mz tp os bits F G u nb ns T M id ft fo g dq ++ tl) ++ dy) (.int (-1)) := by
  refine ROi (by decide) (lv0 := [(0, .ref (ad 0)), (1, .int i)]) rfl (Nat.le_of_ble_eq_true rfl) ?_
  intro p e s m args below meth c ls Q S hP hK hend hl
  have hx := S.1
  have hb := S.2.1
  have hown : s.vm.findClass RX11 = some m.cls := S.2.2.2.1
  have ht : ∀ w ∈ lw_g, w.before args s = true := fun w h => S.2.2.2.2 w (List.mem_cons_of_mem _ h)
  have hP : va_P D vwCl ((cW cy ad eb es mb mz tp os bits F G u nb ns T M id ft fo g dq ++ tl) ++ dy) s.heap := hP
  have hT : ((cW cy ad eb es mb mz tp os bits F G u nb ns T M id ft fo g dq ++ tl) ++ dy)[8]? = some (tE (ad 8) (ad 9) (ad 10) T) := rfl
  have hLb : ((cW cy ad eb es mb mz tp os bits F G u nb ns T M id ft fo g dq ++ tl) ++ dy)[9]? = some (aL (ad 9) mb eb nb) := rfl
  have hLs : ((cW cy ad eb es mb mz tp os bits F G u nb ns T M id ft fo g dq ++ tl) ++ dy)[10]? = some (aL (ad 10) mz es ns) := rfl
  have hST : STP ((cW cy ad eb es mb mz tp os bits F G u nb ns T M id ft fo g dq ++ tl) ++ dy) (ad 5) bits F G := STP_of (ks := 5) rfl hsi
  have hPL : PLP cy ((cW cy ad eb es mb mz tp os bits F G u nb ns T M id ft fo g dq ++ tl) ++ dy) (ad 6) g u := PLP_of (kp := 6) (kq := 7) rfl rfl hu4
  refine lv_iload_n hx hb dX11_tick_0 rfl (lv_at hl 1 rfl) ?_
  refine lv_if_lt (tgt := 11) hx hb dX11_tick_1 (by decide) (fun h1 => ?_) (fun h1 => ?_)
  · skip
    refine lv_iconst (v := -1) hx hb dX11_tick_11 (by decide) ?_
    exact hend (rfl) dX11_tick_12
  exact absurd hneg h1
