set_option maxHeartbeats 4000000 in
set_option maxRecDepth 100000 in
theorem c_X12_outside0 {l : Launch} {D : va_G} {cy : Nat → ClassId} {o : Nat} {ad : Nat → Nat} {tl : va_W} {tp os sz bits F G u nb ns T M id : Nat} {ft fo fi : Nat → UInt8} {g : Nat → Int32} {pt ih il ip pn op so fa fp st en dr : Nat → Nat} (hb_pt : ∀ i, pt i < 2 ^ 31) (hb_ih : ∀ i, ih i < 2 ^ 64) (hb_il : ∀ i, il i < 2 ^ 64) (hb_ip : ∀ i, ip i < 2 ^ 31) (hb_pn : ∀ i, pn i < 2 ^ 31) (hb_op : ∀ i, op i < 2 ^ 31) (hb_pn4 : ∀ i, pn i < 4) (hb_so : ∀ i, so i < 2 ^ 31) (hb_fa : ∀ i, fa i < 2 ^ 32) (hb_fp : ∀ i, fp i < 2 ^ 31) (hb_st : ∀ i, st i ≤ 7) (htp : tp ≤ 1600) (hos : os ≤ 1640) (hsi : SI bits F G) (hu4 : u ≤ 4) (hnb : nb ≤ 64) (hns : ns ≤ 128) {n9 : Nat} (hn9 : n9 ≤ tp) (hz0 : tg_out (tg_rd ft n9) n9 bits g u ≠ 0) : WR (S := (Nat → UInt8)) l yX12_outside cX12_outside 10 (some .int) 6 0 0 141 [.ref o, .int (nI n9)] D cy (mW cy o ad tp os sz bits F G u nb ns T M id ft fo fi g pt ih il ip pn op so fa fp st en dr ++ tl) (fun u_ => some (.int (- nI (tg_out (tg_rd ft n9) n9 bits g u)))) (fun z9 => (∀ k, k < n9 → z9 k = ft k)) (fun z9 => mW cy o ad 0 os n9 bits F G u nb ns T M id ft fo z9 g pt ih il ip pn op so fa fp st en (va_up dr (tg_out (tg_rd ft n9) n9 bits g u) (dr (tg_out (tg_rd ft n9) n9 bits g u) + 1)) ++ tl) := by
  refine WRi (by decide) (lv0 := [(0, .ref o), (1, .int (nI n9))]) rfl (Nat.le_of_ble_eq_true rfl) ?_
  intro p e s m args below meth c ls A Q S hnm hP hK hD hS hA hend hl
  have hx := S.1
  have hb := S.2.1
  have hown : s.vm.findClass RX12 = some m.cls := S.2.2.2.1
  have ht : ∀ w ∈ lw_g, w.before args s = true := fun w h => S.2.2.2.2 w (List.mem_cons_of_mem _ h)
  have hP : va_P D vwCl (mW cy o ad tp os sz bits F G u nb ns T M id ft fo fi g pt ih il ip pn op so fa fp st en dr ++ tl) s.heap := hP
  have hu : u ≤ 4 := hu4
  have hb0 : bits ≤ 96 := by have := hsi.b; omega
  refine lv_iload_n hx hb dX12_outside_0 rfl (lv_at hl 1 rfl) ?_
  refine nv_i2l hx hb (by omega) dX12_outside_1 ?_
  refine lv_lconst (v := lN 0) hx hb dX12_outside_2 (by decide) ?_
  refine lv_aload_n hx hb dX12_outside_3 rfl (lv_at hl 0 rfl) ?_
  refine va_get (ci := 9) (C := RX12) (T := TX12) (N := 28) hx hb ht iFX12 hown hK hP 0 rfl rfl 1 (by decide) (ht _ kw4_111) (fun _ h9 => h9) rfl dX12_outside_4 ?_
  refine nv_i2l hx hb (by omega) dX12_outside_7 ?_
  refine ro_S S (c_X12_isIn (v := lN (n9)) (lo := lN (0)) (hi := lN (tp))) kw5_14 yv_X12_isIn ⟨Nat.le_of_ble_eq_true rfl, Nat.le_of_ble_eq_true rfl⟩ hK hP rfl hl.1 rfl (Nat.le_of_ble_eq_true rfl) dX12_outside_8 ⟨(Nat.zero_le _), (Nat.zero_le _)⟩ ?_
  rw [show tg_isIn (lN (n9)) (lN (0)) (lN (tp)) = true from (by rw [isIn_nat (by omega) (by omega) (by omega)]; exact decide_eq_true (by omega))]
  refine nv_if_neb (tgt := 16) hx hb dX12_outside_11 (by decide) (fun _ => ?_) (fun h => absurd h (by decide))
  refine lv_aload_n hx hb dX12_outside_16 rfl (lv_at hl 0 rfl) ?_
  refine lv_iload_n hx hb dX12_outside_17 rfl (lv_at hl 1 rfl) ?_
  refine wr_V S (c_X12_begin (x := n9) (by omega)) kw5_33 yv_X12_begin ⟨Nat.le_of_ble_eq_true rfl, Nat.le_of_ble_eq_true rfl⟩ hK hP hD hS hA (va_recv hK hP (ci := 9) (q0 := 0) rfl rfl) rfl hl.1 rfl (Nat.le_of_ble_eq_true rfl) dX12_outside_18 ⟨Nat.zero_le _, Nat.zero_le _⟩ (fun u1 H locs hu1 hP hD hS => ?_)
  obtain ⟨f9, hf9⟩ : ∃ z, z = (fun k => if k < n9 then ft k else fi k) := ⟨_, rfl⟩
  rw [← hf9] at hP hD
  have hP : va_P D vwCl (mW cy o ad 0 os n9 bits F G u nb ns T M id ft fo f9 g pt ih il ip pn op so fa fp st en dr ++ tl) H := hP
  have hD : va_D A (mW cy o ad 0 os n9 bits F G u nb ns T M id ft fo f9 g pt ih il ip pn op so fa fp st en dr ++ tl) := hD
  have hf8 : ∀ k, k < n9 → f9 k = ft k := fun k hk => by rw [hf9]; exact if_pos hk
  have erd : tg_rd f9 n9 = tg_rd ft n9 := rd_cong hf8
  rw [← erd] at hz0
  refine W.eq (g2 := F0 m 21 ls []) rfl ?_
  refine lv_aload_n hx hb dX12_outside_21 rfl (lv_at hl 0 rfl) ?_
  refine ro_V S (c_X12_lackOfOutside (ws := mW cy o ad 0 os n9 bits F G u nb ns T M id ft fo f9 g pt ih il ip pn op so fa fp st en dr ++ tl) (km := 0) rfl rfl rfl rfl rfl rfl (AR_of (ws := mW cy o ad 0 os n9 bits F G u nb ns T M id ft fo f9 g pt ih il ip pn op so fa fp st en dr ++ tl) (kr := 3) (N := 1600) (n := n9) rfl (by omega) (by omega)) (kq := 4) rfl hu hb0) kw5_135 yv_X12_lackOfOutside ⟨Nat.le_of_ble_eq_true rfl, Nat.le_of_ble_eq_true rfl⟩ hK hP (va_recv hK hP (ci := 9) (q0 := 0) rfl rfl) rfl hl.1 rfl (Nat.le_of_ble_eq_true rfl) dX12_outside_22 ⟨(Nat.zero_le _), (Nat.zero_le _)⟩ ?_
  have hle9 : tg_out (tg_rd f9 n9) n9 bits g u ≤ 14 := by unfold tg_out; (repeat' split) <;> omega
  refine lv_istore_n (lv' := [(2, .int (nI (tg_out (tg_rd f9 n9) n9 bits g u))), (0, .ref o), (1, .int (nI n9))]) hx hb dX12_outside_25 rfl hl (by decide) rfl (fun ls hl => ?_)
  refine lv_iload_n hx hb dX12_outside_26 rfl (lv_at hl 0 rfl) ?_
  refine nv_if_le (tgt := 36) hx hb dX12_outside_27 (by decide) (by omega) (fun h27 => ?_) (fun h27 => ?_)
  · skip
    exfalso; omega
  refine lv_aload_n hx hb dX12_outside_30 rfl (lv_at hl 1 rfl) ?_
  refine lv_iload_n hx hb dX12_outside_31 rfl (lv_at hl 0 rfl) ?_
  refine wr_V S (c_X12_drops (x := tg_out (tg_rd f9 n9) n9 bits g u) (by omega)) kw5_75 yv_X12_drops ⟨Nat.le_of_ble_eq_true rfl, Nat.le_of_ble_eq_true rfl⟩ hK hP hD hS hA (va_recv hK hP (ci := 9) (q0 := 0) rfl rfl) rfl hl.1 rfl (Nat.le_of_ble_eq_true rfl) dX12_outside_32 ⟨Nat.zero_le _, Nat.zero_le _⟩ (fun u2 H locs hu2 hP hD hS => ?_)
  have hP : va_P D vwCl (mW cy o ad 0 os n9 bits F G u nb ns T M id ft fo f9 g pt ih il ip pn op so fa fp st en (va_up dr (tg_out (tg_rd f9 n9) n9 bits g u) (dr (tg_out (tg_rd f9 n9) n9 bits g u) + 1)) ++ tl) H := hP
  have hD : va_D A (mW cy o ad 0 os n9 bits F G u nb ns T M id ft fo f9 g pt ih il ip pn op so fa fp st en (va_up dr (tg_out (tg_rd f9 n9) n9 bits g u) (dr (tg_out (tg_rd f9 n9) n9 bits g u) + 1)) ++ tl) := hD
  refine W.eq (g2 := F0 m 35 ls [.int (- nI (tg_out (tg_rd f9 n9) n9 bits g u))]) rfl ?_
  rw [erd] at hP hD
  exact hend f9 (by rw [erd]) hf8 hP hD hS dX12_outside_35
set_option maxHeartbeats 4000000 in
set_option maxRecDepth 100000 in
theorem c_X12_outside1 {l : Launch} {D : va_G} {cy : Nat → ClassId} {o : Nat} {ad : Nat → Nat} {tl : va_W} {tp os sz bits F G u nb ns T M id : Nat} {ft fo fi : Nat → UInt8} {g : Nat → Int32} {pt ih il ip pn op so fa fp st en dr : Nat → Nat} (hb_pt : ∀ i, pt i < 2 ^ 31) (hb_ih : ∀ i, ih i < 2 ^ 64) (hb_il : ∀ i, il i < 2 ^ 64) (hb_ip : ∀ i, ip i < 2 ^ 31) (hb_pn : ∀ i, pn i < 2 ^ 31) (hb_op : ∀ i, op i < 2 ^ 31) (hb_pn4 : ∀ i, pn i < 4) (hb_so : ∀ i, so i < 2 ^ 31) (hb_fa : ∀ i, fa i < 2 ^ 32) (hb_fp : ∀ i, fp i < 2 ^ 31) (hb_st : ∀ i, st i ≤ 7) (htp : tp ≤ 1600) (hos : os ≤ 1640) (hsi : SI bits F G) (hu4 : u ≤ 4) (hnb : nb ≤ 64) (hns : ns ≤ 128) {n9 : Nat} (hn9 : n9 ≤ tp) {q port far fpt ev num : Nat} (eq0 : q = tg_rd ft n9 9) (eport : port = tg_pr (tg_rd ft n9) (20 + tg_dpa q)) (efar : far = tg_qd (tg_rd ft n9) 12) (efpt : fpt = if q = 1 then 0 else tg_pr (tg_rd ft n9) (20 + tg_spa q)) (eev : ev = tg_event (tg_rd ft n9) 20 q) (enum : num = tg_first (fun k => decide (g k = nI (tg_qd (tg_rd ft n9) 16))) u) (hz0 : tg_out (tg_rd ft n9) n9 bits g u = 0) (herr : tg_isErr (tg_rd ft n9) = false) {b : Nat} (hb9 : b < nb) (hfb : tg_first (fun k => decide (pt k = q ∧ pn k = num ∧ op k = port)) nb = b) {j : Nat} (hj9 : j < ns) (hfj : tg_first (fun k => decide (so k = b ∧ fa k = far ∧ fp k = fpt)) ns = j) (hip9 : ip b < 65536) : WR (S := ((Nat → UInt8) × (Nat → UInt8))) l yX12_outside cX12_outside 10 (some .int) 6 0 0 141 [.ref o, .int (nI n9)] D cy (mW cy o ad tp os sz bits F G u nb ns T M id ft fo fi g pt ih il ip pn op so fa fp st en dr ++ tl) (fun u_ => some (.int (nI (40 + (n9 - 20))))) (fun z9 => (∀ k, k < n9 → z9.1 k = ft k) ∧ z9.2 = mk_six fo z9.1 n9 q (ip b) (ih b) (il b) bits F G) (fun z9 => mW cy o ad 0 (40 + (n9 - 20)) n9 bits F G u nb ns T (M + 1) id ft z9.2 z9.1 g pt ih il ip pn op so fa fp (if tg_nxt (st j) ev false = 8 then st else va_up st j (tg_nxt (st j) ev false)) (if tg_nxt (st j) ev false = 8 then en else va_up en j (T + tg_life (tg_nxt (st j) ev false) q)) dr ++ tl) := by
  refine WRi (by decide) (lv0 := [(0, .ref o), (1, .int (nI n9))]) rfl (Nat.le_of_ble_eq_true rfl) ?_
  intro p e s m args below meth c ls A Q S hnm hP hK hD hS hA hend hl
  have hx := S.1
  have hb := S.2.1
  have hown : s.vm.findClass RX12 = some m.cls := S.2.2.2.1
  have ht : ∀ w ∈ lw_g, w.before args s = true := fun w h => S.2.2.2.2 w (List.mem_cons_of_mem _ h)
  have hP : va_P D vwCl (mW cy o ad tp os sz bits F G u nb ns T M id ft fo fi g pt ih il ip pn op so fa fp st en dr ++ tl) s.heap := hP
  have hu : u ≤ 4 := hu4
  have hb0 : bits ≤ 96 := by have := hsi.b; omega
  have hptb : pt b = q := by have h9 := tg_first_is (q := (fun k => decide (pt k = q ∧ pn k = num ∧ op k = port))) (n := nb) (by rw [hfb]; exact hb9); rw [hfb] at h9; exact (of_decide_eq_true h9).1
  have hjq : so j = b ∧ fa j = far ∧ fp j = fpt := by have h9 := tg_first_is (q := (fun k => decide (so k = b ∧ fa k = far ∧ fp k = fpt))) (n := ns) (by rw [hfj]; exact hj9); rw [hfj] at h9; exact of_decide_eq_true h9
  refine lv_iload_n hx hb dX12_outside_0 rfl (lv_at hl 1 rfl) ?_
  refine nv_i2l hx hb (by omega) dX12_outside_1 ?_
  refine lv_lconst (v := lN 0) hx hb dX12_outside_2 (by decide) ?_
  refine lv_aload_n hx hb dX12_outside_3 rfl (lv_at hl 0 rfl) ?_
  refine va_get (ci := 9) (C := RX12) (T := TX12) (N := 28) hx hb ht iFX12 hown hK hP 0 rfl rfl 1 (by decide) (ht _ kw4_111) (fun _ h9 => h9) rfl dX12_outside_4 ?_
  refine nv_i2l hx hb (by omega) dX12_outside_7 ?_
  refine ro_S S (c_X12_isIn (v := lN (n9)) (lo := lN (0)) (hi := lN (tp))) kw5_14 yv_X12_isIn ⟨Nat.le_of_ble_eq_true rfl, Nat.le_of_ble_eq_true rfl⟩ hK hP rfl hl.1 rfl (Nat.le_of_ble_eq_true rfl) dX12_outside_8 ⟨(Nat.zero_le _), (Nat.zero_le _)⟩ ?_
  rw [show tg_isIn (lN (n9)) (lN (0)) (lN (tp)) = true from (by rw [isIn_nat (by omega) (by omega) (by omega)]; exact decide_eq_true (by omega))]
  refine nv_if_neb (tgt := 16) hx hb dX12_outside_11 (by decide) (fun _ => ?_) (fun h => absurd h (by decide))
  refine lv_aload_n hx hb dX12_outside_16 rfl (lv_at hl 0 rfl) ?_
  refine lv_iload_n hx hb dX12_outside_17 rfl (lv_at hl 1 rfl) ?_
  refine wr_V S (c_X12_begin (x := n9) (by omega)) kw5_33 yv_X12_begin ⟨Nat.le_of_ble_eq_true rfl, Nat.le_of_ble_eq_true rfl⟩ hK hP hD hS hA (va_recv hK hP (ci := 9) (q0 := 0) rfl rfl) rfl hl.1 rfl (Nat.le_of_ble_eq_true rfl) dX12_outside_18 ⟨Nat.zero_le _, Nat.zero_le _⟩ (fun u1 H locs hu1 hP hD hS => ?_)
  obtain ⟨f9, hf9⟩ : ∃ z, z = (fun k => if k < n9 then ft k else fi k) := ⟨_, rfl⟩
  rw [← hf9] at hP hD
  have hP : va_P D vwCl (mW cy o ad 0 os n9 bits F G u nb ns T M id ft fo f9 g pt ih il ip pn op so fa fp st en dr ++ tl) H := hP
  have hD : va_D A (mW cy o ad 0 os n9 bits F G u nb ns T M id ft fo f9 g pt ih il ip pn op so fa fp st en dr ++ tl) := hD
  have hf8 : ∀ k, k < n9 → f9 k = ft k := fun k hk => by rw [hf9]; exact if_pos hk
  have erd : tg_rd f9 n9 = tg_rd ft n9 := rd_cong hf8
  rw [← erd] at eq0 eport efar efpt eev enum hz0 herr
  have hou := out0 hz0
  have hnu : num < u := by rw [enum]; exact (num_is hou.2.2.1).2
  have hq3 : q = 1 ∨ q = 6 ∨ q = 17 := by rw [eq0]; exact hou.1.2.1
  have hport : port < 65536 := by rw [eport]; exact tg_pr_lt _ _ _
  have hfar : far < 2 ^ 32 := by rw [efar]; exact tg_qd_lt _ _ _
  have hfpt : fpt < 65536 := by rw [efpt]; split; omega; exact tg_pr_lt _ _ _
  have hev : ev ≤ 3 := by rw [eev]; exact tg_event_le _ _ _
  obtain ⟨nx, enx⟩ : ∃ z, z = tg_nx q := ⟨_, rfl⟩
  have hnxl : nx < 256 := by rw [enx]; exact tg_nx_lt hq3
  have hsum : tg_sumAt nx + 2 ≤ n9 - 20 := by have h6 : q = 6 → 20 ≤ n9 - 20 := (by rw [eq0]; exact hou.1.2.2.1); have h8 := hou.1.1; rw [enx]; unfold tg_nx tg_sumAt; (repeat' split) <;> omega
  obtain ⟨ty9, ety⟩ : ∃ z, z = (if tg_rd f9 n9 20 = 8 then 128 else 129) := ⟨_, rfl⟩
  have hty : ty9 < 256 := by rw [ety]; split <;> omega
  refine W.eq (g2 := F0 m 21 ls []) rfl ?_
  refine lv_aload_n hx hb dX12_outside_21 rfl (lv_at hl 0 rfl) ?_
  refine ro_V S (c_X12_lackOfOutside (ws := mW cy o ad 0 os n9 bits F G u nb ns T M id ft fo f9 g pt ih il ip pn op so fa fp st en dr ++ tl) (km := 0) rfl rfl rfl rfl rfl rfl (AR_of (ws := mW cy o ad 0 os n9 bits F G u nb ns T M id ft fo f9 g pt ih il ip pn op so fa fp st en dr ++ tl) (kr := 3) (N := 1600) (n := n9) rfl (by omega) (by omega)) (kq := 4) rfl hu hb0) kw5_135 yv_X12_lackOfOutside ⟨Nat.le_of_ble_eq_true rfl, Nat.le_of_ble_eq_true rfl⟩ hK hP (va_recv hK hP (ci := 9) (q0 := 0) rfl rfl) rfl hl.1 rfl (Nat.le_of_ble_eq_true rfl) dX12_outside_22 ⟨(Nat.zero_le _), (Nat.zero_le _)⟩ ?_
  rw [hz0]
  refine lv_istore_n (lv' := [(2, .int (nI 0)), (0, .ref o), (1, .int (nI n9))]) hx hb dX12_outside_25 rfl hl (by decide) rfl (fun ls hl => ?_)
  refine lv_iload_n hx hb dX12_outside_26 rfl (lv_at hl 0 rfl) ?_
  refine nv_if_le (tgt := 36) hx hb dX12_outside_27 (by decide) (by omega) (fun _ => ?_) (fun h => absurd h (by decide))
  refine lv_aload_n hx hb dX12_outside_36 rfl (lv_at hl 1 rfl) ?_
  refine ro_V S (c_X12_isError (ws := mW cy o ad 0 os n9 bits F G u nb ns T M id ft fo f9 g pt ih il ip pn op so fa fp st en dr ++ tl) (km := 0) rfl rfl (AR_of (ws := mW cy o ad 0 os n9 bits F G u nb ns T M id ft fo f9 g pt ih il ip pn op so fa fp st en dr ++ tl) (kr := 3) (N := 1600) (n := n9) rfl (by omega) (by omega)) (by omega)) kw5_139 yv_X12_isError ⟨Nat.le_of_ble_eq_true rfl, Nat.le_of_ble_eq_true rfl⟩ hK hP (va_recv hK hP (ci := 9) (q0 := 0) rfl rfl) rfl hl.1 rfl (Nat.le_of_ble_eq_true rfl) dX12_outside_37 ⟨(Nat.zero_le _), (Nat.zero_le _)⟩ ?_
  rw [herr]
  refine nv_if_eqb (tgt := 48) hx hb dX12_outside_40 (by decide) (fun _ => ?_) (fun h => absurd h (by decide))
  refine lv_aload_n hx hb dX12_outside_48 rfl (lv_at hl 1 rfl) ?_
  refine va_get (ci := 9) (C := RX12) (T := TX12) (N := 28) hx hb ht iFX12 hown hK hP 0 rfl rfl 4 (by decide) (ht _ kw4_114) (fun _ h9 => h9) rfl dX12_outside_49 ?_
  refine nv_bipush (k := 9) hx hb dX12_outside_52 (by decide) ?_
  refine ro_S S (c_X12_at (AR_of (ws := mW cy o ad 0 os n9 bits F G u nb ns T M id ft fo f9 g pt ih il ip pn op so fa fp st en dr ++ tl) (kr := 3) (N := 1600) (n := n9) rfl (by omega) (by omega)) (i := 9) (by omega)) kw5_41 yv_X12_at ⟨Nat.le_of_ble_eq_true rfl, Nat.le_of_ble_eq_true rfl⟩ hK hP rfl hl.1 rfl (Nat.le_of_ble_eq_true rfl) dX12_outside_54 ⟨(Nat.zero_le _), (Nat.zero_le _)⟩ ?_
  have hq54 := tg_rd_lt f9 n9 9
  rw [← eq0]
  refine lv_istore_n (lv' := [(3, .int (nI q)), (2, .int (nI 0)), (0, .ref o), (1, .int (nI n9))]) hx hb dX12_outside_57 rfl hl (by decide) rfl (fun ls hl => ?_)
  refine lv_iload_n hx hb dX12_outside_58 rfl (lv_at hl 0 rfl) ?_
  refine nv_iconst (k := 1) hx hb dX12_outside_59 rfl ?_
  have J84 : ∀ ls : Array Slot, lv_has ls 10 [(3, .int (nI q)), (2, .int (nI 0)), (0, .ref o), (1, .int (nI n9))] → W p l e (rmw 6 0 0 141) s m args below meth c H locs 0 0 Q (F0 m 84 ls [.int (nI port)]) := by
    intro ls hl
    refine lv_istore (lv' := [(4, .int (nI port)), (3, .int (nI q)), (2, .int (nI 0)), (0, .ref o), (1, .int (nI n9))]) hx hb dX12_outside_84 hl (by decide) rfl (fun ls hl => ?_)
    refine lv_iload_n hx hb dX12_outside_86 rfl (lv_at hl 1 rfl) ?_
    refine nv_iconst (k := 1) hx hb dX12_outside_87 rfl ?_
    have J104 : ∀ ls : Array Slot, lv_has ls 10 [(4, .int (nI port)), (3, .int (nI q)), (2, .int (nI 0)), (0, .ref o), (1, .int (nI n9))] → W p l e (rmw 6 0 0 141) s m args below meth c H locs 0 0 Q (F0 m 104 ls [.int (nI fpt)]) := by
      intro ls hl
      refine lv_istore (lv' := [(5, .int (nI fpt)), (4, .int (nI port)), (3, .int (nI q)), (2, .int (nI 0)), (0, .ref o), (1, .int (nI n9))]) hx hb dX12_outside_104 hl (by decide) rfl (fun ls hl => ?_)
      refine lv_iload_n hx hb dX12_outside_106 rfl (lv_at hl 2 rfl) ?_
      refine nv_bipush (k := 6) hx hb dX12_outside_107 (by decide) ?_
      have J125 : ∀ ls : Array Slot, lv_has ls 10 [(5, .int (nI fpt)), (4, .int (nI port)), (3, .int (nI q)), (2, .int (nI 0)), (0, .ref o), (1, .int (nI n9))] → W p l e (rmw 6 0 0 141) s m args below meth c H locs 0 0 Q (F0 m 125 ls [.int (nI (3 - ev))]) := by
        intro ls hl
        refine lv_istore (lv' := [(6, .int (nI (3 - ev))), (5, .int (nI fpt)), (4, .int (nI port)), (3, .int (nI q)), (2, .int (nI 0)), (0, .ref o), (1, .int (nI n9))]) hx hb dX12_outside_125 hl (by decide) rfl (fun ls hl => ?_)
        refine lv_aload_n hx hb dX12_outside_127 rfl (lv_at hl 5 rfl) ?_
        refine lv_iload_n hx hb dX12_outside_128 rfl (lv_at hl 3 rfl) ?_
        refine lv_aload_n hx hb dX12_outside_129 rfl (lv_at hl 5 rfl) ?_
        refine lv_aload_n hx hb dX12_outside_130 rfl (lv_at hl 5 rfl) ?_
        refine va_get (ci := 9) (C := RX12) (T := TX12) (N := 28) hx hb ht iFX12 hown hK hP 0 rfl rfl 4 (by decide) (ht _ kw4_114) (fun _ h9 => h9) rfl dX12_outside_131 ?_
        refine nv_bipush (k := 16) hx hb dX12_outside_134 (by decide) ?_
        refine ro_S S (c_X12_four (AR_of (ws := mW cy o ad 0 os n9 bits F G u nb ns T M id ft fo f9 g pt ih il ip pn op so fa fp st en dr ++ tl) (kr := 3) (N := 1600) (n := n9) rfl (by omega) (by omega)) (i := 16) (by omega)) kw5_72 yv_X12_four ⟨Nat.le_of_ble_eq_true rfl, Nat.le_of_ble_eq_true rfl⟩ hK hP rfl hl.1 rfl (Nat.le_of_ble_eq_true rfl) dX12_outside_136 ⟨(Nat.zero_le _), (Nat.zero_le _)⟩ ?_
        have hq136 := tg_qd_lt f9 n9 16
        refine ro_V S (c_X12_poolOf (ws := mW cy o ad 0 os n9 bits F G u nb ns T M id ft fo f9 g pt ih il ip pn op so fa fp st en dr ++ tl) (km := 0) rfl rfl rfl (kq := 4) rfl hu (x := tg_qd (tg_rd f9 n9) 16) (by omega)) kw4_209 yv_X12_poolOf ⟨Nat.le_of_ble_eq_true rfl, Nat.le_of_ble_eq_true rfl⟩ hK hP (va_recv hK hP (ci := 9) (q0 := 0) rfl rfl) rfl hl.1 rfl (Nat.le_of_ble_eq_true rfl) dX12_outside_139 ⟨(Nat.zero_le _), (Nat.zero_le _)⟩ ?_
        rw [(num_is hou.2.2.1).1, ← enum]
        refine lv_iload hx hb dX12_outside_142 (lv_at hl 2 rfl) ?_
        refine ro_V S (c_X12_findOuter (ws := mW cy o ad 0 os n9 bits F G u nb ns T M id ft fo f9 g pt ih il ip pn op so fa fp st en dr ++ tl) (km := 0) rfl rfl rfl rfl rfl (k_pt := 5) rfl hb_pt (k_pn := 9) rfl hb_pn (k_op := 10) rfl hb_op hnb (q := q) (num := num) (port := port) (by omega) (by omega) (by omega)) kw5_98 yv_X12_findOuter ⟨Nat.le_of_ble_eq_true rfl, Nat.le_of_ble_eq_true rfl⟩ hK hP (va_recv hK hP (ci := 9) (q0 := 0) rfl rfl) rfl hl.1 rfl (Nat.le_of_ble_eq_true rfl) dX12_outside_144 ⟨(Nat.zero_le _), (Nat.zero_le _)⟩ ?_
        rw [fb_at (ws := 0) hfb hb9]
        refine lv_istore (lv' := [(7, .int (nI b)), (6, .int (nI (3 - ev))), (5, .int (nI fpt)), (4, .int (nI port)), (3, .int (nI q)), (2, .int (nI 0)), (0, .ref o), (1, .int (nI n9))]) hx hb dX12_outside_147 hl (by decide) rfl (fun ls hl => ?_)
        refine lv_iload hx hb dX12_outside_149 (lv_at hl 0 rfl) ?_
        refine nv_if_ge (tgt := 158) hx hb dX12_outside_151 (by decide) (by omega) ?_
        refine lv_aload_n hx hb dX12_outside_158 rfl (lv_at hl 6 rfl) ?_
        refine lv_iload hx hb dX12_outside_159 (lv_at hl 0 rfl) ?_
        refine lv_aload_n hx hb dX12_outside_161 rfl (lv_at hl 6 rfl) ?_
        refine va_get (ci := 9) (C := RX12) (T := TX12) (N := 28) hx hb ht iFX12 hown hK hP 0 rfl rfl 4 (by decide) (ht _ kw4_114) (fun _ h9 => h9) rfl dX12_outside_162 ?_
        refine nv_bipush (k := 12) hx hb dX12_outside_165 (by decide) ?_
        refine ro_S S (c_X12_four (AR_of (ws := mW cy o ad 0 os n9 bits F G u nb ns T M id ft fo f9 g pt ih il ip pn op so fa fp st en dr ++ tl) (kr := 3) (N := 1600) (n := n9) rfl (by omega) (by omega)) (i := 12) (by omega)) kw5_72 yv_X12_four ⟨Nat.le_of_ble_eq_true rfl, Nat.le_of_ble_eq_true rfl⟩ hK hP rfl hl.1 rfl (Nat.le_of_ble_eq_true rfl) dX12_outside_167 ⟨(Nat.zero_le _), (Nat.zero_le _)⟩ ?_
        have hq167 := tg_qd_lt f9 n9 12
        rw [← efar]
        refine lv_iload hx hb dX12_outside_170 (lv_at hl 2 rfl) ?_
        refine ro_V S (c_X12_findSession (ws := mW cy o ad 0 os n9 bits F G u nb ns T M id ft fo f9 g pt ih il ip pn op so fa fp st en dr ++ tl) (km := 0) rfl rfl rfl rfl rfl (k_so := 11) rfl hb_so (k_fa := 12) rfl hb_fa (k_fp := 13) rfl hb_fp hns (b := b) (x := far) (port := fpt) (by omega) (by omega) (by omega)) kw5_86 yv_X12_findSession ⟨Nat.le_of_ble_eq_true rfl, Nat.le_of_ble_eq_true rfl⟩ hK hP (va_recv hK hP (ci := 9) (q0 := 0) rfl rfl) rfl hl.1 rfl (Nat.le_of_ble_eq_true rfl) dX12_outside_172 ⟨(Nat.zero_le _), (Nat.zero_le _)⟩ ?_
        rw [fb_at (ws := 0) hfj hj9]
        refine lv_istore (lv' := [(8, .int (nI j)), (7, .int (nI b)), (6, .int (nI (3 - ev))), (5, .int (nI fpt)), (4, .int (nI port)), (3, .int (nI q)), (2, .int (nI 0)), (0, .ref o), (1, .int (nI n9))]) hx hb dX12_outside_175 hl (by decide) rfl (fun ls hl => ?_)
        refine lv_iload hx hb dX12_outside_177 (lv_at hl 1 rfl) ?_
        refine nv_if_lt (tgt := 209) hx hb dX12_outside_179 (by decide) (by omega) ?_
        refine lv_iload hx hb dX12_outside_182 (lv_at hl 0 rfl) ?_
        refine nv_if_ge (tgt := 216) hx hb dX12_outside_184 (by decide) (by omega) ?_
        refine lv_iload hx hb dX12_outside_216 (lv_at hl 0 rfl) ?_
        refine nv_if_ge (tgt := 244) hx hb dX12_outside_218 (by decide) (by omega) ?_
        refine lv_aload_n hx hb dX12_outside_244 rfl (lv_at hl 7 rfl) ?_
        refine lv_iload hx hb dX12_outside_245 (lv_at hl 0 rfl) ?_
        refine lv_iload hx hb dX12_outside_247 (lv_at hl 2 rfl) ?_
        refine nv_iconst (k := 0) hx hb dX12_outside_249 rfl ?_
        refine wr_V S (c_X12_goesOn (x := j) (k9 := 3 - ev) (ins := false) (by omega) (by omega) (by have := hb_st j; omega) (by rw [hjq.1]; omega) (hb_pt _)) kw5_110 yv_X12_goesOn ⟨Nat.le_of_ble_eq_true rfl, Nat.le_of_ble_eq_true rfl⟩ hK hP hD hS hA (va_recv hK hP (ci := 9) (q0 := 0) rfl rfl) rfl hl.1 rfl (Nat.le_of_ble_eq_true rfl) dX12_outside_250 ⟨Nat.zero_le _, Nat.zero_le _⟩ (fun u5 H locs hu5 hP hD hS => ?_)
        rw [show 3 - (3 - ev) = ev by omega, hjq.1, hptb] at hP hD
        have hP : va_P D vwCl (mW cy o ad 0 os n9 bits F G u nb ns T M id ft fo f9 g pt ih il ip pn op so fa fp (if tg_nxt (st j) ev false = 8 then st else va_up st j (tg_nxt (st j) ev false)) (if tg_nxt (st j) ev false = 8 then en else va_up en j (T + tg_life (tg_nxt (st j) ev false) q)) dr ++ tl) H := hP
        have hD : va_D A (mW cy o ad 0 os n9 bits F G u nb ns T M id ft fo f9 g pt ih il ip pn op so fa fp (if tg_nxt (st j) ev false = 8 then st else va_up st j (tg_nxt (st j) ev false)) (if tg_nxt (st j) ev false = 8 then en else va_up en j (T + tg_life (tg_nxt (st j) ev false) q)) dr ++ tl) := hD
        refine W.eq (g2 := F0 m 253 ls []) rfl ?_
        refine lv_aload_n hx hb dX12_outside_253 rfl (lv_at hl 7 rfl) ?_
        refine lv_iload hx hb dX12_outside_254 (lv_at hl 1 rfl) ?_
        refine lv_aload_n hx hb dX12_outside_256 rfl (lv_at hl 7 rfl) ?_
        refine va_get (ci := 9) (C := RX12) (T := TX12) (N := 28) hx hb ht iFX12 hown hK hP 0 rfl rfl 5 (by decide) (ht _ kw4_115) (fun _ h9 => h9) rfl dX12_outside_257 ?_
        refine nv_bipush (k := 20) hx hb dX12_outside_260 (by decide) ?_
        refine nv_isub hx hb (by omega) dX12_outside_262 ?_
        refine lv_iload_n hx hb dX12_outside_263 rfl (lv_at hl 5 rfl) ?_
        refine nv_iconst (k := 1) hx hb dX12_outside_264 rfl ?_
        have J274 : ∀ ls : Array Slot, lv_has ls 10 [(8, .int (nI j)), (7, .int (nI b)), (6, .int (nI (3 - ev))), (5, .int (nI fpt)), (4, .int (nI port)), (3, .int (nI q)), (2, .int (nI 0)), (0, .ref o), (1, .int (nI n9))] → W p l e (rmw 6 0 0 141) s m args below meth c H locs 0 0 Q (F0 m 274 ls [.int (nI nx), .int (nI (n9 - 20)), .int (nI b), .ref o]) := by
          intro ls hl
          refine wr_V S (c_X12_head (b := b) (len := n9 - 20) (nx := nx) (by omega) hsi hb_ih hb_il (by omega) (by omega) (by omega) (by omega) hou.1.2.2.2) kw5_151 yv_X12_head ⟨Nat.le_of_ble_eq_true rfl, Nat.le_of_ble_eq_true rfl⟩ hK hP hD hS hA (va_recv hK hP (ci := 9) (q0 := 0) rfl rfl) rfl hl.1 rfl (Nat.le_of_ble_eq_true rfl) dX12_outside_274 ⟨Nat.zero_le _, Nat.zero_le _⟩ (fun u7 H locs hu7 hP hD hS => ?_)
          obtain ⟨g0, hg0⟩ : ∃ z, z = mk_head fo f9 n9 (n9 - 20) nx bits F G (ih b) (il b) := ⟨_, rfl⟩
          rw [← hg0] at hP hD
          have hP : va_P D vwCl (mW cy o ad 0 (40 + (n9 - 20)) n9 bits F G u nb ns T M id ft g0 f9 g pt ih il ip pn op so fa fp (if tg_nxt (st j) ev false = 8 then st else va_up st j (tg_nxt (st j) ev false)) (if tg_nxt (st j) ev false = 8 then en else va_up en j (T + tg_life (tg_nxt (st j) ev false) q)) dr ++ tl) H := hP
          have hD : va_D A (mW cy o ad 0 (40 + (n9 - 20)) n9 bits F G u nb ns T M id ft g0 f9 g pt ih il ip pn op so fa fp (if tg_nxt (st j) ev false = 8 then st else va_up st j (tg_nxt (st j) ev false)) (if tg_nxt (st j) ev false = 8 then en else va_up en j (T + tg_life (tg_nxt (st j) ev false) q)) dr ++ tl) := hD
          refine W.eq (g2 := F0 m 277 ls []) rfl ?_
          refine nv_bipush (k := 20) hx hb dX12_outside_277 (by decide) ?_
          refine lv_istore (lv' := [(9, .int (nI 20)), (8, .int (nI j)), (7, .int (nI b)), (6, .int (nI (3 - ev))), (5, .int (nI fpt)), (4, .int (nI port)), (3, .int (nI q)), (2, .int (nI 0)), (0, .ref o), (1, .int (nI n9))]) hx hb dX12_outside_279 hl (by decide) rfl (fun ls hl => ?_)
          have L281 : ∀ (fu kk : Nat) (H : Heap) (locs : List Loc), n9 - kk < fu → 20 ≤ kk → kk ≤ n9 → va_P D vwCl (mW cy o ad 0 (40 + (n9 - 20)) n9 bits F G u nb ns T M id ft ((fun i => if 40 ≤ i ∧ i < kk + 20 then f9 (i - 20) else g0 i)) f9 g pt ih il ip pn op so fa fp (if tg_nxt (st j) ev false = 8 then st else va_up st j (tg_nxt (st j) ev false)) (if tg_nxt (st j) ev false = 8 then en else va_up en j (T + tg_life (tg_nxt (st j) ev false) q)) dr ++ tl) H → va_D A (mW cy o ad 0 (40 + (n9 - 20)) n9 bits F G u nb ns T M id ft ((fun i => if 40 ≤ i ∧ i < kk + 20 then f9 (i - 20) else g0 i)) f9 g pt ih il ip pn op so fa fp (if tg_nxt (st j) ev false = 8 then st else va_up st j (tg_nxt (st j) ev false)) (if tg_nxt (st j) ev false = 8 then en else va_up en j (T + tg_life (tg_nxt (st j) ev false) q)) dr ++ tl) → va_S A s.heap H locs → ∀ ls : Array Slot, lv_has ls 10 [(0, .ref o), (3, .int (nI q)), (7, .int (nI b)), (9, .int (nI kk))] → W p l e (rmw 6 0 0 141) s m args below meth c H locs 0 0 Q (F0 m 281 ls []) := by
            intro fu
            induction fu with
            | zero => intro kk H locs h9; omega
            | succ fu ihh =>
              intro kk H locs hfu hk1 hk2 hP hD hS ls hl
              refine lv_iload hx hb dX12_outside_281 (lv_at hl 3 rfl) ?_
              refine lv_aload_n hx hb dX12_outside_283 rfl (lv_at hl 0 rfl) ?_
              refine va_get (ci := 9) (C := RX12) (T := TX12) (N := 28) hx hb ht iFX12 hown hK hP 0 rfl rfl 5 (by decide) (ht _ kw4_115) (fun _ h9 => h9) rfl dX12_outside_284 ?_
              refine nv_icmp_ge (tgt := 313) hx hb dX12_outside_287 (by decide) (by omega) (by omega) (fun h287 => ?_) (fun h287 => ?_)
              · skip
                have ec : (fun i => if 40 ≤ i ∧ i < kk + 20 then f9 (i - 20) else g0 i) = va_cpy f9 g0 20 40 (n9 - 20) := by
                  funext i
                  unfold va_cpy
                  by_cases h2 : 40 ≤ i ∧ i < kk + 20
                  · rw [if_pos h2, if_pos (by omega), show i - 20 = 20 + (i - 40) by omega]
                  · rw [if_neg h2, if_neg (by omega)]
                rw [ec] at hP hD
                obtain ⟨gc, hgc⟩ : ∃ z, z = va_cpy f9 g0 20 40 (n9 - 20) := ⟨_, rfl⟩
                rw [← hgc] at hP hD
                have hP : va_P D vwCl (mW cy o ad 0 (40 + (n9 - 20)) n9 bits F G u nb ns T M id ft gc f9 g pt ih il ip pn op so fa fp (if tg_nxt (st j) ev false = 8 then st else va_up st j (tg_nxt (st j) ev false)) (if tg_nxt (st j) ev false = 8 then en else va_up en j (T + tg_life (tg_nxt (st j) ev false) q)) dr ++ tl) H := hP
                have hD : va_D A (mW cy o ad 0 (40 + (n9 - 20)) n9 bits F G u nb ns T M id ft gc f9 g pt ih il ip pn op so fa fp (if tg_nxt (st j) ev false = 8 then st else va_up st j (tg_nxt (st j) ev false)) (if tg_nxt (st j) ev false = 8 then en else va_up en j (T + tg_life (tg_nxt (st j) ev false) q)) dr ++ tl) := hD
                refine lv_iload_n hx hb dX12_outside_313 rfl (lv_at hl 1 rfl) ?_
                refine nv_iconst (k := 1) hx hb dX12_outside_314 rfl ?_
                refine nv_icmp_ne (tgt := 372) hx hb dX12_outside_315 (by decide) (by omega) (by omega) (fun h315 => ?_) (fun h315 => ?_)
                · skip
                  refine lv_aload_n hx hb dX12_outside_372 rfl (lv_at hl 0 rfl) ?_
                  refine va_get (ci := 9) (C := RX12) (T := TX12) (N := 28) hx hb ht iFX12 hown hK hP 0 rfl rfl 2 (by decide) (ht _ kw4_112) (fun _ h9 => h9) rfl dX12_outside_373 ?_
                  refine nv_bipush (k := 42) hx hb dX12_outside_376 (by decide) ?_
                  refine nv_iconst (k := 2) hx hb dX12_outside_378 rfl ?_
                  refine lv_aload_n hx hb dX12_outside_379 rfl (lv_at hl 0 rfl) ?_
                  refine va_get (ci := 9) (C := RX12) (T := TX12) (N := 28) hx hb ht iFX12 hown hK hP 0 rfl rfl 15 (by decide) (ht _ kw4_125) (fun _ h9 => h9) rfl dX12_outside_380 ?_
                  refine lv_iload hx hb dX12_outside_383 (lv_at hl 2 rfl) ?_
                  refine nv_iald hx hb hK hP 8 rfl (by omega) (by omega) dX12_outside_385 ?_
                  refine nv_i2l hx hb (by omega) dX12_outside_386 ?_
                  refine wr_S S (c_X12_put (ws := mW cy o ad 0 (40 + (n9 - 20)) n9 bits F G u nb ns T M id ft gc f9 g pt ih il ip pn op so fa fp (if tg_nxt (st j) ev false = 8 then st else va_up st j (tg_nxt (st j) ev false)) (if tg_nxt (st j) ev false = 8 then en else va_up en j (T + tg_life (tg_nxt (st j) ev false) q)) dr ++ tl) (kr := 2) (N := 1640) rfl (by omega) (a := 42) (many := 2) (x := ip b) (v := lN (ip b)) (by omega) (by omega) (fun k hk => by rw [lN_toNat (by omega)])) kw5_123 yv_X12_put ⟨Nat.le_of_ble_eq_true rfl, Nat.le_of_ble_eq_true rfl⟩ hK hP hD hS hA rfl hl.1 rfl (Nat.le_of_ble_eq_true rfl) dX12_outside_387 ⟨Nat.zero_le _, Nat.zero_le _⟩ (fun g_1 H locs hg_1 hP hD hS => ?_)
                  have hP : va_P D vwCl (mW cy o ad 0 (40 + (n9 - 20)) n9 bits F G u nb ns T M id ft g_1 f9 g pt ih il ip pn op so fa fp (if tg_nxt (st j) ev false = 8 then st else va_up st j (tg_nxt (st j) ev false)) (if tg_nxt (st j) ev false = 8 then en else va_up en j (T + tg_life (tg_nxt (st j) ev false) q)) dr ++ tl) H := hP
                  have hD : va_D A (mW cy o ad 0 (40 + (n9 - 20)) n9 bits F G u nb ns T M id ft g_1 f9 g pt ih il ip pn op so fa fp (if tg_nxt (st j) ev false = 8 then st else va_up st j (tg_nxt (st j) ev false)) (if tg_nxt (st j) ev false = 8 then en else va_up en j (T + tg_life (tg_nxt (st j) ev false) q)) dr ++ tl) := hD
                  refine W.eq (g2 := F0 m 390 ls []) rfl ?_
                  refine lv_aload_n hx hb dX12_outside_390 rfl (lv_at hl 0 rfl) ?_
                  refine lv_iload_n hx hb dX12_outside_391 rfl (lv_at hl 1 rfl) ?_
                  refine nv_iconst (k := 1) hx hb dX12_outside_392 rfl ?_
                  have J402 : ∀ ls : Array Slot, lv_has ls 10 [(0, .ref o), (3, .int (nI q)), (7, .int (nI b)), (9, .int (nI kk))] → W p l e (rmw 6 0 0 141) s m args below meth c H locs 0 0 Q (F0 m 402 ls [.int (nI nx), .ref o]) := by
                    intro ls hl
                    refine wr_V S (c_X12_finish (q := nx) hnxl (by omega) (by omega)) kw5_161 yv_X12_finish ⟨Nat.le_of_ble_eq_true rfl, Nat.le_of_ble_eq_true rfl⟩ hK hP hD hS hA (va_recv hK hP (ci := 9) (q0 := 0) rfl rfl) rfl hl.1 rfl (Nat.le_of_ble_eq_true rfl) dX12_outside_402 ⟨Nat.zero_le _, Nat.zero_le _⟩ (fun u8 H locs hu8 hP hD hS => ?_)
                    have hP : va_P D vwCl (mW cy o ad 0 (40 + (n9 - 20)) n9 bits F G u nb ns T (M + 1) id ft (tg_fin g_1 (40 + (n9 - 20)) 40 nx) f9 g pt ih il ip pn op so fa fp (if tg_nxt (st j) ev false = 8 then st else va_up st j (tg_nxt (st j) ev false)) (if tg_nxt (st j) ev false = 8 then en else va_up en j (T + tg_life (tg_nxt (st j) ev false) q)) dr ++ tl) H := hP
                    have hD : va_D A (mW cy o ad 0 (40 + (n9 - 20)) n9 bits F G u nb ns T (M + 1) id ft (tg_fin g_1 (40 + (n9 - 20)) 40 nx) f9 g pt ih il ip pn op so fa fp (if tg_nxt (st j) ev false = 8 then st else va_up st j (tg_nxt (st j) ev false)) (if tg_nxt (st j) ev false = 8 then en else va_up en j (T + tg_life (tg_nxt (st j) ev false) q)) dr ++ tl) := hD
                    refine W.eq (g2 := F0 m 405 ls []) rfl ?_
                    refine lv_aload_n hx hb dX12_outside_405 rfl (lv_at hl 0 rfl) ?_
                    refine va_get (ci := 9) (C := RX12) (T := TX12) (N := 28) hx hb ht iFX12 hown hK hP 0 rfl rfl 3 (by decide) (ht _ kw4_113) (fun _ h9 => h9) rfl dX12_outside_406 ?_
                    exact hend (f9, _) rfl ⟨hf8, by show tg_fin _ _ _ _ = _; rw [hg_1, hgc, hg0]; unfold mk_six mk_six1; rw [← enx, ← ety]; first | rw [if_pos h315] | rw [if_neg h315]⟩ hP hD hS dX12_outside_409
                  refine nv_icmp_ne (tgt := 401) hx hb dX12_outside_393 (by decide) (by omega) (by omega) (fun h393 => ?_) (fun h393 => ?_)
                  · skip
                    refine lv_iload_n hx hb dX12_outside_401 rfl (lv_at hl 1 rfl) ?_
                    refine W.eq (g2 := F0 m 402 ls [.int (nI nx), .ref o]) (congrArg (fun z9 => F0 m 402 ls [.int (nI z9), .ref o]) (show q = nx from (by rw [enx]; unfold tg_nx; split <;> first | rfl | omega))) ?_
                    exact J402 ls (lv_sub hl [0, 1, 2, 3] rfl)
                  refine nv_bipush (k := 58) hx hb dX12_outside_396 (by decide) ?_
                  refine lv_goto (tgt := 402) hx hb dX12_outside_398 (by decide) ?_
                  refine W.eq (g2 := F0 m 402 ls [.int (nI nx), .ref o]) (congrArg (fun z9 => F0 m 402 ls [.int (nI z9), .ref o]) (show 58 = nx from (by rw [enx]; unfold tg_nx; split <;> first | rfl | omega))) ?_
                  exact J402 ls (lv_sub hl [0, 1, 2, 3] rfl)
                refine lv_aload_n hx hb dX12_outside_318 rfl (lv_at hl 0 rfl) ?_
                refine va_get (ci := 9) (C := RX12) (T := TX12) (N := 28) hx hb ht iFX12 hown hK hP 0 rfl rfl 2 (by decide) (ht _ kw4_112) (fun _ h9 => h9) rfl dX12_outside_319 ?_
                refine nv_bipush (k := 40) hx hb dX12_outside_322 (by decide) ?_
                refine nv_iconst (k := 1) hx hb dX12_outside_324 rfl ?_
                refine lv_aload_n hx hb dX12_outside_325 rfl (lv_at hl 0 rfl) ?_
                refine va_get (ci := 9) (C := RX12) (T := TX12) (N := 28) hx hb ht iFX12 hown hK hP 0 rfl rfl 4 (by decide) (ht _ kw4_114) (fun _ h9 => h9) rfl dX12_outside_326 ?_
                refine nv_bipush (k := 20) hx hb dX12_outside_329 (by decide) ?_
                refine ro_S S (c_X12_at (AR_of (ws := mW cy o ad 0 (40 + (n9 - 20)) n9 bits F G u nb ns T M id ft gc f9 g pt ih il ip pn op so fa fp (if tg_nxt (st j) ev false = 8 then st else va_up st j (tg_nxt (st j) ev false)) (if tg_nxt (st j) ev false = 8 then en else va_up en j (T + tg_life (tg_nxt (st j) ev false) q)) dr ++ tl) (kr := 3) (N := 1600) (n := n9) rfl (by omega) (by omega)) (i := 20) (by omega)) kw5_41 yv_X12_at ⟨Nat.le_of_ble_eq_true rfl, Nat.le_of_ble_eq_true rfl⟩ hK hP rfl hl.1 rfl (Nat.le_of_ble_eq_true rfl) dX12_outside_331 ⟨(Nat.zero_le _), (Nat.zero_le _)⟩ ?_
                have hq331 := tg_rd_lt f9 n9 20
                refine nv_bipush (k := 8) hx hb dX12_outside_334 (by decide) ?_
                have J348 : ∀ ls : Array Slot, lv_has ls 10 [(0, .ref o), (3, .int (nI q)), (7, .int (nI b)), (9, .int (nI kk))] → W p l e (rmw 6 0 0 141) s m args below meth c H locs 0 0 Q (F0 m 348 ls [.long (lN (ty9)), .int (nI 1), .int (nI 40), .ref (ad 1)]) := by
                  intro ls hl
                  refine wr_S S (c_X12_put (ws := mW cy o ad 0 (40 + (n9 - 20)) n9 bits F G u nb ns T M id ft gc f9 g pt ih il ip pn op so fa fp (if tg_nxt (st j) ev false = 8 then st else va_up st j (tg_nxt (st j) ev false)) (if tg_nxt (st j) ev false = 8 then en else va_up en j (T + tg_life (tg_nxt (st j) ev false) q)) dr ++ tl) (kr := 2) (N := 1640) rfl (by omega) (a := 40) (many := 1) (x := ty9) (v := lN (ty9)) (by omega) (by omega) (fun k hk => by rw [lN_toNat (by omega)])) kw5_123 yv_X12_put ⟨Nat.le_of_ble_eq_true rfl, Nat.le_of_ble_eq_true rfl⟩ hK hP hD hS hA rfl hl.1 rfl (Nat.le_of_ble_eq_true rfl) dX12_outside_348 ⟨Nat.zero_le _, Nat.zero_le _⟩ (fun g_2 H locs hg_2 hP hD hS => ?_)
                  have hP : va_P D vwCl (mW cy o ad 0 (40 + (n9 - 20)) n9 bits F G u nb ns T M id ft g_2 f9 g pt ih il ip pn op so fa fp (if tg_nxt (st j) ev false = 8 then st else va_up st j (tg_nxt (st j) ev false)) (if tg_nxt (st j) ev false = 8 then en else va_up en j (T + tg_life (tg_nxt (st j) ev false) q)) dr ++ tl) H := hP
                  have hD : va_D A (mW cy o ad 0 (40 + (n9 - 20)) n9 bits F G u nb ns T M id ft g_2 f9 g pt ih il ip pn op so fa fp (if tg_nxt (st j) ev false = 8 then st else va_up st j (tg_nxt (st j) ev false)) (if tg_nxt (st j) ev false = 8 then en else va_up en j (T + tg_life (tg_nxt (st j) ev false) q)) dr ++ tl) := hD
                  refine W.eq (g2 := F0 m 351 ls []) rfl ?_
                  refine lv_aload_n hx hb dX12_outside_351 rfl (lv_at hl 0 rfl) ?_
                  refine va_get (ci := 9) (C := RX12) (T := TX12) (N := 28) hx hb ht iFX12 hown hK hP 0 rfl rfl 2 (by decide) (ht _ kw4_112) (fun _ h9 => h9) rfl dX12_outside_352 ?_
                  refine nv_bipush (k := 44) hx hb dX12_outside_355 (by decide) ?_
                  refine nv_iconst (k := 2) hx hb dX12_outside_357 rfl ?_
                  refine lv_aload_n hx hb dX12_outside_358 rfl (lv_at hl 0 rfl) ?_
                  refine va_get (ci := 9) (C := RX12) (T := TX12) (N := 28) hx hb ht iFX12 hown hK hP 0 rfl rfl 15 (by decide) (ht _ kw4_125) (fun _ h9 => h9) rfl dX12_outside_359 ?_
                  refine lv_iload hx hb dX12_outside_362 (lv_at hl 2 rfl) ?_
                  refine nv_iald hx hb hK hP 8 rfl (by omega) (by omega) dX12_outside_364 ?_
                  refine nv_i2l hx hb (by omega) dX12_outside_365 ?_
                  refine wr_S S (c_X12_put (ws := mW cy o ad 0 (40 + (n9 - 20)) n9 bits F G u nb ns T M id ft g_2 f9 g pt ih il ip pn op so fa fp (if tg_nxt (st j) ev false = 8 then st else va_up st j (tg_nxt (st j) ev false)) (if tg_nxt (st j) ev false = 8 then en else va_up en j (T + tg_life (tg_nxt (st j) ev false) q)) dr ++ tl) (kr := 2) (N := 1640) rfl (by omega) (a := 44) (many := 2) (x := ip b) (v := lN (ip b)) (by omega) (by omega) (fun k hk => by rw [lN_toNat (by omega)])) kw5_123 yv_X12_put ⟨Nat.le_of_ble_eq_true rfl, Nat.le_of_ble_eq_true rfl⟩ hK hP hD hS hA rfl hl.1 rfl (Nat.le_of_ble_eq_true rfl) dX12_outside_366 ⟨Nat.zero_le _, Nat.zero_le _⟩ (fun g_3 H locs hg_3 hP hD hS => ?_)
                  have hP : va_P D vwCl (mW cy o ad 0 (40 + (n9 - 20)) n9 bits F G u nb ns T M id ft g_3 f9 g pt ih il ip pn op so fa fp (if tg_nxt (st j) ev false = 8 then st else va_up st j (tg_nxt (st j) ev false)) (if tg_nxt (st j) ev false = 8 then en else va_up en j (T + tg_life (tg_nxt (st j) ev false) q)) dr ++ tl) H := hP
                  have hD : va_D A (mW cy o ad 0 (40 + (n9 - 20)) n9 bits F G u nb ns T M id ft g_3 f9 g pt ih il ip pn op so fa fp (if tg_nxt (st j) ev false = 8 then st else va_up st j (tg_nxt (st j) ev false)) (if tg_nxt (st j) ev false = 8 then en else va_up en j (T + tg_life (tg_nxt (st j) ev false) q)) dr ++ tl) := hD
                  refine W.eq (g2 := F0 m 369 ls []) rfl ?_
                  refine lv_goto (tgt := 390) hx hb dX12_outside_369 (by decide) ?_
                  refine lv_aload_n hx hb dX12_outside_390 rfl (lv_at hl 0 rfl) ?_
                  refine lv_iload_n hx hb dX12_outside_391 rfl (lv_at hl 1 rfl) ?_
                  refine nv_iconst (k := 1) hx hb dX12_outside_392 rfl ?_
                  have J402 : ∀ ls : Array Slot, lv_has ls 10 [(0, .ref o), (3, .int (nI q)), (7, .int (nI b)), (9, .int (nI kk))] → W p l e (rmw 6 0 0 141) s m args below meth c H locs 0 0 Q (F0 m 402 ls [.int (nI nx), .ref o]) := by
                    intro ls hl
                    refine wr_V S (c_X12_finish (q := nx) hnxl (by omega) (by omega)) kw5_161 yv_X12_finish ⟨Nat.le_of_ble_eq_true rfl, Nat.le_of_ble_eq_true rfl⟩ hK hP hD hS hA (va_recv hK hP (ci := 9) (q0 := 0) rfl rfl) rfl hl.1 rfl (Nat.le_of_ble_eq_true rfl) dX12_outside_402 ⟨Nat.zero_le _, Nat.zero_le _⟩ (fun u8 H locs hu8 hP hD hS => ?_)
                    have hP : va_P D vwCl (mW cy o ad 0 (40 + (n9 - 20)) n9 bits F G u nb ns T (M + 1) id ft (tg_fin g_3 (40 + (n9 - 20)) 40 nx) f9 g pt ih il ip pn op so fa fp (if tg_nxt (st j) ev false = 8 then st else va_up st j (tg_nxt (st j) ev false)) (if tg_nxt (st j) ev false = 8 then en else va_up en j (T + tg_life (tg_nxt (st j) ev false) q)) dr ++ tl) H := hP
                    have hD : va_D A (mW cy o ad 0 (40 + (n9 - 20)) n9 bits F G u nb ns T (M + 1) id ft (tg_fin g_3 (40 + (n9 - 20)) 40 nx) f9 g pt ih il ip pn op so fa fp (if tg_nxt (st j) ev false = 8 then st else va_up st j (tg_nxt (st j) ev false)) (if tg_nxt (st j) ev false = 8 then en else va_up en j (T + tg_life (tg_nxt (st j) ev false) q)) dr ++ tl) := hD
                    refine W.eq (g2 := F0 m 405 ls []) rfl ?_
                    refine lv_aload_n hx hb dX12_outside_405 rfl (lv_at hl 0 rfl) ?_
                    refine va_get (ci := 9) (C := RX12) (T := TX12) (N := 28) hx hb ht iFX12 hown hK hP 0 rfl rfl 3 (by decide) (ht _ kw4_113) (fun _ h9 => h9) rfl dX12_outside_406 ?_
                    exact hend (f9, _) rfl ⟨hf8, by show tg_fin _ _ _ _ = _; rw [hg_3, hg_2, hgc, hg0]; unfold mk_six mk_six1; rw [← enx, ← ety]; first | rw [if_pos h315] | rw [if_neg h315]⟩ hP hD hS dX12_outside_409
                  refine nv_icmp_ne (tgt := 401) hx hb dX12_outside_393 (by decide) (by omega) (by omega) (fun h393 => ?_) (fun h393 => ?_)
                  · skip
                    refine lv_iload_n hx hb dX12_outside_401 rfl (lv_at hl 1 rfl) ?_
                    refine W.eq (g2 := F0 m 402 ls [.int (nI nx), .ref o]) (congrArg (fun z9 => F0 m 402 ls [.int (nI z9), .ref o]) (show q = nx from (by rw [enx]; unfold tg_nx; split <;> first | rfl | omega))) ?_
                    exact J402 ls (lv_sub hl [0, 1, 2, 3] rfl)
                  refine nv_bipush (k := 58) hx hb dX12_outside_396 (by decide) ?_
                  refine lv_goto (tgt := 402) hx hb dX12_outside_398 (by decide) ?_
                  refine W.eq (g2 := F0 m 402 ls [.int (nI nx), .ref o]) (congrArg (fun z9 => F0 m 402 ls [.int (nI z9), .ref o]) (show 58 = nx from (by rw [enx]; unfold tg_nx; split <;> first | rfl | omega))) ?_
                  exact J402 ls (lv_sub hl [0, 1, 2, 3] rfl)
                refine nv_icmp_ne (tgt := 345) hx hb dX12_outside_336 (by decide) (by omega) (by omega) (fun h336 => ?_) (fun h336 => ?_)
                · skip
                  refine nv_ldc2 (k := 129) hx hb hown (ht _ kw5_165) (by decide) dX12_outside_345 ?_
                  refine W.eq (g2 := F0 m 348 ls [.long (lN (ty9)), .int (nI 1), .int (nI 40), .ref (ad 1)]) (congrArg (fun z9 => F0 m 348 ls [.long (lN z9), .int (nI 1), .int (nI 40), .ref (ad 1)]) (show 129 = ty9 from (by rw [ety]; split <;> first | rfl | omega))) ?_
                  exact J348 ls (lv_sub hl [0, 1, 2, 3] rfl)
                refine nv_ldc2 (k := 128) hx hb hown (ht _ kw5_160) (by decide) dX12_outside_339 ?_
                refine lv_goto (tgt := 348) hx hb dX12_outside_342 (by decide) ?_
                refine W.eq (g2 := F0 m 348 ls [.long (lN (ty9)), .int (nI 1), .int (nI 40), .ref (ad 1)]) (congrArg (fun z9 => F0 m 348 ls [.long (lN z9), .int (nI 1), .int (nI 40), .ref (ad 1)]) (show 128 = ty9 from (by rw [ety]; split <;> first | rfl | omega))) ?_
                exact J348 ls (lv_sub hl [0, 1, 2, 3] rfl)
              refine lv_aload_n hx hb dX12_outside_290 rfl (lv_at hl 0 rfl) ?_
              refine va_get (ci := 9) (C := RX12) (T := TX12) (N := 28) hx hb ht iFX12 hown hK hP 0 rfl rfl 2 (by decide) (ht _ kw4_112) (fun _ h9 => h9) rfl dX12_outside_291 ?_
              refine lv_iload hx hb dX12_outside_294 (lv_at hl 3 rfl) ?_
              refine nv_bipush (k := 20) hx hb dX12_outside_296 (by decide) ?_
              refine nv_iadd hx hb dX12_outside_298 ?_
              refine lv_aload_n hx hb dX12_outside_299 rfl (lv_at hl 0 rfl) ?_
              refine va_get (ci := 9) (C := RX12) (T := TX12) (N := 28) hx hb ht iFX12 hown hK hP 0 rfl rfl 4 (by decide) (ht _ kw4_114) (fun _ h9 => h9) rfl dX12_outside_300 ?_
              refine lv_iload hx hb dX12_outside_303 (lv_at hl 3 rfl) ?_
              refine nv_bald hx hb hK hP 3 rfl (by omega) (by omega) dX12_outside_305 ?_
              refine nv_bast hx hb hK hP hD hS 2 rfl (by omega) (by omega) dX12_outside_306 (fun H locs hP hD hS => ?_)
              have hP : va_P D vwCl (mW cy o ad 0 (40 + (n9 - 20)) n9 bits F G u nb ns T M id ft (va_up ((fun i => if 40 ≤ i ∧ i < kk + 20 then f9 (i - 20) else g0 i)) (kk + 20) (by8 ((bt f9 kk)))) f9 g pt ih il ip pn op so fa fp (if tg_nxt (st j) ev false = 8 then st else va_up st j (tg_nxt (st j) ev false)) (if tg_nxt (st j) ev false = 8 then en else va_up en j (T + tg_life (tg_nxt (st j) ev false) q)) dr ++ tl) H := hP
              have hD : va_D A (mW cy o ad 0 (40 + (n9 - 20)) n9 bits F G u nb ns T M id ft (va_up ((fun i => if 40 ≤ i ∧ i < kk + 20 then f9 (i - 20) else g0 i)) (kk + 20) (by8 ((bt f9 kk)))) f9 g pt ih il ip pn op so fa fp (if tg_nxt (st j) ev false = 8 then st else va_up st j (tg_nxt (st j) ev false)) (if tg_nxt (st j) ev false = 8 then en else va_up en j (T + tg_life (tg_nxt (st j) ev false) q)) dr ++ tl) := hD
              refine lv_iinc (v := (nI (kk + 1))) (lv' := [(9, .int (nI (kk + 1))), (0, .ref o), (3, .int (nI q)), (7, .int (nI b))]) hx hb dX12_outside_307 hl (k := 3) rfl (nI_inc _ _) (by decide) rfl (fun ls hl => ?_)
              refine lv_goto (tgt := 281) hx hb dX12_outside_310 (by decide) ?_
              have e1 : va_up ((fun i => if 40 ≤ i ∧ i < kk + 20 then f9 (i - 20) else g0 i)) (kk + 20) (by8 ((bt f9 kk))) = (fun i => if 40 ≤ i ∧ i < (kk + 1) + 20 then f9 (i - 20) else g0 i) := by
                funext i
                rw [show by8 (bt f9 kk) = f9 kk from u8_rt (f9 kk)]
                unfold va_up
                by_cases h : i = kk + 20
                · rw [if_pos h, if_pos (by omega), show i - 20 = kk by omega]
                · rw [if_neg h]
                  dsimp only
                  by_cases h2 : 40 ≤ i ∧ i < kk + 20
                  · rw [if_pos h2, if_pos (by omega)]
                  · rw [if_neg h2, if_neg (by omega)]
              rw [e1] at hP hD
              exact ihh (kk + 1) H locs (by omega) (by omega) (by omega) hP hD hS ls (lv_sub hl [1, 2, 3, 0] rfl)
          have e00 : g0 = (fun i => if 40 ≤ i ∧ i < 20 + 20 then f9 (i - 20) else g0 i) := by funext i; rw [if_neg (by omega)]
          exact L281 (n9 + 1) 20 H locs (by omega) (by omega) (by omega) (by rw [← e00]; exact hP) (by rw [← e00]; exact hD) hS ls (lv_sub hl [8, 6, 2, 0] rfl)
        refine nv_icmp_ne (tgt := 273) hx hb dX12_outside_265 (by decide) (by omega) (by omega) (fun h265 => ?_) (fun h265 => ?_)
        · skip
          refine lv_iload_n hx hb dX12_outside_273 rfl (lv_at hl 5 rfl) ?_
          refine W.eq (g2 := F0 m 274 ls [.int (nI nx), .int (nI (n9 - 20)), .int (nI b), .ref o]) (congrArg (fun z9 => F0 m 274 ls [.int (nI z9), .int (nI (n9 - 20)), .int (nI b), .ref o]) (show q = nx from (by rw [enx]; unfold tg_nx; split <;> first | rfl | omega))) ?_
          exact J274 ls (lv_sub hl [0, 1, 2, 3, 4, 5, 6, 7, 8] rfl)
        refine nv_bipush (k := 58) hx hb dX12_outside_268 (by decide) ?_
        refine lv_goto (tgt := 274) hx hb dX12_outside_270 (by decide) ?_
        refine W.eq (g2 := F0 m 274 ls [.int (nI nx), .int (nI (n9 - 20)), .int (nI b), .ref o]) (congrArg (fun z9 => F0 m 274 ls [.int (nI z9), .int (nI (n9 - 20)), .int (nI b), .ref o]) (show 58 = nx from (by rw [enx]; unfold tg_nx; split <;> first | rfl | omega))) ?_
        exact J274 ls (lv_sub hl [0, 1, 2, 3, 4, 5, 6, 7, 8] rfl)
      refine nv_icmp_ne (tgt := 124) hx hb dX12_outside_109 (by decide) (by omega) (by omega) (fun h109 => ?_) (fun h109 => ?_)
      · skip
        refine nv_iconst (k := 3) hx hb dX12_outside_124 rfl ?_
        refine W.eq (g2 := F0 m 125 ls [.int (nI (3 - ev))]) (congrArg (fun z9 => F0 m 125 ls [.int (nI z9)]) (show 3 = 3 - ev from (by rw [eev, ev_k (q := q)]; split <;> first | rfl | (exfalso; omega)))) ?_
        exact J125 ls (lv_sub hl [0, 1, 2, 3, 4, 5] rfl)
      refine lv_aload_n hx hb dX12_outside_112 rfl (lv_at hl 4 rfl) ?_
      refine va_get (ci := 9) (C := RX12) (T := TX12) (N := 28) hx hb ht iFX12 hown hK hP 0 rfl rfl 4 (by decide) (ht _ kw4_114) (fun _ h9 => h9) rfl dX12_outside_113 ?_
      refine nv_bipush (k := 20) hx hb dX12_outside_116 (by decide) ?_
      refine ro_S S (c_X12_kindOf (AR_of (ws := mW cy o ad 0 os n9 bits F G u nb ns T M id ft fo f9 g pt ih il ip pn op so fa fp st en dr ++ tl) (kr := 3) (N := 1600) (n := n9) rfl (by omega) (by omega)) (hd := 20) (by omega)) kw5_79 yv_X12_kindOf ⟨Nat.le_of_ble_eq_true rfl, Nat.le_of_ble_eq_true rfl⟩ hK hP rfl hl.1 rfl (Nat.le_of_ble_eq_true rfl) dX12_outside_118 ⟨(Nat.zero_le _), (Nat.zero_le _)⟩ ?_
      refine lv_goto (tgt := 125) hx hb dX12_outside_121 (by decide) ?_
      refine W.eq (g2 := F0 m 125 ls [.int (nI (3 - ev))]) (congrArg (fun z9 => F0 m 125 ls [.int (nI z9)]) (show 3 - tg_event (tg_rd f9 n9) 20 6 = 3 - ev from (by rw [eev, ev_k (q := q)]; split <;> first | rfl | (exfalso; omega)))) ?_
      exact J125 ls (lv_sub hl [0, 1, 2, 3, 4, 5] rfl)
    refine nv_icmp_ne (tgt := 95) hx hb dX12_outside_88 (by decide) (by omega) (by omega) (fun h88 => ?_) (fun h88 => ?_)
    · skip
      refine lv_aload_n hx hb dX12_outside_95 rfl (lv_at hl 3 rfl) ?_
      refine va_get (ci := 9) (C := RX12) (T := TX12) (N := 28) hx hb ht iFX12 hown hK hP 0 rfl rfl 4 (by decide) (ht _ kw4_114) (fun _ h9 => h9) rfl dX12_outside_96 ?_
      refine nv_bipush (k := 20) hx hb dX12_outside_99 (by decide) ?_
      refine ro_S S (c_X12_two (AR_of (ws := mW cy o ad 0 os n9 bits F G u nb ns T M id ft fo f9 g pt ih il ip pn op so fa fp st en dr ++ tl) (kr := 3) (N := 1600) (n := n9) rfl (by omega) (by omega)) (i := 20) (by omega)) kw5_44 yv_X12_two ⟨Nat.le_of_ble_eq_true rfl, Nat.le_of_ble_eq_true rfl⟩ hK hP rfl hl.1 rfl (Nat.le_of_ble_eq_true rfl) dX12_outside_101 ⟨(Nat.zero_le _), (Nat.zero_le _)⟩ ?_
      have hq101 := tg_pr_lt f9 n9 20
      refine W.eq (g2 := F0 m 104 ls [.int (nI fpt)]) (congrArg (fun z9 => F0 m 104 ls [.int (nI z9)]) (show tg_pr (tg_rd f9 n9) 20 = fpt from (by rw [efpt]; unfold tg_spa; (repeat' split) <;> first | rfl | (exfalso; omega)))) ?_
      exact J104 ls (lv_sub hl [0, 1, 2, 3, 4] rfl)
    refine nv_iconst (k := 0) hx hb dX12_outside_91 rfl ?_
    refine lv_goto (tgt := 104) hx hb dX12_outside_92 (by decide) ?_
    refine W.eq (g2 := F0 m 104 ls [.int (nI fpt)]) (congrArg (fun z9 => F0 m 104 ls [.int (nI z9)]) (show 0 = fpt from (by rw [efpt]; unfold tg_spa; (repeat' split) <;> first | rfl | (exfalso; omega)))) ?_
    exact J104 ls (lv_sub hl [0, 1, 2, 3, 4] rfl)
  refine nv_icmp_ne (tgt := 75) hx hb dX12_outside_60 (by decide) (by omega) (by omega) (fun h60 => ?_) (fun h60 => ?_)
  · skip
    refine lv_aload_n hx hb dX12_outside_75 rfl (lv_at hl 2 rfl) ?_
    refine va_get (ci := 9) (C := RX12) (T := TX12) (N := 28) hx hb ht iFX12 hown hK hP 0 rfl rfl 4 (by decide) (ht _ kw4_114) (fun _ h9 => h9) rfl dX12_outside_76 ?_
    refine nv_bipush (k := 22) hx hb dX12_outside_79 (by decide) ?_
    refine ro_S S (c_X12_two (AR_of (ws := mW cy o ad 0 os n9 bits F G u nb ns T M id ft fo f9 g pt ih il ip pn op so fa fp st en dr ++ tl) (kr := 3) (N := 1600) (n := n9) rfl (by omega) (by omega)) (i := 22) (by omega)) kw5_44 yv_X12_two ⟨Nat.le_of_ble_eq_true rfl, Nat.le_of_ble_eq_true rfl⟩ hK hP rfl hl.1 rfl (Nat.le_of_ble_eq_true rfl) dX12_outside_81 ⟨(Nat.zero_le _), (Nat.zero_le _)⟩ ?_
    have hq81 := tg_pr_lt f9 n9 22
    refine W.eq (g2 := F0 m 84 ls [.int (nI port)]) (congrArg (fun z9 => F0 m 84 ls [.int (nI z9)]) (show tg_pr (tg_rd f9 n9) 22 = port from (by rw [eport]; unfold tg_dpa; split <;> first | rfl | (exfalso; omega)))) ?_
    exact J84 ls (lv_sub hl [0, 1, 2, 3] rfl)
  refine lv_aload_n hx hb dX12_outside_63 rfl (lv_at hl 2 rfl) ?_
  refine va_get (ci := 9) (C := RX12) (T := TX12) (N := 28) hx hb ht iFX12 hown hK hP 0 rfl rfl 4 (by decide) (ht _ kw4_114) (fun _ h9 => h9) rfl dX12_outside_64 ?_
  refine nv_bipush (k := 24) hx hb dX12_outside_67 (by decide) ?_
  refine ro_S S (c_X12_two (AR_of (ws := mW cy o ad 0 os n9 bits F G u nb ns T M id ft fo f9 g pt ih il ip pn op so fa fp st en dr ++ tl) (kr := 3) (N := 1600) (n := n9) rfl (by omega) (by omega)) (i := 24) (by omega)) kw5_44 yv_X12_two ⟨Nat.le_of_ble_eq_true rfl, Nat.le_of_ble_eq_true rfl⟩ hK hP rfl hl.1 rfl (Nat.le_of_ble_eq_true rfl) dX12_outside_69 ⟨(Nat.zero_le _), (Nat.zero_le _)⟩ ?_
  have hq69 := tg_pr_lt f9 n9 24
  refine lv_goto (tgt := 84) hx hb dX12_outside_72 (by decide) ?_
  refine W.eq (g2 := F0 m 84 ls [.int (nI port)]) (congrArg (fun z9 => F0 m 84 ls [.int (nI z9)]) (show tg_pr (tg_rd f9 n9) 24 = port from (by rw [eport]; unfold tg_dpa; split <;> first | rfl | (exfalso; omega)))) ?_
  exact J84 ls (lv_sub hl [0, 1, 2, 3] rfl)
set_option maxHeartbeats 4000000 in
set_option maxRecDepth 100000 in
theorem c_X12_outside2 {l : Launch} {D : va_G} {cy : Nat → ClassId} {o : Nat} {ad : Nat → Nat} {tl : va_W} {tp os sz bits F G u nb ns T M id : Nat} {ft fo fi : Nat → UInt8} {g : Nat → Int32} {pt ih il ip pn op so fa fp st en dr : Nat → Nat} (hb_pt : ∀ i, pt i < 2 ^ 31) (hb_ih : ∀ i, ih i < 2 ^ 64) (hb_il : ∀ i, il i < 2 ^ 64) (hb_ip : ∀ i, ip i < 2 ^ 31) (hb_pn : ∀ i, pn i < 2 ^ 31) (hb_op : ∀ i, op i < 2 ^ 31) (hb_pn4 : ∀ i, pn i < 4) (hb_so : ∀ i, so i < 2 ^ 31) (hb_fa : ∀ i, fa i < 2 ^ 32) (hb_fp : ∀ i, fp i < 2 ^ 31) (hb_st : ∀ i, st i ≤ 7) (htp : tp ≤ 1600) (hos : os ≤ 1640) (hsi : SI bits F G) (hu4 : u ≤ 4) (hnb : nb ≤ 64) (hns : ns ≤ 128) {n9 : Nat} (hn9 : n9 ≤ tp) {q port far fpt ev num : Nat} (eq0 : q = tg_rd ft n9 9) (eport : port = tg_pr (tg_rd ft n9) (20 + tg_dpa q)) (efar : far = tg_qd (tg_rd ft n9) 12) (efpt : fpt = if q = 1 then 0 else tg_pr (tg_rd ft n9) (20 + tg_spa q)) (eev : ev = tg_event (tg_rd ft n9) 20 q) (enum : num = tg_first (fun k => decide (g k = nI (tg_qd (tg_rd ft n9) 16))) u) (hz0 : tg_out (tg_rd ft n9) n9 bits g u = 0) (herr : tg_isErr (tg_rd ft n9) = false) {b : Nat} (hb9 : b < nb) (hfb : tg_first (fun k => decide (pt k = q ∧ pn k = num ∧ op k = port)) nb = b) (hfj : ¬ tg_first (fun k => decide (so k = b ∧ fa k = far ∧ fp k = fpt)) ns < ns) (hmay : (q ≠ 6 ∨ ev = 2) ∧ ns < 128) (hip9 : ip b < 65536) : WR (S := ((Nat → UInt8) × (Nat → UInt8))) l yX12_outside cX12_outside 10 (some .int) 6 0 0 141 [.ref o, .int (nI n9)] D cy (mW cy o ad tp os sz bits F G u nb ns T M id ft fo fi g pt ih il ip pn op so fa fp st en dr ++ tl) (fun u_ => some (.int (nI (40 + (n9 - 20))))) (fun z9 => (∀ k, k < n9 → z9.1 k = ft k) ∧ z9.2 = mk_six fo z9.1 n9 q (ip b) (ih b) (il b) bits F G) (fun z9 => mW cy o ad 0 (40 + (n9 - 20)) n9 bits F G u nb (ns + 1) T (M + 1) id ft z9.2 z9.1 g pt ih il ip pn op (va_up so ns b) (va_up fa ns far) (va_up fp ns fpt) (va_up st ns (tg_first_st q false)) (va_up en ns (T + tg_life (tg_first_st q false) q)) dr ++ tl) := by
  refine WRi (by decide) (lv0 := [(0, .ref o), (1, .int (nI n9))]) rfl (Nat.le_of_ble_eq_true rfl) ?_
  intro p e s m args below meth c ls A Q S hnm hP hK hD hS hA hend hl
  have hx := S.1
  have hb := S.2.1
  have hown : s.vm.findClass RX12 = some m.cls := S.2.2.2.1
  have ht : ∀ w ∈ lw_g, w.before args s = true := fun w h => S.2.2.2.2 w (List.mem_cons_of_mem _ h)
  have hP : va_P D vwCl (mW cy o ad tp os sz bits F G u nb ns T M id ft fo fi g pt ih il ip pn op so fa fp st en dr ++ tl) s.heap := hP
  have hu : u ≤ 4 := hu4
  have hb0 : bits ≤ 96 := by have := hsi.b; omega
  have hptb : pt b = q := by have h9 := tg_first_is (q := (fun k => decide (pt k = q ∧ pn k = num ∧ op k = port))) (n := nb) (by rw [hfb]; exact hb9); rw [hfb] at h9; exact (of_decide_eq_true h9).1
  refine lv_iload_n hx hb dX12_outside_0 rfl (lv_at hl 1 rfl) ?_
  refine nv_i2l hx hb (by omega) dX12_outside_1 ?_
  refine lv_lconst (v := lN 0) hx hb dX12_outside_2 (by decide) ?_
  refine lv_aload_n hx hb dX12_outside_3 rfl (lv_at hl 0 rfl) ?_
  refine va_get (ci := 9) (C := RX12) (T := TX12) (N := 28) hx hb ht iFX12 hown hK hP 0 rfl rfl 1 (by decide) (ht _ kw4_111) (fun _ h9 => h9) rfl dX12_outside_4 ?_
  refine nv_i2l hx hb (by omega) dX12_outside_7 ?_
  refine ro_S S (c_X12_isIn (v := lN (n9)) (lo := lN (0)) (hi := lN (tp))) kw5_14 yv_X12_isIn ⟨Nat.le_of_ble_eq_true rfl, Nat.le_of_ble_eq_true rfl⟩ hK hP rfl hl.1 rfl (Nat.le_of_ble_eq_true rfl) dX12_outside_8 ⟨(Nat.zero_le _), (Nat.zero_le _)⟩ ?_
  rw [show tg_isIn (lN (n9)) (lN (0)) (lN (tp)) = true from (by rw [isIn_nat (by omega) (by omega) (by omega)]; exact decide_eq_true (by omega))]
  refine nv_if_neb (tgt := 16) hx hb dX12_outside_11 (by decide) (fun _ => ?_) (fun h => absurd h (by decide))
  refine lv_aload_n hx hb dX12_outside_16 rfl (lv_at hl 0 rfl) ?_
  refine lv_iload_n hx hb dX12_outside_17 rfl (lv_at hl 1 rfl) ?_
  refine wr_V S (c_X12_begin (x := n9) (by omega)) kw5_33 yv_X12_begin ⟨Nat.le_of_ble_eq_true rfl, Nat.le_of_ble_eq_true rfl⟩ hK hP hD hS hA (va_recv hK hP (ci := 9) (q0 := 0) rfl rfl) rfl hl.1 rfl (Nat.le_of_ble_eq_true rfl) dX12_outside_18 ⟨Nat.zero_le _, Nat.zero_le _⟩ (fun u1 H locs hu1 hP hD hS => ?_)
  obtain ⟨f9, hf9⟩ : ∃ z, z = (fun k => if k < n9 then ft k else fi k) := ⟨_, rfl⟩
  rw [← hf9] at hP hD
  have hP : va_P D vwCl (mW cy o ad 0 os n9 bits F G u nb ns T M id ft fo f9 g pt ih il ip pn op so fa fp st en dr ++ tl) H := hP
  have hD : va_D A (mW cy o ad 0 os n9 bits F G u nb ns T M id ft fo f9 g pt ih il ip pn op so fa fp st en dr ++ tl) := hD
  have hf8 : ∀ k, k < n9 → f9 k = ft k := fun k hk => by rw [hf9]; exact if_pos hk
  have erd : tg_rd f9 n9 = tg_rd ft n9 := rd_cong hf8
  rw [← erd] at eq0 eport efar efpt eev enum hz0 herr
  have hou := out0 hz0
  have hnu : num < u := by rw [enum]; exact (num_is hou.2.2.1).2
  have hq3 : q = 1 ∨ q = 6 ∨ q = 17 := by rw [eq0]; exact hou.1.2.1
  have hport : port < 65536 := by rw [eport]; exact tg_pr_lt _ _ _
  have hfar : far < 2 ^ 32 := by rw [efar]; exact tg_qd_lt _ _ _
  have hfpt : fpt < 65536 := by rw [efpt]; split; omega; exact tg_pr_lt _ _ _
  have hev : ev ≤ 3 := by rw [eev]; exact tg_event_le _ _ _
  obtain ⟨nx, enx⟩ : ∃ z, z = tg_nx q := ⟨_, rfl⟩
  have hnxl : nx < 256 := by rw [enx]; exact tg_nx_lt hq3
  have hsum : tg_sumAt nx + 2 ≤ n9 - 20 := by have h6 : q = 6 → 20 ≤ n9 - 20 := (by rw [eq0]; exact hou.1.2.2.1); have h8 := hou.1.1; rw [enx]; unfold tg_nx tg_sumAt; (repeat' split) <;> omega
  obtain ⟨ty9, ety⟩ : ∃ z, z = (if tg_rd f9 n9 20 = 8 then 128 else 129) := ⟨_, rfl⟩
  have hty : ty9 < 256 := by rw [ety]; split <;> omega
  refine W.eq (g2 := F0 m 21 ls []) rfl ?_
  refine lv_aload_n hx hb dX12_outside_21 rfl (lv_at hl 0 rfl) ?_
  refine ro_V S (c_X12_lackOfOutside (ws := mW cy o ad 0 os n9 bits F G u nb ns T M id ft fo f9 g pt ih il ip pn op so fa fp st en dr ++ tl) (km := 0) rfl rfl rfl rfl rfl rfl (AR_of (ws := mW cy o ad 0 os n9 bits F G u nb ns T M id ft fo f9 g pt ih il ip pn op so fa fp st en dr ++ tl) (kr := 3) (N := 1600) (n := n9) rfl (by omega) (by omega)) (kq := 4) rfl hu hb0) kw5_135 yv_X12_lackOfOutside ⟨Nat.le_of_ble_eq_true rfl, Nat.le_of_ble_eq_true rfl⟩ hK hP (va_recv hK hP (ci := 9) (q0 := 0) rfl rfl) rfl hl.1 rfl (Nat.le_of_ble_eq_true rfl) dX12_outside_22 ⟨(Nat.zero_le _), (Nat.zero_le _)⟩ ?_
  rw [hz0]
  refine lv_istore_n (lv' := [(2, .int (nI 0)), (0, .ref o), (1, .int (nI n9))]) hx hb dX12_outside_25 rfl hl (by decide) rfl (fun ls hl => ?_)
  refine lv_iload_n hx hb dX12_outside_26 rfl (lv_at hl 0 rfl) ?_
  refine nv_if_le (tgt := 36) hx hb dX12_outside_27 (by decide) (by omega) (fun _ => ?_) (fun h => absurd h (by decide))
  refine lv_aload_n hx hb dX12_outside_36 rfl (lv_at hl 1 rfl) ?_
  refine ro_V S (c_X12_isError (ws := mW cy o ad 0 os n9 bits F G u nb ns T M id ft fo f9 g pt ih il ip pn op so fa fp st en dr ++ tl) (km := 0) rfl rfl (AR_of (ws := mW cy o ad 0 os n9 bits F G u nb ns T M id ft fo f9 g pt ih il ip pn op so fa fp st en dr ++ tl) (kr := 3) (N := 1600) (n := n9) rfl (by omega) (by omega)) (by omega)) kw5_139 yv_X12_isError ⟨Nat.le_of_ble_eq_true rfl, Nat.le_of_ble_eq_true rfl⟩ hK hP (va_recv hK hP (ci := 9) (q0 := 0) rfl rfl) rfl hl.1 rfl (Nat.le_of_ble_eq_true rfl) dX12_outside_37 ⟨(Nat.zero_le _), (Nat.zero_le _)⟩ ?_
  rw [herr]
  refine nv_if_eqb (tgt := 48) hx hb dX12_outside_40 (by decide) (fun _ => ?_) (fun h => absurd h (by decide))
  refine lv_aload_n hx hb dX12_outside_48 rfl (lv_at hl 1 rfl) ?_
  refine va_get (ci := 9) (C := RX12) (T := TX12) (N := 28) hx hb ht iFX12 hown hK hP 0 rfl rfl 4 (by decide) (ht _ kw4_114) (fun _ h9 => h9) rfl dX12_outside_49 ?_
  refine nv_bipush (k := 9) hx hb dX12_outside_52 (by decide) ?_
  refine ro_S S (c_X12_at (AR_of (ws := mW cy o ad 0 os n9 bits F G u nb ns T M id ft fo f9 g pt ih il ip pn op so fa fp st en dr ++ tl) (kr := 3) (N := 1600) (n := n9) rfl (by omega) (by omega)) (i := 9) (by omega)) kw5_41 yv_X12_at ⟨Nat.le_of_ble_eq_true rfl, Nat.le_of_ble_eq_true rfl⟩ hK hP rfl hl.1 rfl (Nat.le_of_ble_eq_true rfl) dX12_outside_54 ⟨(Nat.zero_le _), (Nat.zero_le _)⟩ ?_
  have hq54 := tg_rd_lt f9 n9 9
  rw [← eq0]
  refine lv_istore_n (lv' := [(3, .int (nI q)), (2, .int (nI 0)), (0, .ref o), (1, .int (nI n9))]) hx hb dX12_outside_57 rfl hl (by decide) rfl (fun ls hl => ?_)
  refine lv_iload_n hx hb dX12_outside_58 rfl (lv_at hl 0 rfl) ?_
  refine nv_iconst (k := 1) hx hb dX12_outside_59 rfl ?_
  have J84 : ∀ ls : Array Slot, lv_has ls 10 [(3, .int (nI q)), (2, .int (nI 0)), (0, .ref o), (1, .int (nI n9))] → W p l e (rmw 6 0 0 141) s m args below meth c H locs 0 0 Q (F0 m 84 ls [.int (nI port)]) := by
    intro ls hl
    refine lv_istore (lv' := [(4, .int (nI port)), (3, .int (nI q)), (2, .int (nI 0)), (0, .ref o), (1, .int (nI n9))]) hx hb dX12_outside_84 hl (by decide) rfl (fun ls hl => ?_)
    refine lv_iload_n hx hb dX12_outside_86 rfl (lv_at hl 1 rfl) ?_
    refine nv_iconst (k := 1) hx hb dX12_outside_87 rfl ?_
    have J104 : ∀ ls : Array Slot, lv_has ls 10 [(4, .int (nI port)), (3, .int (nI q)), (2, .int (nI 0)), (0, .ref o), (1, .int (nI n9))] → W p l e (rmw 6 0 0 141) s m args below meth c H locs 0 0 Q (F0 m 104 ls [.int (nI fpt)]) := by
      intro ls hl
      refine lv_istore (lv' := [(5, .int (nI fpt)), (4, .int (nI port)), (3, .int (nI q)), (2, .int (nI 0)), (0, .ref o), (1, .int (nI n9))]) hx hb dX12_outside_104 hl (by decide) rfl (fun ls hl => ?_)
      refine lv_iload_n hx hb dX12_outside_106 rfl (lv_at hl 2 rfl) ?_
      refine nv_bipush (k := 6) hx hb dX12_outside_107 (by decide) ?_
      have J125 : ∀ ls : Array Slot, lv_has ls 10 [(5, .int (nI fpt)), (4, .int (nI port)), (3, .int (nI q)), (2, .int (nI 0)), (0, .ref o), (1, .int (nI n9))] → W p l e (rmw 6 0 0 141) s m args below meth c H locs 0 0 Q (F0 m 125 ls [.int (nI (3 - ev))]) := by
        intro ls hl
        refine lv_istore (lv' := [(6, .int (nI (3 - ev))), (5, .int (nI fpt)), (4, .int (nI port)), (3, .int (nI q)), (2, .int (nI 0)), (0, .ref o), (1, .int (nI n9))]) hx hb dX12_outside_125 hl (by decide) rfl (fun ls hl => ?_)
        refine lv_aload_n hx hb dX12_outside_127 rfl (lv_at hl 5 rfl) ?_
        refine lv_iload_n hx hb dX12_outside_128 rfl (lv_at hl 3 rfl) ?_
        refine lv_aload_n hx hb dX12_outside_129 rfl (lv_at hl 5 rfl) ?_
        refine lv_aload_n hx hb dX12_outside_130 rfl (lv_at hl 5 rfl) ?_
        refine va_get (ci := 9) (C := RX12) (T := TX12) (N := 28) hx hb ht iFX12 hown hK hP 0 rfl rfl 4 (by decide) (ht _ kw4_114) (fun _ h9 => h9) rfl dX12_outside_131 ?_
        refine nv_bipush (k := 16) hx hb dX12_outside_134 (by decide) ?_
        refine ro_S S (c_X12_four (AR_of (ws := mW cy o ad 0 os n9 bits F G u nb ns T M id ft fo f9 g pt ih il ip pn op so fa fp st en dr ++ tl) (kr := 3) (N := 1600) (n := n9) rfl (by omega) (by omega)) (i := 16) (by omega)) kw5_72 yv_X12_four ⟨Nat.le_of_ble_eq_true rfl, Nat.le_of_ble_eq_true rfl⟩ hK hP rfl hl.1 rfl (Nat.le_of_ble_eq_true rfl) dX12_outside_136 ⟨(Nat.zero_le _), (Nat.zero_le _)⟩ ?_
        have hq136 := tg_qd_lt f9 n9 16
        refine ro_V S (c_X12_poolOf (ws := mW cy o ad 0 os n9 bits F G u nb ns T M id ft fo f9 g pt ih il ip pn op so fa fp st en dr ++ tl) (km := 0) rfl rfl rfl (kq := 4) rfl hu (x := tg_qd (tg_rd f9 n9) 16) (by omega)) kw4_209 yv_X12_poolOf ⟨Nat.le_of_ble_eq_true rfl, Nat.le_of_ble_eq_true rfl⟩ hK hP (va_recv hK hP (ci := 9) (q0 := 0) rfl rfl) rfl hl.1 rfl (Nat.le_of_ble_eq_true rfl) dX12_outside_139 ⟨(Nat.zero_le _), (Nat.zero_le _)⟩ ?_
        rw [(num_is hou.2.2.1).1, ← enum]
        refine lv_iload hx hb dX12_outside_142 (lv_at hl 2 rfl) ?_
        refine ro_V S (c_X12_findOuter (ws := mW cy o ad 0 os n9 bits F G u nb ns T M id ft fo f9 g pt ih il ip pn op so fa fp st en dr ++ tl) (km := 0) rfl rfl rfl rfl rfl (k_pt := 5) rfl hb_pt (k_pn := 9) rfl hb_pn (k_op := 10) rfl hb_op hnb (q := q) (num := num) (port := port) (by omega) (by omega) (by omega)) kw5_98 yv_X12_findOuter ⟨Nat.le_of_ble_eq_true rfl, Nat.le_of_ble_eq_true rfl⟩ hK hP (va_recv hK hP (ci := 9) (q0 := 0) rfl rfl) rfl hl.1 rfl (Nat.le_of_ble_eq_true rfl) dX12_outside_144 ⟨(Nat.zero_le _), (Nat.zero_le _)⟩ ?_
        rw [fb_at (ws := 0) hfb hb9]
        refine lv_istore (lv' := [(7, .int (nI b)), (6, .int (nI (3 - ev))), (5, .int (nI fpt)), (4, .int (nI port)), (3, .int (nI q)), (2, .int (nI 0)), (0, .ref o), (1, .int (nI n9))]) hx hb dX12_outside_147 hl (by decide) rfl (fun ls hl => ?_)
        refine lv_iload hx hb dX12_outside_149 (lv_at hl 0 rfl) ?_
        refine nv_if_ge (tgt := 158) hx hb dX12_outside_151 (by decide) (by omega) ?_
        refine lv_aload_n hx hb dX12_outside_158 rfl (lv_at hl 6 rfl) ?_
        refine lv_iload hx hb dX12_outside_159 (lv_at hl 0 rfl) ?_
        refine lv_aload_n hx hb dX12_outside_161 rfl (lv_at hl 6 rfl) ?_
        refine va_get (ci := 9) (C := RX12) (T := TX12) (N := 28) hx hb ht iFX12 hown hK hP 0 rfl rfl 4 (by decide) (ht _ kw4_114) (fun _ h9 => h9) rfl dX12_outside_162 ?_
        refine nv_bipush (k := 12) hx hb dX12_outside_165 (by decide) ?_
        refine ro_S S (c_X12_four (AR_of (ws := mW cy o ad 0 os n9 bits F G u nb ns T M id ft fo f9 g pt ih il ip pn op so fa fp st en dr ++ tl) (kr := 3) (N := 1600) (n := n9) rfl (by omega) (by omega)) (i := 12) (by omega)) kw5_72 yv_X12_four ⟨Nat.le_of_ble_eq_true rfl, Nat.le_of_ble_eq_true rfl⟩ hK hP rfl hl.1 rfl (Nat.le_of_ble_eq_true rfl) dX12_outside_167 ⟨(Nat.zero_le _), (Nat.zero_le _)⟩ ?_
        have hq167 := tg_qd_lt f9 n9 12
        rw [← efar]
        refine lv_iload hx hb dX12_outside_170 (lv_at hl 2 rfl) ?_
        refine ro_V S (c_X12_findSession (ws := mW cy o ad 0 os n9 bits F G u nb ns T M id ft fo f9 g pt ih il ip pn op so fa fp st en dr ++ tl) (km := 0) rfl rfl rfl rfl rfl (k_so := 11) rfl hb_so (k_fa := 12) rfl hb_fa (k_fp := 13) rfl hb_fp hns (b := b) (x := far) (port := fpt) (by omega) (by omega) (by omega)) kw5_86 yv_X12_findSession ⟨Nat.le_of_ble_eq_true rfl, Nat.le_of_ble_eq_true rfl⟩ hK hP (va_recv hK hP (ci := 9) (q0 := 0) rfl rfl) rfl hl.1 rfl (Nat.le_of_ble_eq_true rfl) dX12_outside_172 ⟨(Nat.zero_le _), (Nat.zero_le _)⟩ ?_
        rw [fb_no hfj]
        refine lv_istore (lv' := [(8, .int (-1)), (7, .int (nI b)), (6, .int (nI (3 - ev))), (5, .int (nI fpt)), (4, .int (nI port)), (3, .int (nI q)), (2, .int (nI 0)), (0, .ref o), (1, .int (nI n9))]) hx hb dX12_outside_175 hl (by decide) rfl (fun ls hl => ?_)
        refine lv_iload hx hb dX12_outside_177 (lv_at hl 1 rfl) ?_
        refine nv_if_lt (tgt := 209) hx hb dX12_outside_179 (by decide) (by omega) ?_
        refine lv_iload hx hb dX12_outside_182 (lv_at hl 0 rfl) ?_
        refine lv_if_ge (tgt := 216) hx hb dX12_outside_184 (by decide) (fun h9 => absurd h9 (by decide)) (fun _ => ?_)
        refine lv_iload_n hx hb dX12_outside_187 rfl (lv_at hl 5 rfl) ?_
        refine nv_bipush (k := 6) hx hb dX12_outside_188 (by decide) ?_
        refine nv_icmp_ne (tgt := 199) hx hb dX12_outside_190 (by decide) (by omega) (by omega) (fun h190 => ?_) (fun h190 => ?_)
        · skip
          refine lv_aload_n hx hb dX12_outside_199 rfl (lv_at hl 7 rfl) ?_
          refine va_get (ci := 9) (C := RX12) (T := TX12) (N := 28) hx hb ht iFX12 hown hK hP 0 rfl rfl 18 (by decide) (ht _ kw4_128) (fun _ h9 => h9) rfl dX12_outside_200 ?_
          refine nv_sipush (k := 128) hx hb dX12_outside_203 (by decide) ?_
          refine nv_icmp_ne (tgt := 216) hx hb dX12_outside_206 (by decide) (by omega) (by omega) (fun h206 => ?_) (fun h206 => ?_)
          · skip
            refine lv_iload hx hb dX12_outside_216 (lv_at hl 0 rfl) ?_
            refine lv_if_ge (tgt := 244) hx hb dX12_outside_218 (by decide) (fun h9 => absurd h9 (by decide)) (fun _ => ?_)
            refine lv_aload_n hx hb dX12_outside_221 rfl (lv_at hl 7 rfl) ?_
            refine lv_iload hx hb dX12_outside_222 (lv_at hl 1 rfl) ?_
            refine lv_aload_n hx hb dX12_outside_224 rfl (lv_at hl 7 rfl) ?_
            refine va_get (ci := 9) (C := RX12) (T := TX12) (N := 28) hx hb ht iFX12 hown hK hP 0 rfl rfl 4 (by decide) (ht _ kw4_114) (fun _ h9 => h9) rfl dX12_outside_225 ?_
            refine nv_bipush (k := 12) hx hb dX12_outside_228 (by decide) ?_
            refine ro_S S (c_X12_four (AR_of (ws := mW cy o ad 0 os n9 bits F G u nb ns T M id ft fo f9 g pt ih il ip pn op so fa fp st en dr ++ tl) (kr := 3) (N := 1600) (n := n9) rfl (by omega) (by omega)) (i := 12) (by omega)) kw5_72 yv_X12_four ⟨Nat.le_of_ble_eq_true rfl, Nat.le_of_ble_eq_true rfl⟩ hK hP rfl hl.1 rfl (Nat.le_of_ble_eq_true rfl) dX12_outside_230 ⟨(Nat.zero_le _), (Nat.zero_le _)⟩ ?_
            have hq230 := tg_qd_lt f9 n9 12
            rw [← efar]
            refine lv_iload hx hb dX12_outside_233 (lv_at hl 3 rfl) ?_
            refine nv_iconst (k := 0) hx hb dX12_outside_235 rfl ?_
            refine wr_V S (c_X12_makeSession (b := b) (x := far) (port := fpt) (ins := false) (by omega) (by omega) hfar (by omega) (hb_pt b)) kw5_102 yv_X12_makeSession ⟨Nat.le_of_ble_eq_true rfl, Nat.le_of_ble_eq_true rfl⟩ hK hP hD hS hA (va_recv hK hP (ci := 9) (q0 := 0) rfl rfl) rfl hl.1 rfl (Nat.le_of_ble_eq_true rfl) dX12_outside_236 ⟨Nat.zero_le _, Nat.zero_le _⟩ (fun u4 H locs hu4 hP hD hS => ?_)
            rw [hptb] at hP hD
            have hP : va_P D vwCl (mW cy o ad 0 os n9 bits F G u nb (ns + 1) T M id ft fo f9 g pt ih il ip pn op (va_up so ns b) (va_up fa ns far) (va_up fp ns fpt) (va_up st ns (tg_first_st q false)) (va_up en ns (T + tg_life (tg_first_st q false) q)) dr ++ tl) H := hP
            have hD : va_D A (mW cy o ad 0 os n9 bits F G u nb (ns + 1) T M id ft fo f9 g pt ih il ip pn op (va_up so ns b) (va_up fa ns far) (va_up fp ns fpt) (va_up st ns (tg_first_st q false)) (va_up en ns (T + tg_life (tg_first_st q false) q)) dr ++ tl) := hD
            refine W.eq (g2 := F0 m 239 ls [.int (nI ns)]) rfl ?_
            refine lv_istore (lv' := [(8, .int (nI ns)), (7, .int (nI b)), (6, .int (nI (3 - ev))), (5, .int (nI fpt)), (4, .int (nI port)), (3, .int (nI q)), (2, .int (nI 0)), (0, .ref o), (1, .int (nI n9))]) hx hb dX12_outside_239 hl (by decide) rfl (fun ls hl => ?_)
            refine lv_goto (tgt := 253) hx hb dX12_outside_241 (by decide) ?_
            refine lv_aload_n hx hb dX12_outside_253 rfl (lv_at hl 7 rfl) ?_
            refine lv_iload hx hb dX12_outside_254 (lv_at hl 1 rfl) ?_
            refine lv_aload_n hx hb dX12_outside_256 rfl (lv_at hl 7 rfl) ?_
            refine va_get (ci := 9) (C := RX12) (T := TX12) (N := 28) hx hb ht iFX12 hown hK hP 0 rfl rfl 5 (by decide) (ht _ kw4_115) (fun _ h9 => h9) rfl dX12_outside_257 ?_
            refine nv_bipush (k := 20) hx hb dX12_outside_260 (by decide) ?_
            refine nv_isub hx hb (by omega) dX12_outside_262 ?_
            refine lv_iload_n hx hb dX12_outside_263 rfl (lv_at hl 5 rfl) ?_
            refine nv_iconst (k := 1) hx hb dX12_outside_264 rfl ?_
            have J274 : ∀ ls : Array Slot, lv_has ls 10 [(8, .int (nI ns)), (7, .int (nI b)), (6, .int (nI (3 - ev))), (5, .int (nI fpt)), (4, .int (nI port)), (3, .int (nI q)), (2, .int (nI 0)), (0, .ref o), (1, .int (nI n9))] → W p l e (rmw 6 0 0 141) s m args below meth c H locs 0 0 Q (F0 m 274 ls [.int (nI nx), .int (nI (n9 - 20)), .int (nI b), .ref o]) := by
              intro ls hl
              refine wr_V S (c_X12_head (b := b) (len := n9 - 20) (nx := nx) (by omega) hsi hb_ih hb_il (by omega) (by omega) (by omega) (by omega) hou.1.2.2.2) kw5_151 yv_X12_head ⟨Nat.le_of_ble_eq_true rfl, Nat.le_of_ble_eq_true rfl⟩ hK hP hD hS hA (va_recv hK hP (ci := 9) (q0 := 0) rfl rfl) rfl hl.1 rfl (Nat.le_of_ble_eq_true rfl) dX12_outside_274 ⟨Nat.zero_le _, Nat.zero_le _⟩ (fun u7 H locs hu7 hP hD hS => ?_)
              obtain ⟨g0, hg0⟩ : ∃ z, z = mk_head fo f9 n9 (n9 - 20) nx bits F G (ih b) (il b) := ⟨_, rfl⟩
              rw [← hg0] at hP hD
              have hP : va_P D vwCl (mW cy o ad 0 (40 + (n9 - 20)) n9 bits F G u nb (ns + 1) T M id ft g0 f9 g pt ih il ip pn op (va_up so ns b) (va_up fa ns far) (va_up fp ns fpt) (va_up st ns (tg_first_st q false)) (va_up en ns (T + tg_life (tg_first_st q false) q)) dr ++ tl) H := hP
              have hD : va_D A (mW cy o ad 0 (40 + (n9 - 20)) n9 bits F G u nb (ns + 1) T M id ft g0 f9 g pt ih il ip pn op (va_up so ns b) (va_up fa ns far) (va_up fp ns fpt) (va_up st ns (tg_first_st q false)) (va_up en ns (T + tg_life (tg_first_st q false) q)) dr ++ tl) := hD
              refine W.eq (g2 := F0 m 277 ls []) rfl ?_
              refine nv_bipush (k := 20) hx hb dX12_outside_277 (by decide) ?_
              refine lv_istore (lv' := [(9, .int (nI 20)), (8, .int (nI ns)), (7, .int (nI b)), (6, .int (nI (3 - ev))), (5, .int (nI fpt)), (4, .int (nI port)), (3, .int (nI q)), (2, .int (nI 0)), (0, .ref o), (1, .int (nI n9))]) hx hb dX12_outside_279 hl (by decide) rfl (fun ls hl => ?_)
              have L281 : ∀ (fu kk : Nat) (H : Heap) (locs : List Loc), n9 - kk < fu → 20 ≤ kk → kk ≤ n9 → va_P D vwCl (mW cy o ad 0 (40 + (n9 - 20)) n9 bits F G u nb (ns + 1) T M id ft ((fun i => if 40 ≤ i ∧ i < kk + 20 then f9 (i - 20) else g0 i)) f9 g pt ih il ip pn op (va_up so ns b) (va_up fa ns far) (va_up fp ns fpt) (va_up st ns (tg_first_st q false)) (va_up en ns (T + tg_life (tg_first_st q false) q)) dr ++ tl) H → va_D A (mW cy o ad 0 (40 + (n9 - 20)) n9 bits F G u nb (ns + 1) T M id ft ((fun i => if 40 ≤ i ∧ i < kk + 20 then f9 (i - 20) else g0 i)) f9 g pt ih il ip pn op (va_up so ns b) (va_up fa ns far) (va_up fp ns fpt) (va_up st ns (tg_first_st q false)) (va_up en ns (T + tg_life (tg_first_st q false) q)) dr ++ tl) → va_S A s.heap H locs → ∀ ls : Array Slot, lv_has ls 10 [(0, .ref o), (3, .int (nI q)), (7, .int (nI b)), (9, .int (nI kk))] → W p l e (rmw 6 0 0 141) s m args below meth c H locs 0 0 Q (F0 m 281 ls []) := by
                intro fu
                induction fu with
                | zero => intro kk H locs h9; omega
                | succ fu ihh =>
                  intro kk H locs hfu hk1 hk2 hP hD hS ls hl
                  refine lv_iload hx hb dX12_outside_281 (lv_at hl 3 rfl) ?_
                  refine lv_aload_n hx hb dX12_outside_283 rfl (lv_at hl 0 rfl) ?_
                  refine va_get (ci := 9) (C := RX12) (T := TX12) (N := 28) hx hb ht iFX12 hown hK hP 0 rfl rfl 5 (by decide) (ht _ kw4_115) (fun _ h9 => h9) rfl dX12_outside_284 ?_
                  refine nv_icmp_ge (tgt := 313) hx hb dX12_outside_287 (by decide) (by omega) (by omega) (fun h287 => ?_) (fun h287 => ?_)
                  · skip
                    have ec : (fun i => if 40 ≤ i ∧ i < kk + 20 then f9 (i - 20) else g0 i) = va_cpy f9 g0 20 40 (n9 - 20) := by
                      funext i
                      unfold va_cpy
                      by_cases h2 : 40 ≤ i ∧ i < kk + 20
                      · rw [if_pos h2, if_pos (by omega), show i - 20 = 20 + (i - 40) by omega]
                      · rw [if_neg h2, if_neg (by omega)]
                    rw [ec] at hP hD
                    obtain ⟨gc, hgc⟩ : ∃ z, z = va_cpy f9 g0 20 40 (n9 - 20) := ⟨_, rfl⟩
                    rw [← hgc] at hP hD
                    have hP : va_P D vwCl (mW cy o ad 0 (40 + (n9 - 20)) n9 bits F G u nb (ns + 1) T M id ft gc f9 g pt ih il ip pn op (va_up so ns b) (va_up fa ns far) (va_up fp ns fpt) (va_up st ns (tg_first_st q false)) (va_up en ns (T + tg_life (tg_first_st q false) q)) dr ++ tl) H := hP
                    have hD : va_D A (mW cy o ad 0 (40 + (n9 - 20)) n9 bits F G u nb (ns + 1) T M id ft gc f9 g pt ih il ip pn op (va_up so ns b) (va_up fa ns far) (va_up fp ns fpt) (va_up st ns (tg_first_st q false)) (va_up en ns (T + tg_life (tg_first_st q false) q)) dr ++ tl) := hD
                    refine lv_iload_n hx hb dX12_outside_313 rfl (lv_at hl 1 rfl) ?_
                    refine nv_iconst (k := 1) hx hb dX12_outside_314 rfl ?_
                    refine nv_icmp_ne (tgt := 372) hx hb dX12_outside_315 (by decide) (by omega) (by omega) (fun h315 => ?_) (fun h315 => ?_)
                    · skip
                      refine lv_aload_n hx hb dX12_outside_372 rfl (lv_at hl 0 rfl) ?_
                      refine va_get (ci := 9) (C := RX12) (T := TX12) (N := 28) hx hb ht iFX12 hown hK hP 0 rfl rfl 2 (by decide) (ht _ kw4_112) (fun _ h9 => h9) rfl dX12_outside_373 ?_
                      refine nv_bipush (k := 42) hx hb dX12_outside_376 (by decide) ?_
                      refine nv_iconst (k := 2) hx hb dX12_outside_378 rfl ?_
                      refine lv_aload_n hx hb dX12_outside_379 rfl (lv_at hl 0 rfl) ?_
                      refine va_get (ci := 9) (C := RX12) (T := TX12) (N := 28) hx hb ht iFX12 hown hK hP 0 rfl rfl 15 (by decide) (ht _ kw4_125) (fun _ h9 => h9) rfl dX12_outside_380 ?_
                      refine lv_iload hx hb dX12_outside_383 (lv_at hl 2 rfl) ?_
                      refine nv_iald hx hb hK hP 8 rfl (by omega) (by omega) dX12_outside_385 ?_
                      refine nv_i2l hx hb (by omega) dX12_outside_386 ?_
                      refine wr_S S (c_X12_put (ws := mW cy o ad 0 (40 + (n9 - 20)) n9 bits F G u nb (ns + 1) T M id ft gc f9 g pt ih il ip pn op (va_up so ns b) (va_up fa ns far) (va_up fp ns fpt) (va_up st ns (tg_first_st q false)) (va_up en ns (T + tg_life (tg_first_st q false) q)) dr ++ tl) (kr := 2) (N := 1640) rfl (by omega) (a := 42) (many := 2) (x := ip b) (v := lN (ip b)) (by omega) (by omega) (fun k hk => by rw [lN_toNat (by omega)])) kw5_123 yv_X12_put ⟨Nat.le_of_ble_eq_true rfl, Nat.le_of_ble_eq_true rfl⟩ hK hP hD hS hA rfl hl.1 rfl (Nat.le_of_ble_eq_true rfl) dX12_outside_387 ⟨Nat.zero_le _, Nat.zero_le _⟩ (fun g_1 H locs hg_1 hP hD hS => ?_)
                      have hP : va_P D vwCl (mW cy o ad 0 (40 + (n9 - 20)) n9 bits F G u nb (ns + 1) T M id ft g_1 f9 g pt ih il ip pn op (va_up so ns b) (va_up fa ns far) (va_up fp ns fpt) (va_up st ns (tg_first_st q false)) (va_up en ns (T + tg_life (tg_first_st q false) q)) dr ++ tl) H := hP
                      have hD : va_D A (mW cy o ad 0 (40 + (n9 - 20)) n9 bits F G u nb (ns + 1) T M id ft g_1 f9 g pt ih il ip pn op (va_up so ns b) (va_up fa ns far) (va_up fp ns fpt) (va_up st ns (tg_first_st q false)) (va_up en ns (T + tg_life (tg_first_st q false) q)) dr ++ tl) := hD
                      refine W.eq (g2 := F0 m 390 ls []) rfl ?_
                      refine lv_aload_n hx hb dX12_outside_390 rfl (lv_at hl 0 rfl) ?_
                      refine lv_iload_n hx hb dX12_outside_391 rfl (lv_at hl 1 rfl) ?_
                      refine nv_iconst (k := 1) hx hb dX12_outside_392 rfl ?_
                      have J402 : ∀ ls : Array Slot, lv_has ls 10 [(0, .ref o), (3, .int (nI q)), (7, .int (nI b)), (9, .int (nI kk))] → W p l e (rmw 6 0 0 141) s m args below meth c H locs 0 0 Q (F0 m 402 ls [.int (nI nx), .ref o]) := by
                        intro ls hl
                        refine wr_V S (c_X12_finish (q := nx) hnxl (by omega) (by omega)) kw5_161 yv_X12_finish ⟨Nat.le_of_ble_eq_true rfl, Nat.le_of_ble_eq_true rfl⟩ hK hP hD hS hA (va_recv hK hP (ci := 9) (q0 := 0) rfl rfl) rfl hl.1 rfl (Nat.le_of_ble_eq_true rfl) dX12_outside_402 ⟨Nat.zero_le _, Nat.zero_le _⟩ (fun u8 H locs hu8 hP hD hS => ?_)
                        have hP : va_P D vwCl (mW cy o ad 0 (40 + (n9 - 20)) n9 bits F G u nb (ns + 1) T (M + 1) id ft (tg_fin g_1 (40 + (n9 - 20)) 40 nx) f9 g pt ih il ip pn op (va_up so ns b) (va_up fa ns far) (va_up fp ns fpt) (va_up st ns (tg_first_st q false)) (va_up en ns (T + tg_life (tg_first_st q false) q)) dr ++ tl) H := hP
                        have hD : va_D A (mW cy o ad 0 (40 + (n9 - 20)) n9 bits F G u nb (ns + 1) T (M + 1) id ft (tg_fin g_1 (40 + (n9 - 20)) 40 nx) f9 g pt ih il ip pn op (va_up so ns b) (va_up fa ns far) (va_up fp ns fpt) (va_up st ns (tg_first_st q false)) (va_up en ns (T + tg_life (tg_first_st q false) q)) dr ++ tl) := hD
                        refine W.eq (g2 := F0 m 405 ls []) rfl ?_
                        refine lv_aload_n hx hb dX12_outside_405 rfl (lv_at hl 0 rfl) ?_
                        refine va_get (ci := 9) (C := RX12) (T := TX12) (N := 28) hx hb ht iFX12 hown hK hP 0 rfl rfl 3 (by decide) (ht _ kw4_113) (fun _ h9 => h9) rfl dX12_outside_406 ?_
                        exact hend (f9, _) rfl ⟨hf8, by show tg_fin _ _ _ _ = _; rw [hg_1, hgc, hg0]; unfold mk_six mk_six1; rw [← enx, ← ety]; first | rw [if_pos h315] | rw [if_neg h315]⟩ hP hD hS dX12_outside_409
                      refine nv_icmp_ne (tgt := 401) hx hb dX12_outside_393 (by decide) (by omega) (by omega) (fun h393 => ?_) (fun h393 => ?_)
                      · skip
                        refine lv_iload_n hx hb dX12_outside_401 rfl (lv_at hl 1 rfl) ?_
                        refine W.eq (g2 := F0 m 402 ls [.int (nI nx), .ref o]) (congrArg (fun z9 => F0 m 402 ls [.int (nI z9), .ref o]) (show q = nx from (by rw [enx]; unfold tg_nx; split <;> first | rfl | omega))) ?_
                        exact J402 ls (lv_sub hl [0, 1, 2, 3] rfl)
                      refine nv_bipush (k := 58) hx hb dX12_outside_396 (by decide) ?_
                      refine lv_goto (tgt := 402) hx hb dX12_outside_398 (by decide) ?_
                      refine W.eq (g2 := F0 m 402 ls [.int (nI nx), .ref o]) (congrArg (fun z9 => F0 m 402 ls [.int (nI z9), .ref o]) (show 58 = nx from (by rw [enx]; unfold tg_nx; split <;> first | rfl | omega))) ?_
                      exact J402 ls (lv_sub hl [0, 1, 2, 3] rfl)
                    refine lv_aload_n hx hb dX12_outside_318 rfl (lv_at hl 0 rfl) ?_
                    refine va_get (ci := 9) (C := RX12) (T := TX12) (N := 28) hx hb ht iFX12 hown hK hP 0 rfl rfl 2 (by decide) (ht _ kw4_112) (fun _ h9 => h9) rfl dX12_outside_319 ?_
                    refine nv_bipush (k := 40) hx hb dX12_outside_322 (by decide) ?_
                    refine nv_iconst (k := 1) hx hb dX12_outside_324 rfl ?_
                    refine lv_aload_n hx hb dX12_outside_325 rfl (lv_at hl 0 rfl) ?_
                    refine va_get (ci := 9) (C := RX12) (T := TX12) (N := 28) hx hb ht iFX12 hown hK hP 0 rfl rfl 4 (by decide) (ht _ kw4_114) (fun _ h9 => h9) rfl dX12_outside_326 ?_
                    refine nv_bipush (k := 20) hx hb dX12_outside_329 (by decide) ?_
                    refine ro_S S (c_X12_at (AR_of (ws := mW cy o ad 0 (40 + (n9 - 20)) n9 bits F G u nb (ns + 1) T M id ft gc f9 g pt ih il ip pn op (va_up so ns b) (va_up fa ns far) (va_up fp ns fpt) (va_up st ns (tg_first_st q false)) (va_up en ns (T + tg_life (tg_first_st q false) q)) dr ++ tl) (kr := 3) (N := 1600) (n := n9) rfl (by omega) (by omega)) (i := 20) (by omega)) kw5_41 yv_X12_at ⟨Nat.le_of_ble_eq_true rfl, Nat.le_of_ble_eq_true rfl⟩ hK hP rfl hl.1 rfl (Nat.le_of_ble_eq_true rfl) dX12_outside_331 ⟨(Nat.zero_le _), (Nat.zero_le _)⟩ ?_
                    have hq331 := tg_rd_lt f9 n9 20
                    refine nv_bipush (k := 8) hx hb dX12_outside_334 (by decide) ?_
                    have J348 : ∀ ls : Array Slot, lv_has ls 10 [(0, .ref o), (3, .int (nI q)), (7, .int (nI b)), (9, .int (nI kk))] → W p l e (rmw 6 0 0 141) s m args below meth c H locs 0 0 Q (F0 m 348 ls [.long (lN (ty9)), .int (nI 1), .int (nI 40), .ref (ad 1)]) := by
                      intro ls hl
                      refine wr_S S (c_X12_put (ws := mW cy o ad 0 (40 + (n9 - 20)) n9 bits F G u nb (ns + 1) T M id ft gc f9 g pt ih il ip pn op (va_up so ns b) (va_up fa ns far) (va_up fp ns fpt) (va_up st ns (tg_first_st q false)) (va_up en ns (T + tg_life (tg_first_st q false) q)) dr ++ tl) (kr := 2) (N := 1640) rfl (by omega) (a := 40) (many := 1) (x := ty9) (v := lN (ty9)) (by omega) (by omega) (fun k hk => by rw [lN_toNat (by omega)])) kw5_123 yv_X12_put ⟨Nat.le_of_ble_eq_true rfl, Nat.le_of_ble_eq_true rfl⟩ hK hP hD hS hA rfl hl.1 rfl (Nat.le_of_ble_eq_true rfl) dX12_outside_348 ⟨Nat.zero_le _, Nat.zero_le _⟩ (fun g_2 H locs hg_2 hP hD hS => ?_)
                      have hP : va_P D vwCl (mW cy o ad 0 (40 + (n9 - 20)) n9 bits F G u nb (ns + 1) T M id ft g_2 f9 g pt ih il ip pn op (va_up so ns b) (va_up fa ns far) (va_up fp ns fpt) (va_up st ns (tg_first_st q false)) (va_up en ns (T + tg_life (tg_first_st q false) q)) dr ++ tl) H := hP
                      have hD : va_D A (mW cy o ad 0 (40 + (n9 - 20)) n9 bits F G u nb (ns + 1) T M id ft g_2 f9 g pt ih il ip pn op (va_up so ns b) (va_up fa ns far) (va_up fp ns fpt) (va_up st ns (tg_first_st q false)) (va_up en ns (T + tg_life (tg_first_st q false) q)) dr ++ tl) := hD
                      refine W.eq (g2 := F0 m 351 ls []) rfl ?_
                      refine lv_aload_n hx hb dX12_outside_351 rfl (lv_at hl 0 rfl) ?_
                      refine va_get (ci := 9) (C := RX12) (T := TX12) (N := 28) hx hb ht iFX12 hown hK hP 0 rfl rfl 2 (by decide) (ht _ kw4_112) (fun _ h9 => h9) rfl dX12_outside_352 ?_
                      refine nv_bipush (k := 44) hx hb dX12_outside_355 (by decide) ?_
                      refine nv_iconst (k := 2) hx hb dX12_outside_357 rfl ?_
                      refine lv_aload_n hx hb dX12_outside_358 rfl (lv_at hl 0 rfl) ?_
                      refine va_get (ci := 9) (C := RX12) (T := TX12) (N := 28) hx hb ht iFX12 hown hK hP 0 rfl rfl 15 (by decide) (ht _ kw4_125) (fun _ h9 => h9) rfl dX12_outside_359 ?_
                      refine lv_iload hx hb dX12_outside_362 (lv_at hl 2 rfl) ?_
                      refine nv_iald hx hb hK hP 8 rfl (by omega) (by omega) dX12_outside_364 ?_
                      refine nv_i2l hx hb (by omega) dX12_outside_365 ?_
                      refine wr_S S (c_X12_put (ws := mW cy o ad 0 (40 + (n9 - 20)) n9 bits F G u nb (ns + 1) T M id ft g_2 f9 g pt ih il ip pn op (va_up so ns b) (va_up fa ns far) (va_up fp ns fpt) (va_up st ns (tg_first_st q false)) (va_up en ns (T + tg_life (tg_first_st q false) q)) dr ++ tl) (kr := 2) (N := 1640) rfl (by omega) (a := 44) (many := 2) (x := ip b) (v := lN (ip b)) (by omega) (by omega) (fun k hk => by rw [lN_toNat (by omega)])) kw5_123 yv_X12_put ⟨Nat.le_of_ble_eq_true rfl, Nat.le_of_ble_eq_true rfl⟩ hK hP hD hS hA rfl hl.1 rfl (Nat.le_of_ble_eq_true rfl) dX12_outside_366 ⟨Nat.zero_le _, Nat.zero_le _⟩ (fun g_3 H locs hg_3 hP hD hS => ?_)
                      have hP : va_P D vwCl (mW cy o ad 0 (40 + (n9 - 20)) n9 bits F G u nb (ns + 1) T M id ft g_3 f9 g pt ih il ip pn op (va_up so ns b) (va_up fa ns far) (va_up fp ns fpt) (va_up st ns (tg_first_st q false)) (va_up en ns (T + tg_life (tg_first_st q false) q)) dr ++ tl) H := hP
                      have hD : va_D A (mW cy o ad 0 (40 + (n9 - 20)) n9 bits F G u nb (ns + 1) T M id ft g_3 f9 g pt ih il ip pn op (va_up so ns b) (va_up fa ns far) (va_up fp ns fpt) (va_up st ns (tg_first_st q false)) (va_up en ns (T + tg_life (tg_first_st q false) q)) dr ++ tl) := hD
                      refine W.eq (g2 := F0 m 369 ls []) rfl ?_
                      refine lv_goto (tgt := 390) hx hb dX12_outside_369 (by decide) ?_
                      refine lv_aload_n hx hb dX12_outside_390 rfl (lv_at hl 0 rfl) ?_
                      refine lv_iload_n hx hb dX12_outside_391 rfl (lv_at hl 1 rfl) ?_
                      refine nv_iconst (k := 1) hx hb dX12_outside_392 rfl ?_
                      have J402 : ∀ ls : Array Slot, lv_has ls 10 [(0, .ref o), (3, .int (nI q)), (7, .int (nI b)), (9, .int (nI kk))] → W p l e (rmw 6 0 0 141) s m args below meth c H locs 0 0 Q (F0 m 402 ls [.int (nI nx), .ref o]) := by
                        intro ls hl
                        refine wr_V S (c_X12_finish (q := nx) hnxl (by omega) (by omega)) kw5_161 yv_X12_finish ⟨Nat.le_of_ble_eq_true rfl, Nat.le_of_ble_eq_true rfl⟩ hK hP hD hS hA (va_recv hK hP (ci := 9) (q0 := 0) rfl rfl) rfl hl.1 rfl (Nat.le_of_ble_eq_true rfl) dX12_outside_402 ⟨Nat.zero_le _, Nat.zero_le _⟩ (fun u8 H locs hu8 hP hD hS => ?_)
                        have hP : va_P D vwCl (mW cy o ad 0 (40 + (n9 - 20)) n9 bits F G u nb (ns + 1) T (M + 1) id ft (tg_fin g_3 (40 + (n9 - 20)) 40 nx) f9 g pt ih il ip pn op (va_up so ns b) (va_up fa ns far) (va_up fp ns fpt) (va_up st ns (tg_first_st q false)) (va_up en ns (T + tg_life (tg_first_st q false) q)) dr ++ tl) H := hP
                        have hD : va_D A (mW cy o ad 0 (40 + (n9 - 20)) n9 bits F G u nb (ns + 1) T (M + 1) id ft (tg_fin g_3 (40 + (n9 - 20)) 40 nx) f9 g pt ih il ip pn op (va_up so ns b) (va_up fa ns far) (va_up fp ns fpt) (va_up st ns (tg_first_st q false)) (va_up en ns (T + tg_life (tg_first_st q false) q)) dr ++ tl) := hD
                        refine W.eq (g2 := F0 m 405 ls []) rfl ?_
                        refine lv_aload_n hx hb dX12_outside_405 rfl (lv_at hl 0 rfl) ?_
                        refine va_get (ci := 9) (C := RX12) (T := TX12) (N := 28) hx hb ht iFX12 hown hK hP 0 rfl rfl 3 (by decide) (ht _ kw4_113) (fun _ h9 => h9) rfl dX12_outside_406 ?_
                        exact hend (f9, _) rfl ⟨hf8, by show tg_fin _ _ _ _ = _; rw [hg_3, hg_2, hgc, hg0]; unfold mk_six mk_six1; rw [← enx, ← ety]; first | rw [if_pos h315] | rw [if_neg h315]⟩ hP hD hS dX12_outside_409
                      refine nv_icmp_ne (tgt := 401) hx hb dX12_outside_393 (by decide) (by omega) (by omega) (fun h393 => ?_) (fun h393 => ?_)
                      · skip
                        refine lv_iload_n hx hb dX12_outside_401 rfl (lv_at hl 1 rfl) ?_
                        refine W.eq (g2 := F0 m 402 ls [.int (nI nx), .ref o]) (congrArg (fun z9 => F0 m 402 ls [.int (nI z9), .ref o]) (show q = nx from (by rw [enx]; unfold tg_nx; split <;> first | rfl | omega))) ?_
                        exact J402 ls (lv_sub hl [0, 1, 2, 3] rfl)
                      refine nv_bipush (k := 58) hx hb dX12_outside_396 (by decide) ?_
                      refine lv_goto (tgt := 402) hx hb dX12_outside_398 (by decide) ?_
                      refine W.eq (g2 := F0 m 402 ls [.int (nI nx), .ref o]) (congrArg (fun z9 => F0 m 402 ls [.int (nI z9), .ref o]) (show 58 = nx from (by rw [enx]; unfold tg_nx; split <;> first | rfl | omega))) ?_
                      exact J402 ls (lv_sub hl [0, 1, 2, 3] rfl)
                    refine nv_icmp_ne (tgt := 345) hx hb dX12_outside_336 (by decide) (by omega) (by omega) (fun h336 => ?_) (fun h336 => ?_)
                    · skip
                      refine nv_ldc2 (k := 129) hx hb hown (ht _ kw5_165) (by decide) dX12_outside_345 ?_
                      refine W.eq (g2 := F0 m 348 ls [.long (lN (ty9)), .int (nI 1), .int (nI 40), .ref (ad 1)]) (congrArg (fun z9 => F0 m 348 ls [.long (lN z9), .int (nI 1), .int (nI 40), .ref (ad 1)]) (show 129 = ty9 from (by rw [ety]; split <;> first | rfl | omega))) ?_
                      exact J348 ls (lv_sub hl [0, 1, 2, 3] rfl)
                    refine nv_ldc2 (k := 128) hx hb hown (ht _ kw5_160) (by decide) dX12_outside_339 ?_
                    refine lv_goto (tgt := 348) hx hb dX12_outside_342 (by decide) ?_
                    refine W.eq (g2 := F0 m 348 ls [.long (lN (ty9)), .int (nI 1), .int (nI 40), .ref (ad 1)]) (congrArg (fun z9 => F0 m 348 ls [.long (lN z9), .int (nI 1), .int (nI 40), .ref (ad 1)]) (show 128 = ty9 from (by rw [ety]; split <;> first | rfl | omega))) ?_
                    exact J348 ls (lv_sub hl [0, 1, 2, 3] rfl)
                  refine lv_aload_n hx hb dX12_outside_290 rfl (lv_at hl 0 rfl) ?_
                  refine va_get (ci := 9) (C := RX12) (T := TX12) (N := 28) hx hb ht iFX12 hown hK hP 0 rfl rfl 2 (by decide) (ht _ kw4_112) (fun _ h9 => h9) rfl dX12_outside_291 ?_
                  refine lv_iload hx hb dX12_outside_294 (lv_at hl 3 rfl) ?_
                  refine nv_bipush (k := 20) hx hb dX12_outside_296 (by decide) ?_
                  refine nv_iadd hx hb dX12_outside_298 ?_
                  refine lv_aload_n hx hb dX12_outside_299 rfl (lv_at hl 0 rfl) ?_
                  refine va_get (ci := 9) (C := RX12) (T := TX12) (N := 28) hx hb ht iFX12 hown hK hP 0 rfl rfl 4 (by decide) (ht _ kw4_114) (fun _ h9 => h9) rfl dX12_outside_300 ?_
                  refine lv_iload hx hb dX12_outside_303 (lv_at hl 3 rfl) ?_
                  refine nv_bald hx hb hK hP 3 rfl (by omega) (by omega) dX12_outside_305 ?_
                  refine nv_bast hx hb hK hP hD hS 2 rfl (by omega) (by omega) dX12_outside_306 (fun H locs hP hD hS => ?_)
                  have hP : va_P D vwCl (mW cy o ad 0 (40 + (n9 - 20)) n9 bits F G u nb (ns + 1) T M id ft (va_up ((fun i => if 40 ≤ i ∧ i < kk + 20 then f9 (i - 20) else g0 i)) (kk + 20) (by8 ((bt f9 kk)))) f9 g pt ih il ip pn op (va_up so ns b) (va_up fa ns far) (va_up fp ns fpt) (va_up st ns (tg_first_st q false)) (va_up en ns (T + tg_life (tg_first_st q false) q)) dr ++ tl) H := hP
                  have hD : va_D A (mW cy o ad 0 (40 + (n9 - 20)) n9 bits F G u nb (ns + 1) T M id ft (va_up ((fun i => if 40 ≤ i ∧ i < kk + 20 then f9 (i - 20) else g0 i)) (kk + 20) (by8 ((bt f9 kk)))) f9 g pt ih il ip pn op (va_up so ns b) (va_up fa ns far) (va_up fp ns fpt) (va_up st ns (tg_first_st q false)) (va_up en ns (T + tg_life (tg_first_st q false) q)) dr ++ tl) := hD
                  refine lv_iinc (v := (nI (kk + 1))) (lv' := [(9, .int (nI (kk + 1))), (0, .ref o), (3, .int (nI q)), (7, .int (nI b))]) hx hb dX12_outside_307 hl (k := 3) rfl (nI_inc _ _) (by decide) rfl (fun ls hl => ?_)
                  refine lv_goto (tgt := 281) hx hb dX12_outside_310 (by decide) ?_
                  have e1 : va_up ((fun i => if 40 ≤ i ∧ i < kk + 20 then f9 (i - 20) else g0 i)) (kk + 20) (by8 ((bt f9 kk))) = (fun i => if 40 ≤ i ∧ i < (kk + 1) + 20 then f9 (i - 20) else g0 i) := by
                    funext i
                    rw [show by8 (bt f9 kk) = f9 kk from u8_rt (f9 kk)]
                    unfold va_up
                    by_cases h : i = kk + 20
                    · rw [if_pos h, if_pos (by omega), show i - 20 = kk by omega]
                    · rw [if_neg h]
                      dsimp only
                      by_cases h2 : 40 ≤ i ∧ i < kk + 20
                      · rw [if_pos h2, if_pos (by omega)]
                      · rw [if_neg h2, if_neg (by omega)]
                  rw [e1] at hP hD
                  exact ihh (kk + 1) H locs (by omega) (by omega) (by omega) hP hD hS ls (lv_sub hl [1, 2, 3, 0] rfl)
              have e00 : g0 = (fun i => if 40 ≤ i ∧ i < 20 + 20 then f9 (i - 20) else g0 i) := by funext i; rw [if_neg (by omega)]
              exact L281 (n9 + 1) 20 H locs (by omega) (by omega) (by omega) (by rw [← e00]; exact hP) (by rw [← e00]; exact hD) hS ls (lv_sub hl [8, 6, 2, 0] rfl)
            refine nv_icmp_ne (tgt := 273) hx hb dX12_outside_265 (by decide) (by omega) (by omega) (fun h265 => ?_) (fun h265 => ?_)
            · skip
              refine lv_iload_n hx hb dX12_outside_273 rfl (lv_at hl 5 rfl) ?_
              refine W.eq (g2 := F0 m 274 ls [.int (nI nx), .int (nI (n9 - 20)), .int (nI b), .ref o]) (congrArg (fun z9 => F0 m 274 ls [.int (nI z9), .int (nI (n9 - 20)), .int (nI b), .ref o]) (show q = nx from (by rw [enx]; unfold tg_nx; split <;> first | rfl | omega))) ?_
              exact J274 ls (lv_sub hl [0, 1, 2, 3, 4, 5, 6, 7, 8] rfl)
            refine nv_bipush (k := 58) hx hb dX12_outside_268 (by decide) ?_
            refine lv_goto (tgt := 274) hx hb dX12_outside_270 (by decide) ?_
            refine W.eq (g2 := F0 m 274 ls [.int (nI nx), .int (nI (n9 - 20)), .int (nI b), .ref o]) (congrArg (fun z9 => F0 m 274 ls [.int (nI z9), .int (nI (n9 - 20)), .int (nI b), .ref o]) (show 58 = nx from (by rw [enx]; unfold tg_nx; split <;> first | rfl | omega))) ?_
            exact J274 ls (lv_sub hl [0, 1, 2, 3, 4, 5, 6, 7, 8] rfl)
          exfalso; omega
        refine lv_iload hx hb dX12_outside_193 (lv_at hl 2 rfl) ?_
        refine nv_iconst (k := 1) hx hb dX12_outside_195 rfl ?_
        refine nv_icmp_ne (tgt := 209) hx hb dX12_outside_196 (by decide) (by omega) (by omega) (fun h196 => ?_) (fun h196 => ?_)
        · skip
          exfalso; omega
        refine lv_aload_n hx hb dX12_outside_199 rfl (lv_at hl 7 rfl) ?_
        refine va_get (ci := 9) (C := RX12) (T := TX12) (N := 28) hx hb ht iFX12 hown hK hP 0 rfl rfl 18 (by decide) (ht _ kw4_128) (fun _ h9 => h9) rfl dX12_outside_200 ?_
        refine nv_sipush (k := 128) hx hb dX12_outside_203 (by decide) ?_
        refine nv_icmp_ne (tgt := 216) hx hb dX12_outside_206 (by decide) (by omega) (by omega) (fun h206 => ?_) (fun h206 => ?_)
        · skip
          refine lv_iload hx hb dX12_outside_216 (lv_at hl 0 rfl) ?_
          refine lv_if_ge (tgt := 244) hx hb dX12_outside_218 (by decide) (fun h9 => absurd h9 (by decide)) (fun _ => ?_)
          refine lv_aload_n hx hb dX12_outside_221 rfl (lv_at hl 7 rfl) ?_
          refine lv_iload hx hb dX12_outside_222 (lv_at hl 1 rfl) ?_
          refine lv_aload_n hx hb dX12_outside_224 rfl (lv_at hl 7 rfl) ?_
          refine va_get (ci := 9) (C := RX12) (T := TX12) (N := 28) hx hb ht iFX12 hown hK hP 0 rfl rfl 4 (by decide) (ht _ kw4_114) (fun _ h9 => h9) rfl dX12_outside_225 ?_
          refine nv_bipush (k := 12) hx hb dX12_outside_228 (by decide) ?_
          refine ro_S S (c_X12_four (AR_of (ws := mW cy o ad 0 os n9 bits F G u nb ns T M id ft fo f9 g pt ih il ip pn op so fa fp st en dr ++ tl) (kr := 3) (N := 1600) (n := n9) rfl (by omega) (by omega)) (i := 12) (by omega)) kw5_72 yv_X12_four ⟨Nat.le_of_ble_eq_true rfl, Nat.le_of_ble_eq_true rfl⟩ hK hP rfl hl.1 rfl (Nat.le_of_ble_eq_true rfl) dX12_outside_230 ⟨(Nat.zero_le _), (Nat.zero_le _)⟩ ?_
          have hq230 := tg_qd_lt f9 n9 12
          rw [← efar]
          refine lv_iload hx hb dX12_outside_233 (lv_at hl 3 rfl) ?_
          refine nv_iconst (k := 0) hx hb dX12_outside_235 rfl ?_
          refine wr_V S (c_X12_makeSession (b := b) (x := far) (port := fpt) (ins := false) (by omega) (by omega) hfar (by omega) (hb_pt b)) kw5_102 yv_X12_makeSession ⟨Nat.le_of_ble_eq_true rfl, Nat.le_of_ble_eq_true rfl⟩ hK hP hD hS hA (va_recv hK hP (ci := 9) (q0 := 0) rfl rfl) rfl hl.1 rfl (Nat.le_of_ble_eq_true rfl) dX12_outside_236 ⟨Nat.zero_le _, Nat.zero_le _⟩ (fun u4 H locs hu4 hP hD hS => ?_)
          rw [hptb] at hP hD
          have hP : va_P D vwCl (mW cy o ad 0 os n9 bits F G u nb (ns + 1) T M id ft fo f9 g pt ih il ip pn op (va_up so ns b) (va_up fa ns far) (va_up fp ns fpt) (va_up st ns (tg_first_st q false)) (va_up en ns (T + tg_life (tg_first_st q false) q)) dr ++ tl) H := hP
          have hD : va_D A (mW cy o ad 0 os n9 bits F G u nb (ns + 1) T M id ft fo f9 g pt ih il ip pn op (va_up so ns b) (va_up fa ns far) (va_up fp ns fpt) (va_up st ns (tg_first_st q false)) (va_up en ns (T + tg_life (tg_first_st q false) q)) dr ++ tl) := hD
          refine W.eq (g2 := F0 m 239 ls [.int (nI ns)]) rfl ?_
          refine lv_istore (lv' := [(8, .int (nI ns)), (7, .int (nI b)), (6, .int (nI (3 - ev))), (5, .int (nI fpt)), (4, .int (nI port)), (3, .int (nI q)), (2, .int (nI 0)), (0, .ref o), (1, .int (nI n9))]) hx hb dX12_outside_239 hl (by decide) rfl (fun ls hl => ?_)
          refine lv_goto (tgt := 253) hx hb dX12_outside_241 (by decide) ?_
          refine lv_aload_n hx hb dX12_outside_253 rfl (lv_at hl 7 rfl) ?_
          refine lv_iload hx hb dX12_outside_254 (lv_at hl 1 rfl) ?_
          refine lv_aload_n hx hb dX12_outside_256 rfl (lv_at hl 7 rfl) ?_
          refine va_get (ci := 9) (C := RX12) (T := TX12) (N := 28) hx hb ht iFX12 hown hK hP 0 rfl rfl 5 (by decide) (ht _ kw4_115) (fun _ h9 => h9) rfl dX12_outside_257 ?_
          refine nv_bipush (k := 20) hx hb dX12_outside_260 (by decide) ?_
          refine nv_isub hx hb (by omega) dX12_outside_262 ?_
          refine lv_iload_n hx hb dX12_outside_263 rfl (lv_at hl 5 rfl) ?_
          refine nv_iconst (k := 1) hx hb dX12_outside_264 rfl ?_
          have J274 : ∀ ls : Array Slot, lv_has ls 10 [(8, .int (nI ns)), (7, .int (nI b)), (6, .int (nI (3 - ev))), (5, .int (nI fpt)), (4, .int (nI port)), (3, .int (nI q)), (2, .int (nI 0)), (0, .ref o), (1, .int (nI n9))] → W p l e (rmw 6 0 0 141) s m args below meth c H locs 0 0 Q (F0 m 274 ls [.int (nI nx), .int (nI (n9 - 20)), .int (nI b), .ref o]) := by
            intro ls hl
            refine wr_V S (c_X12_head (b := b) (len := n9 - 20) (nx := nx) (by omega) hsi hb_ih hb_il (by omega) (by omega) (by omega) (by omega) hou.1.2.2.2) kw5_151 yv_X12_head ⟨Nat.le_of_ble_eq_true rfl, Nat.le_of_ble_eq_true rfl⟩ hK hP hD hS hA (va_recv hK hP (ci := 9) (q0 := 0) rfl rfl) rfl hl.1 rfl (Nat.le_of_ble_eq_true rfl) dX12_outside_274 ⟨Nat.zero_le _, Nat.zero_le _⟩ (fun u7 H locs hu7 hP hD hS => ?_)
            obtain ⟨g0, hg0⟩ : ∃ z, z = mk_head fo f9 n9 (n9 - 20) nx bits F G (ih b) (il b) := ⟨_, rfl⟩
            rw [← hg0] at hP hD
            have hP : va_P D vwCl (mW cy o ad 0 (40 + (n9 - 20)) n9 bits F G u nb (ns + 1) T M id ft g0 f9 g pt ih il ip pn op (va_up so ns b) (va_up fa ns far) (va_up fp ns fpt) (va_up st ns (tg_first_st q false)) (va_up en ns (T + tg_life (tg_first_st q false) q)) dr ++ tl) H := hP
            have hD : va_D A (mW cy o ad 0 (40 + (n9 - 20)) n9 bits F G u nb (ns + 1) T M id ft g0 f9 g pt ih il ip pn op (va_up so ns b) (va_up fa ns far) (va_up fp ns fpt) (va_up st ns (tg_first_st q false)) (va_up en ns (T + tg_life (tg_first_st q false) q)) dr ++ tl) := hD
            refine W.eq (g2 := F0 m 277 ls []) rfl ?_
            refine nv_bipush (k := 20) hx hb dX12_outside_277 (by decide) ?_
            refine lv_istore (lv' := [(9, .int (nI 20)), (8, .int (nI ns)), (7, .int (nI b)), (6, .int (nI (3 - ev))), (5, .int (nI fpt)), (4, .int (nI port)), (3, .int (nI q)), (2, .int (nI 0)), (0, .ref o), (1, .int (nI n9))]) hx hb dX12_outside_279 hl (by decide) rfl (fun ls hl => ?_)
            have L281 : ∀ (fu kk : Nat) (H : Heap) (locs : List Loc), n9 - kk < fu → 20 ≤ kk → kk ≤ n9 → va_P D vwCl (mW cy o ad 0 (40 + (n9 - 20)) n9 bits F G u nb (ns + 1) T M id ft ((fun i => if 40 ≤ i ∧ i < kk + 20 then f9 (i - 20) else g0 i)) f9 g pt ih il ip pn op (va_up so ns b) (va_up fa ns far) (va_up fp ns fpt) (va_up st ns (tg_first_st q false)) (va_up en ns (T + tg_life (tg_first_st q false) q)) dr ++ tl) H → va_D A (mW cy o ad 0 (40 + (n9 - 20)) n9 bits F G u nb (ns + 1) T M id ft ((fun i => if 40 ≤ i ∧ i < kk + 20 then f9 (i - 20) else g0 i)) f9 g pt ih il ip pn op (va_up so ns b) (va_up fa ns far) (va_up fp ns fpt) (va_up st ns (tg_first_st q false)) (va_up en ns (T + tg_life (tg_first_st q false) q)) dr ++ tl) → va_S A s.heap H locs → ∀ ls : Array Slot, lv_has ls 10 [(0, .ref o), (3, .int (nI q)), (7, .int (nI b)), (9, .int (nI kk))] → W p l e (rmw 6 0 0 141) s m args below meth c H locs 0 0 Q (F0 m 281 ls []) := by
              intro fu
              induction fu with
              | zero => intro kk H locs h9; omega
              | succ fu ihh =>
                intro kk H locs hfu hk1 hk2 hP hD hS ls hl
                refine lv_iload hx hb dX12_outside_281 (lv_at hl 3 rfl) ?_
                refine lv_aload_n hx hb dX12_outside_283 rfl (lv_at hl 0 rfl) ?_
                refine va_get (ci := 9) (C := RX12) (T := TX12) (N := 28) hx hb ht iFX12 hown hK hP 0 rfl rfl 5 (by decide) (ht _ kw4_115) (fun _ h9 => h9) rfl dX12_outside_284 ?_
                refine nv_icmp_ge (tgt := 313) hx hb dX12_outside_287 (by decide) (by omega) (by omega) (fun h287 => ?_) (fun h287 => ?_)
                · skip
                  have ec : (fun i => if 40 ≤ i ∧ i < kk + 20 then f9 (i - 20) else g0 i) = va_cpy f9 g0 20 40 (n9 - 20) := by
                    funext i
                    unfold va_cpy
                    by_cases h2 : 40 ≤ i ∧ i < kk + 20
                    · rw [if_pos h2, if_pos (by omega), show i - 20 = 20 + (i - 40) by omega]
                    · rw [if_neg h2, if_neg (by omega)]
                  rw [ec] at hP hD
                  obtain ⟨gc, hgc⟩ : ∃ z, z = va_cpy f9 g0 20 40 (n9 - 20) := ⟨_, rfl⟩
                  rw [← hgc] at hP hD
                  have hP : va_P D vwCl (mW cy o ad 0 (40 + (n9 - 20)) n9 bits F G u nb (ns + 1) T M id ft gc f9 g pt ih il ip pn op (va_up so ns b) (va_up fa ns far) (va_up fp ns fpt) (va_up st ns (tg_first_st q false)) (va_up en ns (T + tg_life (tg_first_st q false) q)) dr ++ tl) H := hP
                  have hD : va_D A (mW cy o ad 0 (40 + (n9 - 20)) n9 bits F G u nb (ns + 1) T M id ft gc f9 g pt ih il ip pn op (va_up so ns b) (va_up fa ns far) (va_up fp ns fpt) (va_up st ns (tg_first_st q false)) (va_up en ns (T + tg_life (tg_first_st q false) q)) dr ++ tl) := hD
                  refine lv_iload_n hx hb dX12_outside_313 rfl (lv_at hl 1 rfl) ?_
                  refine nv_iconst (k := 1) hx hb dX12_outside_314 rfl ?_
                  refine nv_icmp_ne (tgt := 372) hx hb dX12_outside_315 (by decide) (by omega) (by omega) (fun h315 => ?_) (fun h315 => ?_)
                  · skip
                    refine lv_aload_n hx hb dX12_outside_372 rfl (lv_at hl 0 rfl) ?_
                    refine va_get (ci := 9) (C := RX12) (T := TX12) (N := 28) hx hb ht iFX12 hown hK hP 0 rfl rfl 2 (by decide) (ht _ kw4_112) (fun _ h9 => h9) rfl dX12_outside_373 ?_
                    refine nv_bipush (k := 42) hx hb dX12_outside_376 (by decide) ?_
                    refine nv_iconst (k := 2) hx hb dX12_outside_378 rfl ?_
                    refine lv_aload_n hx hb dX12_outside_379 rfl (lv_at hl 0 rfl) ?_
                    refine va_get (ci := 9) (C := RX12) (T := TX12) (N := 28) hx hb ht iFX12 hown hK hP 0 rfl rfl 15 (by decide) (ht _ kw4_125) (fun _ h9 => h9) rfl dX12_outside_380 ?_
                    refine lv_iload hx hb dX12_outside_383 (lv_at hl 2 rfl) ?_
                    refine nv_iald hx hb hK hP 8 rfl (by omega) (by omega) dX12_outside_385 ?_
                    refine nv_i2l hx hb (by omega) dX12_outside_386 ?_
                    refine wr_S S (c_X12_put (ws := mW cy o ad 0 (40 + (n9 - 20)) n9 bits F G u nb (ns + 1) T M id ft gc f9 g pt ih il ip pn op (va_up so ns b) (va_up fa ns far) (va_up fp ns fpt) (va_up st ns (tg_first_st q false)) (va_up en ns (T + tg_life (tg_first_st q false) q)) dr ++ tl) (kr := 2) (N := 1640) rfl (by omega) (a := 42) (many := 2) (x := ip b) (v := lN (ip b)) (by omega) (by omega) (fun k hk => by rw [lN_toNat (by omega)])) kw5_123 yv_X12_put ⟨Nat.le_of_ble_eq_true rfl, Nat.le_of_ble_eq_true rfl⟩ hK hP hD hS hA rfl hl.1 rfl (Nat.le_of_ble_eq_true rfl) dX12_outside_387 ⟨Nat.zero_le _, Nat.zero_le _⟩ (fun g_4 H locs hg_4 hP hD hS => ?_)
                    have hP : va_P D vwCl (mW cy o ad 0 (40 + (n9 - 20)) n9 bits F G u nb (ns + 1) T M id ft g_4 f9 g pt ih il ip pn op (va_up so ns b) (va_up fa ns far) (va_up fp ns fpt) (va_up st ns (tg_first_st q false)) (va_up en ns (T + tg_life (tg_first_st q false) q)) dr ++ tl) H := hP
                    have hD : va_D A (mW cy o ad 0 (40 + (n9 - 20)) n9 bits F G u nb (ns + 1) T M id ft g_4 f9 g pt ih il ip pn op (va_up so ns b) (va_up fa ns far) (va_up fp ns fpt) (va_up st ns (tg_first_st q false)) (va_up en ns (T + tg_life (tg_first_st q false) q)) dr ++ tl) := hD
                    refine W.eq (g2 := F0 m 390 ls []) rfl ?_
                    refine lv_aload_n hx hb dX12_outside_390 rfl (lv_at hl 0 rfl) ?_
                    refine lv_iload_n hx hb dX12_outside_391 rfl (lv_at hl 1 rfl) ?_
                    refine nv_iconst (k := 1) hx hb dX12_outside_392 rfl ?_
                    have J402 : ∀ ls : Array Slot, lv_has ls 10 [(0, .ref o), (3, .int (nI q)), (7, .int (nI b)), (9, .int (nI kk))] → W p l e (rmw 6 0 0 141) s m args below meth c H locs 0 0 Q (F0 m 402 ls [.int (nI nx), .ref o]) := by
                      intro ls hl
                      refine wr_V S (c_X12_finish (q := nx) hnxl (by omega) (by omega)) kw5_161 yv_X12_finish ⟨Nat.le_of_ble_eq_true rfl, Nat.le_of_ble_eq_true rfl⟩ hK hP hD hS hA (va_recv hK hP (ci := 9) (q0 := 0) rfl rfl) rfl hl.1 rfl (Nat.le_of_ble_eq_true rfl) dX12_outside_402 ⟨Nat.zero_le _, Nat.zero_le _⟩ (fun u8 H locs hu8 hP hD hS => ?_)
                      have hP : va_P D vwCl (mW cy o ad 0 (40 + (n9 - 20)) n9 bits F G u nb (ns + 1) T (M + 1) id ft (tg_fin g_4 (40 + (n9 - 20)) 40 nx) f9 g pt ih il ip pn op (va_up so ns b) (va_up fa ns far) (va_up fp ns fpt) (va_up st ns (tg_first_st q false)) (va_up en ns (T + tg_life (tg_first_st q false) q)) dr ++ tl) H := hP
                      have hD : va_D A (mW cy o ad 0 (40 + (n9 - 20)) n9 bits F G u nb (ns + 1) T (M + 1) id ft (tg_fin g_4 (40 + (n9 - 20)) 40 nx) f9 g pt ih il ip pn op (va_up so ns b) (va_up fa ns far) (va_up fp ns fpt) (va_up st ns (tg_first_st q false)) (va_up en ns (T + tg_life (tg_first_st q false) q)) dr ++ tl) := hD
                      refine W.eq (g2 := F0 m 405 ls []) rfl ?_
                      refine lv_aload_n hx hb dX12_outside_405 rfl (lv_at hl 0 rfl) ?_
                      refine va_get (ci := 9) (C := RX12) (T := TX12) (N := 28) hx hb ht iFX12 hown hK hP 0 rfl rfl 3 (by decide) (ht _ kw4_113) (fun _ h9 => h9) rfl dX12_outside_406 ?_
                      exact hend (f9, _) rfl ⟨hf8, by show tg_fin _ _ _ _ = _; rw [hg_4, hgc, hg0]; unfold mk_six mk_six1; rw [← enx, ← ety]; first | rw [if_pos h315] | rw [if_neg h315]⟩ hP hD hS dX12_outside_409
                    refine nv_icmp_ne (tgt := 401) hx hb dX12_outside_393 (by decide) (by omega) (by omega) (fun h393 => ?_) (fun h393 => ?_)
                    · skip
                      refine lv_iload_n hx hb dX12_outside_401 rfl (lv_at hl 1 rfl) ?_
                      refine W.eq (g2 := F0 m 402 ls [.int (nI nx), .ref o]) (congrArg (fun z9 => F0 m 402 ls [.int (nI z9), .ref o]) (show q = nx from (by rw [enx]; unfold tg_nx; split <;> first | rfl | omega))) ?_
                      exact J402 ls (lv_sub hl [0, 1, 2, 3] rfl)
                    refine nv_bipush (k := 58) hx hb dX12_outside_396 (by decide) ?_
                    refine lv_goto (tgt := 402) hx hb dX12_outside_398 (by decide) ?_
                    refine W.eq (g2 := F0 m 402 ls [.int (nI nx), .ref o]) (congrArg (fun z9 => F0 m 402 ls [.int (nI z9), .ref o]) (show 58 = nx from (by rw [enx]; unfold tg_nx; split <;> first | rfl | omega))) ?_
                    exact J402 ls (lv_sub hl [0, 1, 2, 3] rfl)
                  refine lv_aload_n hx hb dX12_outside_318 rfl (lv_at hl 0 rfl) ?_
                  refine va_get (ci := 9) (C := RX12) (T := TX12) (N := 28) hx hb ht iFX12 hown hK hP 0 rfl rfl 2 (by decide) (ht _ kw4_112) (fun _ h9 => h9) rfl dX12_outside_319 ?_
                  refine nv_bipush (k := 40) hx hb dX12_outside_322 (by decide) ?_
                  refine nv_iconst (k := 1) hx hb dX12_outside_324 rfl ?_
                  refine lv_aload_n hx hb dX12_outside_325 rfl (lv_at hl 0 rfl) ?_
                  refine va_get (ci := 9) (C := RX12) (T := TX12) (N := 28) hx hb ht iFX12 hown hK hP 0 rfl rfl 4 (by decide) (ht _ kw4_114) (fun _ h9 => h9) rfl dX12_outside_326 ?_
                  refine nv_bipush (k := 20) hx hb dX12_outside_329 (by decide) ?_
                  refine ro_S S (c_X12_at (AR_of (ws := mW cy o ad 0 (40 + (n9 - 20)) n9 bits F G u nb (ns + 1) T M id ft gc f9 g pt ih il ip pn op (va_up so ns b) (va_up fa ns far) (va_up fp ns fpt) (va_up st ns (tg_first_st q false)) (va_up en ns (T + tg_life (tg_first_st q false) q)) dr ++ tl) (kr := 3) (N := 1600) (n := n9) rfl (by omega) (by omega)) (i := 20) (by omega)) kw5_41 yv_X12_at ⟨Nat.le_of_ble_eq_true rfl, Nat.le_of_ble_eq_true rfl⟩ hK hP rfl hl.1 rfl (Nat.le_of_ble_eq_true rfl) dX12_outside_331 ⟨(Nat.zero_le _), (Nat.zero_le _)⟩ ?_
                  have hq331 := tg_rd_lt f9 n9 20
                  refine nv_bipush (k := 8) hx hb dX12_outside_334 (by decide) ?_
                  have J348 : ∀ ls : Array Slot, lv_has ls 10 [(0, .ref o), (3, .int (nI q)), (7, .int (nI b)), (9, .int (nI kk))] → W p l e (rmw 6 0 0 141) s m args below meth c H locs 0 0 Q (F0 m 348 ls [.long (lN (ty9)), .int (nI 1), .int (nI 40), .ref (ad 1)]) := by
                    intro ls hl
                    refine wr_S S (c_X12_put (ws := mW cy o ad 0 (40 + (n9 - 20)) n9 bits F G u nb (ns + 1) T M id ft gc f9 g pt ih il ip pn op (va_up so ns b) (va_up fa ns far) (va_up fp ns fpt) (va_up st ns (tg_first_st q false)) (va_up en ns (T + tg_life (tg_first_st q false) q)) dr ++ tl) (kr := 2) (N := 1640) rfl (by omega) (a := 40) (many := 1) (x := ty9) (v := lN (ty9)) (by omega) (by omega) (fun k hk => by rw [lN_toNat (by omega)])) kw5_123 yv_X12_put ⟨Nat.le_of_ble_eq_true rfl, Nat.le_of_ble_eq_true rfl⟩ hK hP hD hS hA rfl hl.1 rfl (Nat.le_of_ble_eq_true rfl) dX12_outside_348 ⟨Nat.zero_le _, Nat.zero_le _⟩ (fun g_5 H locs hg_5 hP hD hS => ?_)
                    have hP : va_P D vwCl (mW cy o ad 0 (40 + (n9 - 20)) n9 bits F G u nb (ns + 1) T M id ft g_5 f9 g pt ih il ip pn op (va_up so ns b) (va_up fa ns far) (va_up fp ns fpt) (va_up st ns (tg_first_st q false)) (va_up en ns (T + tg_life (tg_first_st q false) q)) dr ++ tl) H := hP
                    have hD : va_D A (mW cy o ad 0 (40 + (n9 - 20)) n9 bits F G u nb (ns + 1) T M id ft g_5 f9 g pt ih il ip pn op (va_up so ns b) (va_up fa ns far) (va_up fp ns fpt) (va_up st ns (tg_first_st q false)) (va_up en ns (T + tg_life (tg_first_st q false) q)) dr ++ tl) := hD
                    refine W.eq (g2 := F0 m 351 ls []) rfl ?_
                    refine lv_aload_n hx hb dX12_outside_351 rfl (lv_at hl 0 rfl) ?_
                    refine va_get (ci := 9) (C := RX12) (T := TX12) (N := 28) hx hb ht iFX12 hown hK hP 0 rfl rfl 2 (by decide) (ht _ kw4_112) (fun _ h9 => h9) rfl dX12_outside_352 ?_
                    refine nv_bipush (k := 44) hx hb dX12_outside_355 (by decide) ?_
                    refine nv_iconst (k := 2) hx hb dX12_outside_357 rfl ?_
                    refine lv_aload_n hx hb dX12_outside_358 rfl (lv_at hl 0 rfl) ?_
                    refine va_get (ci := 9) (C := RX12) (T := TX12) (N := 28) hx hb ht iFX12 hown hK hP 0 rfl rfl 15 (by decide) (ht _ kw4_125) (fun _ h9 => h9) rfl dX12_outside_359 ?_
                    refine lv_iload hx hb dX12_outside_362 (lv_at hl 2 rfl) ?_
                    refine nv_iald hx hb hK hP 8 rfl (by omega) (by omega) dX12_outside_364 ?_
                    refine nv_i2l hx hb (by omega) dX12_outside_365 ?_
                    refine wr_S S (c_X12_put (ws := mW cy o ad 0 (40 + (n9 - 20)) n9 bits F G u nb (ns + 1) T M id ft g_5 f9 g pt ih il ip pn op (va_up so ns b) (va_up fa ns far) (va_up fp ns fpt) (va_up st ns (tg_first_st q false)) (va_up en ns (T + tg_life (tg_first_st q false) q)) dr ++ tl) (kr := 2) (N := 1640) rfl (by omega) (a := 44) (many := 2) (x := ip b) (v := lN (ip b)) (by omega) (by omega) (fun k hk => by rw [lN_toNat (by omega)])) kw5_123 yv_X12_put ⟨Nat.le_of_ble_eq_true rfl, Nat.le_of_ble_eq_true rfl⟩ hK hP hD hS hA rfl hl.1 rfl (Nat.le_of_ble_eq_true rfl) dX12_outside_366 ⟨Nat.zero_le _, Nat.zero_le _⟩ (fun g_6 H locs hg_6 hP hD hS => ?_)
                    have hP : va_P D vwCl (mW cy o ad 0 (40 + (n9 - 20)) n9 bits F G u nb (ns + 1) T M id ft g_6 f9 g pt ih il ip pn op (va_up so ns b) (va_up fa ns far) (va_up fp ns fpt) (va_up st ns (tg_first_st q false)) (va_up en ns (T + tg_life (tg_first_st q false) q)) dr ++ tl) H := hP
                    have hD : va_D A (mW cy o ad 0 (40 + (n9 - 20)) n9 bits F G u nb (ns + 1) T M id ft g_6 f9 g pt ih il ip pn op (va_up so ns b) (va_up fa ns far) (va_up fp ns fpt) (va_up st ns (tg_first_st q false)) (va_up en ns (T + tg_life (tg_first_st q false) q)) dr ++ tl) := hD
                    refine W.eq (g2 := F0 m 369 ls []) rfl ?_
                    refine lv_goto (tgt := 390) hx hb dX12_outside_369 (by decide) ?_
                    refine lv_aload_n hx hb dX12_outside_390 rfl (lv_at hl 0 rfl) ?_
                    refine lv_iload_n hx hb dX12_outside_391 rfl (lv_at hl 1 rfl) ?_
                    refine nv_iconst (k := 1) hx hb dX12_outside_392 rfl ?_
                    have J402 : ∀ ls : Array Slot, lv_has ls 10 [(0, .ref o), (3, .int (nI q)), (7, .int (nI b)), (9, .int (nI kk))] → W p l e (rmw 6 0 0 141) s m args below meth c H locs 0 0 Q (F0 m 402 ls [.int (nI nx), .ref o]) := by
                      intro ls hl
                      refine wr_V S (c_X12_finish (q := nx) hnxl (by omega) (by omega)) kw5_161 yv_X12_finish ⟨Nat.le_of_ble_eq_true rfl, Nat.le_of_ble_eq_true rfl⟩ hK hP hD hS hA (va_recv hK hP (ci := 9) (q0 := 0) rfl rfl) rfl hl.1 rfl (Nat.le_of_ble_eq_true rfl) dX12_outside_402 ⟨Nat.zero_le _, Nat.zero_le _⟩ (fun u8 H locs hu8 hP hD hS => ?_)
                      have hP : va_P D vwCl (mW cy o ad 0 (40 + (n9 - 20)) n9 bits F G u nb (ns + 1) T (M + 1) id ft (tg_fin g_6 (40 + (n9 - 20)) 40 nx) f9 g pt ih il ip pn op (va_up so ns b) (va_up fa ns far) (va_up fp ns fpt) (va_up st ns (tg_first_st q false)) (va_up en ns (T + tg_life (tg_first_st q false) q)) dr ++ tl) H := hP
                      have hD : va_D A (mW cy o ad 0 (40 + (n9 - 20)) n9 bits F G u nb (ns + 1) T (M + 1) id ft (tg_fin g_6 (40 + (n9 - 20)) 40 nx) f9 g pt ih il ip pn op (va_up so ns b) (va_up fa ns far) (va_up fp ns fpt) (va_up st ns (tg_first_st q false)) (va_up en ns (T + tg_life (tg_first_st q false) q)) dr ++ tl) := hD
                      refine W.eq (g2 := F0 m 405 ls []) rfl ?_
                      refine lv_aload_n hx hb dX12_outside_405 rfl (lv_at hl 0 rfl) ?_
                      refine va_get (ci := 9) (C := RX12) (T := TX12) (N := 28) hx hb ht iFX12 hown hK hP 0 rfl rfl 3 (by decide) (ht _ kw4_113) (fun _ h9 => h9) rfl dX12_outside_406 ?_
                      exact hend (f9, _) rfl ⟨hf8, by show tg_fin _ _ _ _ = _; rw [hg_6, hg_5, hgc, hg0]; unfold mk_six mk_six1; rw [← enx, ← ety]; first | rw [if_pos h315] | rw [if_neg h315]⟩ hP hD hS dX12_outside_409
                    refine nv_icmp_ne (tgt := 401) hx hb dX12_outside_393 (by decide) (by omega) (by omega) (fun h393 => ?_) (fun h393 => ?_)
                    · skip
                      refine lv_iload_n hx hb dX12_outside_401 rfl (lv_at hl 1 rfl) ?_
                      refine W.eq (g2 := F0 m 402 ls [.int (nI nx), .ref o]) (congrArg (fun z9 => F0 m 402 ls [.int (nI z9), .ref o]) (show q = nx from (by rw [enx]; unfold tg_nx; split <;> first | rfl | omega))) ?_
                      exact J402 ls (lv_sub hl [0, 1, 2, 3] rfl)
                    refine nv_bipush (k := 58) hx hb dX12_outside_396 (by decide) ?_
                    refine lv_goto (tgt := 402) hx hb dX12_outside_398 (by decide) ?_
                    refine W.eq (g2 := F0 m 402 ls [.int (nI nx), .ref o]) (congrArg (fun z9 => F0 m 402 ls [.int (nI z9), .ref o]) (show 58 = nx from (by rw [enx]; unfold tg_nx; split <;> first | rfl | omega))) ?_
                    exact J402 ls (lv_sub hl [0, 1, 2, 3] rfl)
                  refine nv_icmp_ne (tgt := 345) hx hb dX12_outside_336 (by decide) (by omega) (by omega) (fun h336 => ?_) (fun h336 => ?_)
                  · skip
                    refine nv_ldc2 (k := 129) hx hb hown (ht _ kw5_165) (by decide) dX12_outside_345 ?_
                    refine W.eq (g2 := F0 m 348 ls [.long (lN (ty9)), .int (nI 1), .int (nI 40), .ref (ad 1)]) (congrArg (fun z9 => F0 m 348 ls [.long (lN z9), .int (nI 1), .int (nI 40), .ref (ad 1)]) (show 129 = ty9 from (by rw [ety]; split <;> first | rfl | omega))) ?_
                    exact J348 ls (lv_sub hl [0, 1, 2, 3] rfl)
                  refine nv_ldc2 (k := 128) hx hb hown (ht _ kw5_160) (by decide) dX12_outside_339 ?_
                  refine lv_goto (tgt := 348) hx hb dX12_outside_342 (by decide) ?_
                  refine W.eq (g2 := F0 m 348 ls [.long (lN (ty9)), .int (nI 1), .int (nI 40), .ref (ad 1)]) (congrArg (fun z9 => F0 m 348 ls [.long (lN z9), .int (nI 1), .int (nI 40), .ref (ad 1)]) (show 128 = ty9 from (by rw [ety]; split <;> first | rfl | omega))) ?_
                  exact J348 ls (lv_sub hl [0, 1, 2, 3] rfl)
                refine lv_aload_n hx hb dX12_outside_290 rfl (lv_at hl 0 rfl) ?_
                refine va_get (ci := 9) (C := RX12) (T := TX12) (N := 28) hx hb ht iFX12 hown hK hP 0 rfl rfl 2 (by decide) (ht _ kw4_112) (fun _ h9 => h9) rfl dX12_outside_291 ?_
                refine lv_iload hx hb dX12_outside_294 (lv_at hl 3 rfl) ?_
                refine nv_bipush (k := 20) hx hb dX12_outside_296 (by decide) ?_
                refine nv_iadd hx hb dX12_outside_298 ?_
                refine lv_aload_n hx hb dX12_outside_299 rfl (lv_at hl 0 rfl) ?_
                refine va_get (ci := 9) (C := RX12) (T := TX12) (N := 28) hx hb ht iFX12 hown hK hP 0 rfl rfl 4 (by decide) (ht _ kw4_114) (fun _ h9 => h9) rfl dX12_outside_300 ?_
                refine lv_iload hx hb dX12_outside_303 (lv_at hl 3 rfl) ?_
                refine nv_bald hx hb hK hP 3 rfl (by omega) (by omega) dX12_outside_305 ?_
                refine nv_bast hx hb hK hP hD hS 2 rfl (by omega) (by omega) dX12_outside_306 (fun H locs hP hD hS => ?_)
                have hP : va_P D vwCl (mW cy o ad 0 (40 + (n9 - 20)) n9 bits F G u nb (ns + 1) T M id ft (va_up ((fun i => if 40 ≤ i ∧ i < kk + 20 then f9 (i - 20) else g0 i)) (kk + 20) (by8 ((bt f9 kk)))) f9 g pt ih il ip pn op (va_up so ns b) (va_up fa ns far) (va_up fp ns fpt) (va_up st ns (tg_first_st q false)) (va_up en ns (T + tg_life (tg_first_st q false) q)) dr ++ tl) H := hP
                have hD : va_D A (mW cy o ad 0 (40 + (n9 - 20)) n9 bits F G u nb (ns + 1) T M id ft (va_up ((fun i => if 40 ≤ i ∧ i < kk + 20 then f9 (i - 20) else g0 i)) (kk + 20) (by8 ((bt f9 kk)))) f9 g pt ih il ip pn op (va_up so ns b) (va_up fa ns far) (va_up fp ns fpt) (va_up st ns (tg_first_st q false)) (va_up en ns (T + tg_life (tg_first_st q false) q)) dr ++ tl) := hD
                refine lv_iinc (v := (nI (kk + 1))) (lv' := [(9, .int (nI (kk + 1))), (0, .ref o), (3, .int (nI q)), (7, .int (nI b))]) hx hb dX12_outside_307 hl (k := 3) rfl (nI_inc _ _) (by decide) rfl (fun ls hl => ?_)
                refine lv_goto (tgt := 281) hx hb dX12_outside_310 (by decide) ?_
                have e1 : va_up ((fun i => if 40 ≤ i ∧ i < kk + 20 then f9 (i - 20) else g0 i)) (kk + 20) (by8 ((bt f9 kk))) = (fun i => if 40 ≤ i ∧ i < (kk + 1) + 20 then f9 (i - 20) else g0 i) := by
                  funext i
                  rw [show by8 (bt f9 kk) = f9 kk from u8_rt (f9 kk)]
                  unfold va_up
                  by_cases h : i = kk + 20
                  · rw [if_pos h, if_pos (by omega), show i - 20 = kk by omega]
                  · rw [if_neg h]
                    dsimp only
                    by_cases h2 : 40 ≤ i ∧ i < kk + 20
                    · rw [if_pos h2, if_pos (by omega)]
                    · rw [if_neg h2, if_neg (by omega)]
                rw [e1] at hP hD
                exact ihh (kk + 1) H locs (by omega) (by omega) (by omega) hP hD hS ls (lv_sub hl [1, 2, 3, 0] rfl)
            have e00 : g0 = (fun i => if 40 ≤ i ∧ i < 20 + 20 then f9 (i - 20) else g0 i) := by funext i; rw [if_neg (by omega)]
            exact L281 (n9 + 1) 20 H locs (by omega) (by omega) (by omega) (by rw [← e00]; exact hP) (by rw [← e00]; exact hD) hS ls (lv_sub hl [8, 6, 2, 0] rfl)
          refine nv_icmp_ne (tgt := 273) hx hb dX12_outside_265 (by decide) (by omega) (by omega) (fun h265 => ?_) (fun h265 => ?_)
          · skip
            refine lv_iload_n hx hb dX12_outside_273 rfl (lv_at hl 5 rfl) ?_
            refine W.eq (g2 := F0 m 274 ls [.int (nI nx), .int (nI (n9 - 20)), .int (nI b), .ref o]) (congrArg (fun z9 => F0 m 274 ls [.int (nI z9), .int (nI (n9 - 20)), .int (nI b), .ref o]) (show q = nx from (by rw [enx]; unfold tg_nx; split <;> first | rfl | omega))) ?_
            exact J274 ls (lv_sub hl [0, 1, 2, 3, 4, 5, 6, 7, 8] rfl)
          refine nv_bipush (k := 58) hx hb dX12_outside_268 (by decide) ?_
          refine lv_goto (tgt := 274) hx hb dX12_outside_270 (by decide) ?_
          refine W.eq (g2 := F0 m 274 ls [.int (nI nx), .int (nI (n9 - 20)), .int (nI b), .ref o]) (congrArg (fun z9 => F0 m 274 ls [.int (nI z9), .int (nI (n9 - 20)), .int (nI b), .ref o]) (show 58 = nx from (by rw [enx]; unfold tg_nx; split <;> first | rfl | omega))) ?_
          exact J274 ls (lv_sub hl [0, 1, 2, 3, 4, 5, 6, 7, 8] rfl)
        exfalso; omega
      refine nv_icmp_ne (tgt := 124) hx hb dX12_outside_109 (by decide) (by omega) (by omega) (fun h109 => ?_) (fun h109 => ?_)
      · skip
        refine nv_iconst (k := 3) hx hb dX12_outside_124 rfl ?_
        refine W.eq (g2 := F0 m 125 ls [.int (nI (3 - ev))]) (congrArg (fun z9 => F0 m 125 ls [.int (nI z9)]) (show 3 = 3 - ev from (by rw [eev, ev_k (q := q)]; split <;> first | rfl | (exfalso; omega)))) ?_
        exact J125 ls (lv_sub hl [0, 1, 2, 3, 4, 5] rfl)
      refine lv_aload_n hx hb dX12_outside_112 rfl (lv_at hl 4 rfl) ?_
      refine va_get (ci := 9) (C := RX12) (T := TX12) (N := 28) hx hb ht iFX12 hown hK hP 0 rfl rfl 4 (by decide) (ht _ kw4_114) (fun _ h9 => h9) rfl dX12_outside_113 ?_
      refine nv_bipush (k := 20) hx hb dX12_outside_116 (by decide) ?_
      refine ro_S S (c_X12_kindOf (AR_of (ws := mW cy o ad 0 os n9 bits F G u nb ns T M id ft fo f9 g pt ih il ip pn op so fa fp st en dr ++ tl) (kr := 3) (N := 1600) (n := n9) rfl (by omega) (by omega)) (hd := 20) (by omega)) kw5_79 yv_X12_kindOf ⟨Nat.le_of_ble_eq_true rfl, Nat.le_of_ble_eq_true rfl⟩ hK hP rfl hl.1 rfl (Nat.le_of_ble_eq_true rfl) dX12_outside_118 ⟨(Nat.zero_le _), (Nat.zero_le _)⟩ ?_
      refine lv_goto (tgt := 125) hx hb dX12_outside_121 (by decide) ?_
      refine W.eq (g2 := F0 m 125 ls [.int (nI (3 - ev))]) (congrArg (fun z9 => F0 m 125 ls [.int (nI z9)]) (show 3 - tg_event (tg_rd f9 n9) 20 6 = 3 - ev from (by rw [eev, ev_k (q := q)]; split <;> first | rfl | (exfalso; omega)))) ?_
      exact J125 ls (lv_sub hl [0, 1, 2, 3, 4, 5] rfl)
    refine nv_icmp_ne (tgt := 95) hx hb dX12_outside_88 (by decide) (by omega) (by omega) (fun h88 => ?_) (fun h88 => ?_)
    · skip
      refine lv_aload_n hx hb dX12_outside_95 rfl (lv_at hl 3 rfl) ?_
      refine va_get (ci := 9) (C := RX12) (T := TX12) (N := 28) hx hb ht iFX12 hown hK hP 0 rfl rfl 4 (by decide) (ht _ kw4_114) (fun _ h9 => h9) rfl dX12_outside_96 ?_
      refine nv_bipush (k := 20) hx hb dX12_outside_99 (by decide) ?_
      refine ro_S S (c_X12_two (AR_of (ws := mW cy o ad 0 os n9 bits F G u nb ns T M id ft fo f9 g pt ih il ip pn op so fa fp st en dr ++ tl) (kr := 3) (N := 1600) (n := n9) rfl (by omega) (by omega)) (i := 20) (by omega)) kw5_44 yv_X12_two ⟨Nat.le_of_ble_eq_true rfl, Nat.le_of_ble_eq_true rfl⟩ hK hP rfl hl.1 rfl (Nat.le_of_ble_eq_true rfl) dX12_outside_101 ⟨(Nat.zero_le _), (Nat.zero_le _)⟩ ?_
      have hq101 := tg_pr_lt f9 n9 20
      refine W.eq (g2 := F0 m 104 ls [.int (nI fpt)]) (congrArg (fun z9 => F0 m 104 ls [.int (nI z9)]) (show tg_pr (tg_rd f9 n9) 20 = fpt from (by rw [efpt]; unfold tg_spa; (repeat' split) <;> first | rfl | (exfalso; omega)))) ?_
      exact J104 ls (lv_sub hl [0, 1, 2, 3, 4] rfl)
    refine nv_iconst (k := 0) hx hb dX12_outside_91 rfl ?_
    refine lv_goto (tgt := 104) hx hb dX12_outside_92 (by decide) ?_
    refine W.eq (g2 := F0 m 104 ls [.int (nI fpt)]) (congrArg (fun z9 => F0 m 104 ls [.int (nI z9)]) (show 0 = fpt from (by rw [efpt]; unfold tg_spa; (repeat' split) <;> first | rfl | (exfalso; omega)))) ?_
    exact J104 ls (lv_sub hl [0, 1, 2, 3, 4] rfl)
  refine nv_icmp_ne (tgt := 75) hx hb dX12_outside_60 (by decide) (by omega) (by omega) (fun h60 => ?_) (fun h60 => ?_)
  · skip
    refine lv_aload_n hx hb dX12_outside_75 rfl (lv_at hl 2 rfl) ?_
    refine va_get (ci := 9) (C := RX12) (T := TX12) (N := 28) hx hb ht iFX12 hown hK hP 0 rfl rfl 4 (by decide) (ht _ kw4_114) (fun _ h9 => h9) rfl dX12_outside_76 ?_
    refine nv_bipush (k := 22) hx hb dX12_outside_79 (by decide) ?_
    refine ro_S S (c_X12_two (AR_of (ws := mW cy o ad 0 os n9 bits F G u nb ns T M id ft fo f9 g pt ih il ip pn op so fa fp st en dr ++ tl) (kr := 3) (N := 1600) (n := n9) rfl (by omega) (by omega)) (i := 22) (by omega)) kw5_44 yv_X12_two ⟨Nat.le_of_ble_eq_true rfl, Nat.le_of_ble_eq_true rfl⟩ hK hP rfl hl.1 rfl (Nat.le_of_ble_eq_true rfl) dX12_outside_81 ⟨(Nat.zero_le _), (Nat.zero_le _)⟩ ?_
    have hq81 := tg_pr_lt f9 n9 22
    refine W.eq (g2 := F0 m 84 ls [.int (nI port)]) (congrArg (fun z9 => F0 m 84 ls [.int (nI z9)]) (show tg_pr (tg_rd f9 n9) 22 = port from (by rw [eport]; unfold tg_dpa; split <;> first | rfl | (exfalso; omega)))) ?_
    exact J84 ls (lv_sub hl [0, 1, 2, 3] rfl)
  refine lv_aload_n hx hb dX12_outside_63 rfl (lv_at hl 2 rfl) ?_
  refine va_get (ci := 9) (C := RX12) (T := TX12) (N := 28) hx hb ht iFX12 hown hK hP 0 rfl rfl 4 (by decide) (ht _ kw4_114) (fun _ h9 => h9) rfl dX12_outside_64 ?_
  refine nv_bipush (k := 24) hx hb dX12_outside_67 (by decide) ?_
  refine ro_S S (c_X12_two (AR_of (ws := mW cy o ad 0 os n9 bits F G u nb ns T M id ft fo f9 g pt ih il ip pn op so fa fp st en dr ++ tl) (kr := 3) (N := 1600) (n := n9) rfl (by omega) (by omega)) (i := 24) (by omega)) kw5_44 yv_X12_two ⟨Nat.le_of_ble_eq_true rfl, Nat.le_of_ble_eq_true rfl⟩ hK hP rfl hl.1 rfl (Nat.le_of_ble_eq_true rfl) dX12_outside_69 ⟨(Nat.zero_le _), (Nat.zero_le _)⟩ ?_
  have hq69 := tg_pr_lt f9 n9 24
  refine lv_goto (tgt := 84) hx hb dX12_outside_72 (by decide) ?_
  refine W.eq (g2 := F0 m 84 ls [.int (nI port)]) (congrArg (fun z9 => F0 m 84 ls [.int (nI z9)]) (show tg_pr (tg_rd f9 n9) 24 = port from (by rw [eport]; unfold tg_dpa; split <;> first | rfl | (exfalso; omega)))) ?_
  exact J84 ls (lv_sub hl [0, 1, 2, 3] rfl)
set_option maxHeartbeats 4000000 in
set_option maxRecDepth 100000 in
theorem c_X12_outsidea {l : Launch} {D : va_G} {cy : Nat → ClassId} {o : Nat} {ad : Nat → Nat} {tl : va_W} {tp os sz bits F G u nb ns T M id : Nat} {ft fo fi : Nat → UInt8} {g : Nat → Int32} {pt ih il ip pn op so fa fp st en dr : Nat → Nat} (hb_pt : ∀ i, pt i < 2 ^ 31) (hb_ih : ∀ i, ih i < 2 ^ 64) (hb_il : ∀ i, il i < 2 ^ 64) (hb_ip : ∀ i, ip i < 2 ^ 31) (hb_pn : ∀ i, pn i < 2 ^ 31) (hb_op : ∀ i, op i < 2 ^ 31) (hb_pn4 : ∀ i, pn i < 4) (hb_so : ∀ i, so i < 2 ^ 31) (hb_fa : ∀ i, fa i < 2 ^ 32) (hb_fp : ∀ i, fp i < 2 ^ 31) (hb_st : ∀ i, st i ≤ 7) (htp : tp ≤ 1600) (hos : os ≤ 1640) (hsi : SI bits F G) (hu4 : u ≤ 4) (hnb : nb ≤ 64) (hns : ns ≤ 128) {n9 : Nat} (hn9 : n9 ≤ tp) {q port far fpt ev num : Nat} (eq0 : q = tg_rd ft n9 9) (eport : port = tg_pr (tg_rd ft n9) (20 + tg_dpa q)) (efar : far = tg_qd (tg_rd ft n9) 12) (efpt : fpt = if q = 1 then 0 else tg_pr (tg_rd ft n9) (20 + tg_spa q)) (eev : ev = tg_event (tg_rd ft n9) 20 q) (enum : num = tg_first (fun k => decide (g k = nI (tg_qd (tg_rd ft n9) 16))) u) (hz0 : tg_out (tg_rd ft n9) n9 bits g u = 0) (herr : tg_isErr (tg_rd ft n9) = false) {b : Nat} (hb9 : b < nb) (hfb : tg_first (fun k => decide (pt k = q ∧ pn k = num ∧ op k = port)) nb = b) (hfj : ¬ tg_first (fun k => decide (so k = b ∧ fa k = far ∧ fp k = fpt)) ns < ns) (hmay : ¬ ((q ≠ 6 ∨ ev = 2) ∧ ns < 128)) : WR (S := (Nat → UInt8)) l yX12_outside cX12_outside 10 (some .int) 6 0 0 141 [.ref o, .int (nI n9)] D cy (mW cy o ad tp os sz bits F G u nb ns T M id ft fo fi g pt ih il ip pn op so fa fp st en dr ++ tl) (fun u_ => some (.int (- nI 15))) (fun z9 => (∀ k, k < n9 → z9 k = ft k)) (fun z9 => mW cy o ad 0 os n9 bits F G u nb ns T M id ft fo z9 g pt ih il ip pn op so fa fp st en (va_up dr 15 (dr 15 + 1)) ++ tl) := by
  refine WRi (by decide) (lv0 := [(0, .ref o), (1, .int (nI n9))]) rfl (Nat.le_of_ble_eq_true rfl) ?_
  intro p e s m args below meth c ls A Q S hnm hP hK hD hS hA hend hl
  have hx := S.1
  have hb := S.2.1
  have hown : s.vm.findClass RX12 = some m.cls := S.2.2.2.1
  have ht : ∀ w ∈ lw_g, w.before args s = true := fun w h => S.2.2.2.2 w (List.mem_cons_of_mem _ h)
  have hP : va_P D vwCl (mW cy o ad tp os sz bits F G u nb ns T M id ft fo fi g pt ih il ip pn op so fa fp st en dr ++ tl) s.heap := hP
  have hu : u ≤ 4 := hu4
  have hb0 : bits ≤ 96 := by have := hsi.b; omega
  refine lv_iload_n hx hb dX12_outside_0 rfl (lv_at hl 1 rfl) ?_
  refine nv_i2l hx hb (by omega) dX12_outside_1 ?_
  refine lv_lconst (v := lN 0) hx hb dX12_outside_2 (by decide) ?_
  refine lv_aload_n hx hb dX12_outside_3 rfl (lv_at hl 0 rfl) ?_
  refine va_get (ci := 9) (C := RX12) (T := TX12) (N := 28) hx hb ht iFX12 hown hK hP 0 rfl rfl 1 (by decide) (ht _ kw4_111) (fun _ h9 => h9) rfl dX12_outside_4 ?_
  refine nv_i2l hx hb (by omega) dX12_outside_7 ?_
  refine ro_S S (c_X12_isIn (v := lN (n9)) (lo := lN (0)) (hi := lN (tp))) kw5_14 yv_X12_isIn ⟨Nat.le_of_ble_eq_true rfl, Nat.le_of_ble_eq_true rfl⟩ hK hP rfl hl.1 rfl (Nat.le_of_ble_eq_true rfl) dX12_outside_8 ⟨(Nat.zero_le _), (Nat.zero_le _)⟩ ?_
  rw [show tg_isIn (lN (n9)) (lN (0)) (lN (tp)) = true from (by rw [isIn_nat (by omega) (by omega) (by omega)]; exact decide_eq_true (by omega))]
  refine nv_if_neb (tgt := 16) hx hb dX12_outside_11 (by decide) (fun _ => ?_) (fun h => absurd h (by decide))
  refine lv_aload_n hx hb dX12_outside_16 rfl (lv_at hl 0 rfl) ?_
  refine lv_iload_n hx hb dX12_outside_17 rfl (lv_at hl 1 rfl) ?_
  refine wr_V S (c_X12_begin (x := n9) (by omega)) kw5_33 yv_X12_begin ⟨Nat.le_of_ble_eq_true rfl, Nat.le_of_ble_eq_true rfl⟩ hK hP hD hS hA (va_recv hK hP (ci := 9) (q0 := 0) rfl rfl) rfl hl.1 rfl (Nat.le_of_ble_eq_true rfl) dX12_outside_18 ⟨Nat.zero_le _, Nat.zero_le _⟩ (fun u1 H locs hu1 hP hD hS => ?_)
  obtain ⟨f9, hf9⟩ : ∃ z, z = (fun k => if k < n9 then ft k else fi k) := ⟨_, rfl⟩
  rw [← hf9] at hP hD
  have hP : va_P D vwCl (mW cy o ad 0 os n9 bits F G u nb ns T M id ft fo f9 g pt ih il ip pn op so fa fp st en dr ++ tl) H := hP
  have hD : va_D A (mW cy o ad 0 os n9 bits F G u nb ns T M id ft fo f9 g pt ih il ip pn op so fa fp st en dr ++ tl) := hD
  have hf8 : ∀ k, k < n9 → f9 k = ft k := fun k hk => by rw [hf9]; exact if_pos hk
  have erd : tg_rd f9 n9 = tg_rd ft n9 := rd_cong hf8
  rw [← erd] at eq0 eport efar efpt eev enum hz0 herr
  have hou := out0 hz0
  have hnu : num < u := by rw [enum]; exact (num_is hou.2.2.1).2
  have hq3 : q = 1 ∨ q = 6 ∨ q = 17 := by rw [eq0]; exact hou.1.2.1
  have hport : port < 65536 := by rw [eport]; exact tg_pr_lt _ _ _
  have hfar : far < 2 ^ 32 := by rw [efar]; exact tg_qd_lt _ _ _
  have hfpt : fpt < 65536 := by rw [efpt]; split; omega; exact tg_pr_lt _ _ _
  have hev : ev ≤ 3 := by rw [eev]; exact tg_event_le _ _ _
  obtain ⟨nx, enx⟩ : ∃ z, z = tg_nx q := ⟨_, rfl⟩
  have hnxl : nx < 256 := by rw [enx]; exact tg_nx_lt hq3
  have hsum : tg_sumAt nx + 2 ≤ n9 - 20 := by have h6 : q = 6 → 20 ≤ n9 - 20 := (by rw [eq0]; exact hou.1.2.2.1); have h8 := hou.1.1; rw [enx]; unfold tg_nx tg_sumAt; (repeat' split) <;> omega
  obtain ⟨ty9, ety⟩ : ∃ z, z = (if tg_rd f9 n9 20 = 8 then 128 else 129) := ⟨_, rfl⟩
  have hty : ty9 < 256 := by rw [ety]; split <;> omega
  refine W.eq (g2 := F0 m 21 ls []) rfl ?_
  refine lv_aload_n hx hb dX12_outside_21 rfl (lv_at hl 0 rfl) ?_
  refine ro_V S (c_X12_lackOfOutside (ws := mW cy o ad 0 os n9 bits F G u nb ns T M id ft fo f9 g pt ih il ip pn op so fa fp st en dr ++ tl) (km := 0) rfl rfl rfl rfl rfl rfl (AR_of (ws := mW cy o ad 0 os n9 bits F G u nb ns T M id ft fo f9 g pt ih il ip pn op so fa fp st en dr ++ tl) (kr := 3) (N := 1600) (n := n9) rfl (by omega) (by omega)) (kq := 4) rfl hu hb0) kw5_135 yv_X12_lackOfOutside ⟨Nat.le_of_ble_eq_true rfl, Nat.le_of_ble_eq_true rfl⟩ hK hP (va_recv hK hP (ci := 9) (q0 := 0) rfl rfl) rfl hl.1 rfl (Nat.le_of_ble_eq_true rfl) dX12_outside_22 ⟨(Nat.zero_le _), (Nat.zero_le _)⟩ ?_
  rw [hz0]
  refine lv_istore_n (lv' := [(2, .int (nI 0)), (0, .ref o), (1, .int (nI n9))]) hx hb dX12_outside_25 rfl hl (by decide) rfl (fun ls hl => ?_)
  refine lv_iload_n hx hb dX12_outside_26 rfl (lv_at hl 0 rfl) ?_
  refine nv_if_le (tgt := 36) hx hb dX12_outside_27 (by decide) (by omega) (fun _ => ?_) (fun h => absurd h (by decide))
  refine lv_aload_n hx hb dX12_outside_36 rfl (lv_at hl 1 rfl) ?_
  refine ro_V S (c_X12_isError (ws := mW cy o ad 0 os n9 bits F G u nb ns T M id ft fo f9 g pt ih il ip pn op so fa fp st en dr ++ tl) (km := 0) rfl rfl (AR_of (ws := mW cy o ad 0 os n9 bits F G u nb ns T M id ft fo f9 g pt ih il ip pn op so fa fp st en dr ++ tl) (kr := 3) (N := 1600) (n := n9) rfl (by omega) (by omega)) (by omega)) kw5_139 yv_X12_isError ⟨Nat.le_of_ble_eq_true rfl, Nat.le_of_ble_eq_true rfl⟩ hK hP (va_recv hK hP (ci := 9) (q0 := 0) rfl rfl) rfl hl.1 rfl (Nat.le_of_ble_eq_true rfl) dX12_outside_37 ⟨(Nat.zero_le _), (Nat.zero_le _)⟩ ?_
  rw [herr]
  refine nv_if_eqb (tgt := 48) hx hb dX12_outside_40 (by decide) (fun _ => ?_) (fun h => absurd h (by decide))
  refine lv_aload_n hx hb dX12_outside_48 rfl (lv_at hl 1 rfl) ?_
  refine va_get (ci := 9) (C := RX12) (T := TX12) (N := 28) hx hb ht iFX12 hown hK hP 0 rfl rfl 4 (by decide) (ht _ kw4_114) (fun _ h9 => h9) rfl dX12_outside_49 ?_
  refine nv_bipush (k := 9) hx hb dX12_outside_52 (by decide) ?_
  refine ro_S S (c_X12_at (AR_of (ws := mW cy o ad 0 os n9 bits F G u nb ns T M id ft fo f9 g pt ih il ip pn op so fa fp st en dr ++ tl) (kr := 3) (N := 1600) (n := n9) rfl (by omega) (by omega)) (i := 9) (by omega)) kw5_41 yv_X12_at ⟨Nat.le_of_ble_eq_true rfl, Nat.le_of_ble_eq_true rfl⟩ hK hP rfl hl.1 rfl (Nat.le_of_ble_eq_true rfl) dX12_outside_54 ⟨(Nat.zero_le _), (Nat.zero_le _)⟩ ?_
  have hq54 := tg_rd_lt f9 n9 9
  rw [← eq0]
  refine lv_istore_n (lv' := [(3, .int (nI q)), (2, .int (nI 0)), (0, .ref o), (1, .int (nI n9))]) hx hb dX12_outside_57 rfl hl (by decide) rfl (fun ls hl => ?_)
  refine lv_iload_n hx hb dX12_outside_58 rfl (lv_at hl 0 rfl) ?_
  refine nv_iconst (k := 1) hx hb dX12_outside_59 rfl ?_
  have J84 : ∀ ls : Array Slot, lv_has ls 10 [(3, .int (nI q)), (2, .int (nI 0)), (0, .ref o), (1, .int (nI n9))] → W p l e (rmw 6 0 0 141) s m args below meth c H locs 0 0 Q (F0 m 84 ls [.int (nI port)]) := by
    intro ls hl
    refine lv_istore (lv' := [(4, .int (nI port)), (3, .int (nI q)), (2, .int (nI 0)), (0, .ref o), (1, .int (nI n9))]) hx hb dX12_outside_84 hl (by decide) rfl (fun ls hl => ?_)
    refine lv_iload_n hx hb dX12_outside_86 rfl (lv_at hl 1 rfl) ?_
    refine nv_iconst (k := 1) hx hb dX12_outside_87 rfl ?_
    have J104 : ∀ ls : Array Slot, lv_has ls 10 [(4, .int (nI port)), (3, .int (nI q)), (2, .int (nI 0)), (0, .ref o), (1, .int (nI n9))] → W p l e (rmw 6 0 0 141) s m args below meth c H locs 0 0 Q (F0 m 104 ls [.int (nI fpt)]) := by
      intro ls hl
      refine lv_istore (lv' := [(5, .int (nI fpt)), (4, .int (nI port)), (3, .int (nI q)), (2, .int (nI 0)), (0, .ref o), (1, .int (nI n9))]) hx hb dX12_outside_104 hl (by decide) rfl (fun ls hl => ?_)
      refine lv_iload_n hx hb dX12_outside_106 rfl (lv_at hl 2 rfl) ?_
      refine nv_bipush (k := 6) hx hb dX12_outside_107 (by decide) ?_
      have J125 : ∀ ls : Array Slot, lv_has ls 10 [(5, .int (nI fpt)), (4, .int (nI port)), (3, .int (nI q)), (2, .int (nI 0)), (0, .ref o), (1, .int (nI n9))] → W p l e (rmw 6 0 0 141) s m args below meth c H locs 0 0 Q (F0 m 125 ls [.int (nI (3 - ev))]) := by
        intro ls hl
        refine lv_istore (lv' := [(6, .int (nI (3 - ev))), (5, .int (nI fpt)), (4, .int (nI port)), (3, .int (nI q)), (2, .int (nI 0)), (0, .ref o), (1, .int (nI n9))]) hx hb dX12_outside_125 hl (by decide) rfl (fun ls hl => ?_)
        refine lv_aload_n hx hb dX12_outside_127 rfl (lv_at hl 5 rfl) ?_
        refine lv_iload_n hx hb dX12_outside_128 rfl (lv_at hl 3 rfl) ?_
        refine lv_aload_n hx hb dX12_outside_129 rfl (lv_at hl 5 rfl) ?_
        refine lv_aload_n hx hb dX12_outside_130 rfl (lv_at hl 5 rfl) ?_
        refine va_get (ci := 9) (C := RX12) (T := TX12) (N := 28) hx hb ht iFX12 hown hK hP 0 rfl rfl 4 (by decide) (ht _ kw4_114) (fun _ h9 => h9) rfl dX12_outside_131 ?_
        refine nv_bipush (k := 16) hx hb dX12_outside_134 (by decide) ?_
        refine ro_S S (c_X12_four (AR_of (ws := mW cy o ad 0 os n9 bits F G u nb ns T M id ft fo f9 g pt ih il ip pn op so fa fp st en dr ++ tl) (kr := 3) (N := 1600) (n := n9) rfl (by omega) (by omega)) (i := 16) (by omega)) kw5_72 yv_X12_four ⟨Nat.le_of_ble_eq_true rfl, Nat.le_of_ble_eq_true rfl⟩ hK hP rfl hl.1 rfl (Nat.le_of_ble_eq_true rfl) dX12_outside_136 ⟨(Nat.zero_le _), (Nat.zero_le _)⟩ ?_
        have hq136 := tg_qd_lt f9 n9 16
        refine ro_V S (c_X12_poolOf (ws := mW cy o ad 0 os n9 bits F G u nb ns T M id ft fo f9 g pt ih il ip pn op so fa fp st en dr ++ tl) (km := 0) rfl rfl rfl (kq := 4) rfl hu (x := tg_qd (tg_rd f9 n9) 16) (by omega)) kw4_209 yv_X12_poolOf ⟨Nat.le_of_ble_eq_true rfl, Nat.le_of_ble_eq_true rfl⟩ hK hP (va_recv hK hP (ci := 9) (q0 := 0) rfl rfl) rfl hl.1 rfl (Nat.le_of_ble_eq_true rfl) dX12_outside_139 ⟨(Nat.zero_le _), (Nat.zero_le _)⟩ ?_
        rw [(num_is hou.2.2.1).1, ← enum]
        refine lv_iload hx hb dX12_outside_142 (lv_at hl 2 rfl) ?_
        refine ro_V S (c_X12_findOuter (ws := mW cy o ad 0 os n9 bits F G u nb ns T M id ft fo f9 g pt ih il ip pn op so fa fp st en dr ++ tl) (km := 0) rfl rfl rfl rfl rfl (k_pt := 5) rfl hb_pt (k_pn := 9) rfl hb_pn (k_op := 10) rfl hb_op hnb (q := q) (num := num) (port := port) (by omega) (by omega) (by omega)) kw5_98 yv_X12_findOuter ⟨Nat.le_of_ble_eq_true rfl, Nat.le_of_ble_eq_true rfl⟩ hK hP (va_recv hK hP (ci := 9) (q0 := 0) rfl rfl) rfl hl.1 rfl (Nat.le_of_ble_eq_true rfl) dX12_outside_144 ⟨(Nat.zero_le _), (Nat.zero_le _)⟩ ?_
        rw [fb_at (ws := 0) hfb hb9]
        refine lv_istore (lv' := [(7, .int (nI b)), (6, .int (nI (3 - ev))), (5, .int (nI fpt)), (4, .int (nI port)), (3, .int (nI q)), (2, .int (nI 0)), (0, .ref o), (1, .int (nI n9))]) hx hb dX12_outside_147 hl (by decide) rfl (fun ls hl => ?_)
        refine lv_iload hx hb dX12_outside_149 (lv_at hl 0 rfl) ?_
        refine nv_if_ge (tgt := 158) hx hb dX12_outside_151 (by decide) (by omega) ?_
        refine lv_aload_n hx hb dX12_outside_158 rfl (lv_at hl 6 rfl) ?_
        refine lv_iload hx hb dX12_outside_159 (lv_at hl 0 rfl) ?_
        refine lv_aload_n hx hb dX12_outside_161 rfl (lv_at hl 6 rfl) ?_
        refine va_get (ci := 9) (C := RX12) (T := TX12) (N := 28) hx hb ht iFX12 hown hK hP 0 rfl rfl 4 (by decide) (ht _ kw4_114) (fun _ h9 => h9) rfl dX12_outside_162 ?_
        refine nv_bipush (k := 12) hx hb dX12_outside_165 (by decide) ?_
        refine ro_S S (c_X12_four (AR_of (ws := mW cy o ad 0 os n9 bits F G u nb ns T M id ft fo f9 g pt ih il ip pn op so fa fp st en dr ++ tl) (kr := 3) (N := 1600) (n := n9) rfl (by omega) (by omega)) (i := 12) (by omega)) kw5_72 yv_X12_four ⟨Nat.le_of_ble_eq_true rfl, Nat.le_of_ble_eq_true rfl⟩ hK hP rfl hl.1 rfl (Nat.le_of_ble_eq_true rfl) dX12_outside_167 ⟨(Nat.zero_le _), (Nat.zero_le _)⟩ ?_
        have hq167 := tg_qd_lt f9 n9 12
        rw [← efar]
        refine lv_iload hx hb dX12_outside_170 (lv_at hl 2 rfl) ?_
        refine ro_V S (c_X12_findSession (ws := mW cy o ad 0 os n9 bits F G u nb ns T M id ft fo f9 g pt ih il ip pn op so fa fp st en dr ++ tl) (km := 0) rfl rfl rfl rfl rfl (k_so := 11) rfl hb_so (k_fa := 12) rfl hb_fa (k_fp := 13) rfl hb_fp hns (b := b) (x := far) (port := fpt) (by omega) (by omega) (by omega)) kw5_86 yv_X12_findSession ⟨Nat.le_of_ble_eq_true rfl, Nat.le_of_ble_eq_true rfl⟩ hK hP (va_recv hK hP (ci := 9) (q0 := 0) rfl rfl) rfl hl.1 rfl (Nat.le_of_ble_eq_true rfl) dX12_outside_172 ⟨(Nat.zero_le _), (Nat.zero_le _)⟩ ?_
        rw [fb_no hfj]
        refine lv_istore (lv' := [(8, .int (-1)), (7, .int (nI b)), (6, .int (nI (3 - ev))), (5, .int (nI fpt)), (4, .int (nI port)), (3, .int (nI q)), (2, .int (nI 0)), (0, .ref o), (1, .int (nI n9))]) hx hb dX12_outside_175 hl (by decide) rfl (fun ls hl => ?_)
        refine lv_iload hx hb dX12_outside_177 (lv_at hl 1 rfl) ?_
        refine nv_if_lt (tgt := 209) hx hb dX12_outside_179 (by decide) (by omega) ?_
        refine lv_iload hx hb dX12_outside_182 (lv_at hl 0 rfl) ?_
        refine lv_if_ge (tgt := 216) hx hb dX12_outside_184 (by decide) (fun h9 => absurd h9 (by decide)) (fun _ => ?_)
        refine lv_iload_n hx hb dX12_outside_187 rfl (lv_at hl 5 rfl) ?_
        refine nv_bipush (k := 6) hx hb dX12_outside_188 (by decide) ?_
        refine nv_icmp_ne (tgt := 199) hx hb dX12_outside_190 (by decide) (by omega) (by omega) (fun h190 => ?_) (fun h190 => ?_)
        · skip
          refine lv_aload_n hx hb dX12_outside_199 rfl (lv_at hl 7 rfl) ?_
          refine va_get (ci := 9) (C := RX12) (T := TX12) (N := 28) hx hb ht iFX12 hown hK hP 0 rfl rfl 18 (by decide) (ht _ kw4_128) (fun _ h9 => h9) rfl dX12_outside_200 ?_
          refine nv_sipush (k := 128) hx hb dX12_outside_203 (by decide) ?_
          refine nv_icmp_ne (tgt := 216) hx hb dX12_outside_206 (by decide) (by omega) (by omega) (fun h206 => ?_) (fun h206 => ?_)
          · skip
            exfalso; omega
          refine lv_aload_n hx hb dX12_outside_209 rfl (lv_at hl 7 rfl) ?_
          refine nv_bipush (k := 15) hx hb dX12_outside_210 (by decide) ?_
          refine wr_V S (c_X12_drops (x := 15) (by omega)) kw5_75 yv_X12_drops ⟨Nat.le_of_ble_eq_true rfl, Nat.le_of_ble_eq_true rfl⟩ hK hP hD hS hA (va_recv hK hP (ci := 9) (q0 := 0) rfl rfl) rfl hl.1 rfl (Nat.le_of_ble_eq_true rfl) dX12_outside_212 ⟨Nat.zero_le _, Nat.zero_le _⟩ (fun u2 H locs hu2 hP hD hS => ?_)
          have hP : va_P D vwCl (mW cy o ad 0 os n9 bits F G u nb ns T M id ft fo f9 g pt ih il ip pn op so fa fp st en (va_up dr 15 (dr 15 + 1)) ++ tl) H := hP
          have hD : va_D A (mW cy o ad 0 os n9 bits F G u nb ns T M id ft fo f9 g pt ih il ip pn op so fa fp st en (va_up dr 15 (dr 15 + 1)) ++ tl) := hD
          refine W.eq (g2 := F0 m 215 ls [.int (- nI 15)]) rfl ?_
          exact hend f9 rfl hf8 hP hD hS dX12_outside_215
        refine lv_iload hx hb dX12_outside_193 (lv_at hl 2 rfl) ?_
        refine nv_iconst (k := 1) hx hb dX12_outside_195 rfl ?_
        refine nv_icmp_ne (tgt := 209) hx hb dX12_outside_196 (by decide) (by omega) (by omega) (fun h196 => ?_) (fun h196 => ?_)
        · skip
          refine lv_aload_n hx hb dX12_outside_209 rfl (lv_at hl 7 rfl) ?_
          refine nv_bipush (k := 15) hx hb dX12_outside_210 (by decide) ?_
          refine wr_V S (c_X12_drops (x := 15) (by omega)) kw5_75 yv_X12_drops ⟨Nat.le_of_ble_eq_true rfl, Nat.le_of_ble_eq_true rfl⟩ hK hP hD hS hA (va_recv hK hP (ci := 9) (q0 := 0) rfl rfl) rfl hl.1 rfl (Nat.le_of_ble_eq_true rfl) dX12_outside_212 ⟨Nat.zero_le _, Nat.zero_le _⟩ (fun u2 H locs hu2 hP hD hS => ?_)
          have hP : va_P D vwCl (mW cy o ad 0 os n9 bits F G u nb ns T M id ft fo f9 g pt ih il ip pn op so fa fp st en (va_up dr 15 (dr 15 + 1)) ++ tl) H := hP
          have hD : va_D A (mW cy o ad 0 os n9 bits F G u nb ns T M id ft fo f9 g pt ih il ip pn op so fa fp st en (va_up dr 15 (dr 15 + 1)) ++ tl) := hD
          refine W.eq (g2 := F0 m 215 ls [.int (- nI 15)]) rfl ?_
          exact hend f9 rfl hf8 hP hD hS dX12_outside_215
        refine lv_aload_n hx hb dX12_outside_199 rfl (lv_at hl 7 rfl) ?_
        refine va_get (ci := 9) (C := RX12) (T := TX12) (N := 28) hx hb ht iFX12 hown hK hP 0 rfl rfl 18 (by decide) (ht _ kw4_128) (fun _ h9 => h9) rfl dX12_outside_200 ?_
        refine nv_sipush (k := 128) hx hb dX12_outside_203 (by decide) ?_
        refine nv_icmp_ne (tgt := 216) hx hb dX12_outside_206 (by decide) (by omega) (by omega) (fun h206 => ?_) (fun h206 => ?_)
        · skip
          exfalso; omega
        refine lv_aload_n hx hb dX12_outside_209 rfl (lv_at hl 7 rfl) ?_
        refine nv_bipush (k := 15) hx hb dX12_outside_210 (by decide) ?_
        refine wr_V S (c_X12_drops (x := 15) (by omega)) kw5_75 yv_X12_drops ⟨Nat.le_of_ble_eq_true rfl, Nat.le_of_ble_eq_true rfl⟩ hK hP hD hS hA (va_recv hK hP (ci := 9) (q0 := 0) rfl rfl) rfl hl.1 rfl (Nat.le_of_ble_eq_true rfl) dX12_outside_212 ⟨Nat.zero_le _, Nat.zero_le _⟩ (fun u2 H locs hu2 hP hD hS => ?_)
        have hP : va_P D vwCl (mW cy o ad 0 os n9 bits F G u nb ns T M id ft fo f9 g pt ih il ip pn op so fa fp st en (va_up dr 15 (dr 15 + 1)) ++ tl) H := hP
        have hD : va_D A (mW cy o ad 0 os n9 bits F G u nb ns T M id ft fo f9 g pt ih il ip pn op so fa fp st en (va_up dr 15 (dr 15 + 1)) ++ tl) := hD
        refine W.eq (g2 := F0 m 215 ls [.int (- nI 15)]) rfl ?_
        exact hend f9 rfl hf8 hP hD hS dX12_outside_215
      refine nv_icmp_ne (tgt := 124) hx hb dX12_outside_109 (by decide) (by omega) (by omega) (fun h109 => ?_) (fun h109 => ?_)
      · skip
        refine nv_iconst (k := 3) hx hb dX12_outside_124 rfl ?_
        refine W.eq (g2 := F0 m 125 ls [.int (nI (3 - ev))]) (congrArg (fun z9 => F0 m 125 ls [.int (nI z9)]) (show 3 = 3 - ev from (by rw [eev, ev_k (q := q)]; split <;> first | rfl | (exfalso; omega)))) ?_
        exact J125 ls (lv_sub hl [0, 1, 2, 3, 4, 5] rfl)
      refine lv_aload_n hx hb dX12_outside_112 rfl (lv_at hl 4 rfl) ?_
      refine va_get (ci := 9) (C := RX12) (T := TX12) (N := 28) hx hb ht iFX12 hown hK hP 0 rfl rfl 4 (by decide) (ht _ kw4_114) (fun _ h9 => h9) rfl dX12_outside_113 ?_
      refine nv_bipush (k := 20) hx hb dX12_outside_116 (by decide) ?_
      refine ro_S S (c_X12_kindOf (AR_of (ws := mW cy o ad 0 os n9 bits F G u nb ns T M id ft fo f9 g pt ih il ip pn op so fa fp st en dr ++ tl) (kr := 3) (N := 1600) (n := n9) rfl (by omega) (by omega)) (hd := 20) (by omega)) kw5_79 yv_X12_kindOf ⟨Nat.le_of_ble_eq_true rfl, Nat.le_of_ble_eq_true rfl⟩ hK hP rfl hl.1 rfl (Nat.le_of_ble_eq_true rfl) dX12_outside_118 ⟨(Nat.zero_le _), (Nat.zero_le _)⟩ ?_
      refine lv_goto (tgt := 125) hx hb dX12_outside_121 (by decide) ?_
      refine W.eq (g2 := F0 m 125 ls [.int (nI (3 - ev))]) (congrArg (fun z9 => F0 m 125 ls [.int (nI z9)]) (show 3 - tg_event (tg_rd f9 n9) 20 6 = 3 - ev from (by rw [eev, ev_k (q := q)]; split <;> first | rfl | (exfalso; omega)))) ?_
      exact J125 ls (lv_sub hl [0, 1, 2, 3, 4, 5] rfl)
    refine nv_icmp_ne (tgt := 95) hx hb dX12_outside_88 (by decide) (by omega) (by omega) (fun h88 => ?_) (fun h88 => ?_)
    · skip
      refine lv_aload_n hx hb dX12_outside_95 rfl (lv_at hl 3 rfl) ?_
      refine va_get (ci := 9) (C := RX12) (T := TX12) (N := 28) hx hb ht iFX12 hown hK hP 0 rfl rfl 4 (by decide) (ht _ kw4_114) (fun _ h9 => h9) rfl dX12_outside_96 ?_
      refine nv_bipush (k := 20) hx hb dX12_outside_99 (by decide) ?_
      refine ro_S S (c_X12_two (AR_of (ws := mW cy o ad 0 os n9 bits F G u nb ns T M id ft fo f9 g pt ih il ip pn op so fa fp st en dr ++ tl) (kr := 3) (N := 1600) (n := n9) rfl (by omega) (by omega)) (i := 20) (by omega)) kw5_44 yv_X12_two ⟨Nat.le_of_ble_eq_true rfl, Nat.le_of_ble_eq_true rfl⟩ hK hP rfl hl.1 rfl (Nat.le_of_ble_eq_true rfl) dX12_outside_101 ⟨(Nat.zero_le _), (Nat.zero_le _)⟩ ?_
      have hq101 := tg_pr_lt f9 n9 20
      refine W.eq (g2 := F0 m 104 ls [.int (nI fpt)]) (congrArg (fun z9 => F0 m 104 ls [.int (nI z9)]) (show tg_pr (tg_rd f9 n9) 20 = fpt from (by rw [efpt]; unfold tg_spa; (repeat' split) <;> first | rfl | (exfalso; omega)))) ?_
      exact J104 ls (lv_sub hl [0, 1, 2, 3, 4] rfl)
    refine nv_iconst (k := 0) hx hb dX12_outside_91 rfl ?_
    refine lv_goto (tgt := 104) hx hb dX12_outside_92 (by decide) ?_
    refine W.eq (g2 := F0 m 104 ls [.int (nI fpt)]) (congrArg (fun z9 => F0 m 104 ls [.int (nI z9)]) (show 0 = fpt from (by rw [efpt]; unfold tg_spa; (repeat' split) <;> first | rfl | (exfalso; omega)))) ?_
    exact J104 ls (lv_sub hl [0, 1, 2, 3, 4] rfl)
  refine nv_icmp_ne (tgt := 75) hx hb dX12_outside_60 (by decide) (by omega) (by omega) (fun h60 => ?_) (fun h60 => ?_)
  · skip
    refine lv_aload_n hx hb dX12_outside_75 rfl (lv_at hl 2 rfl) ?_
    refine va_get (ci := 9) (C := RX12) (T := TX12) (N := 28) hx hb ht iFX12 hown hK hP 0 rfl rfl 4 (by decide) (ht _ kw4_114) (fun _ h9 => h9) rfl dX12_outside_76 ?_
    refine nv_bipush (k := 22) hx hb dX12_outside_79 (by decide) ?_
    refine ro_S S (c_X12_two (AR_of (ws := mW cy o ad 0 os n9 bits F G u nb ns T M id ft fo f9 g pt ih il ip pn op so fa fp st en dr ++ tl) (kr := 3) (N := 1600) (n := n9) rfl (by omega) (by omega)) (i := 22) (by omega)) kw5_44 yv_X12_two ⟨Nat.le_of_ble_eq_true rfl, Nat.le_of_ble_eq_true rfl⟩ hK hP rfl hl.1 rfl (Nat.le_of_ble_eq_true rfl) dX12_outside_81 ⟨(Nat.zero_le _), (Nat.zero_le _)⟩ ?_
    have hq81 := tg_pr_lt f9 n9 22
    refine W.eq (g2 := F0 m 84 ls [.int (nI port)]) (congrArg (fun z9 => F0 m 84 ls [.int (nI z9)]) (show tg_pr (tg_rd f9 n9) 22 = port from (by rw [eport]; unfold tg_dpa; split <;> first | rfl | (exfalso; omega)))) ?_
    exact J84 ls (lv_sub hl [0, 1, 2, 3] rfl)
  refine lv_aload_n hx hb dX12_outside_63 rfl (lv_at hl 2 rfl) ?_
  refine va_get (ci := 9) (C := RX12) (T := TX12) (N := 28) hx hb ht iFX12 hown hK hP 0 rfl rfl 4 (by decide) (ht _ kw4_114) (fun _ h9 => h9) rfl dX12_outside_64 ?_
  refine nv_bipush (k := 24) hx hb dX12_outside_67 (by decide) ?_
  refine ro_S S (c_X12_two (AR_of (ws := mW cy o ad 0 os n9 bits F G u nb ns T M id ft fo f9 g pt ih il ip pn op so fa fp st en dr ++ tl) (kr := 3) (N := 1600) (n := n9) rfl (by omega) (by omega)) (i := 24) (by omega)) kw5_44 yv_X12_two ⟨Nat.le_of_ble_eq_true rfl, Nat.le_of_ble_eq_true rfl⟩ hK hP rfl hl.1 rfl (Nat.le_of_ble_eq_true rfl) dX12_outside_69 ⟨(Nat.zero_le _), (Nat.zero_le _)⟩ ?_
  have hq69 := tg_pr_lt f9 n9 24
  refine lv_goto (tgt := 84) hx hb dX12_outside_72 (by decide) ?_
  refine W.eq (g2 := F0 m 84 ls [.int (nI port)]) (congrArg (fun z9 => F0 m 84 ls [.int (nI z9)]) (show tg_pr (tg_rd f9 n9) 24 = port from (by rw [eport]; unfold tg_dpa; split <;> first | rfl | (exfalso; omega)))) ?_
  exact J84 ls (lv_sub hl [0, 1, 2, 3] rfl)
set_option maxHeartbeats 4000000 in
set_option maxRecDepth 100000 in
theorem c_X12_outsideb {l : Launch} {D : va_G} {cy : Nat → ClassId} {o : Nat} {ad : Nat → Nat} {tl : va_W} {tp os sz bits F G u nb ns T M id : Nat} {ft fo fi : Nat → UInt8} {g : Nat → Int32} {pt ih il ip pn op so fa fp st en dr : Nat → Nat} (hb_pt : ∀ i, pt i < 2 ^ 31) (hb_ih : ∀ i, ih i < 2 ^ 64) (hb_il : ∀ i, il i < 2 ^ 64) (hb_ip : ∀ i, ip i < 2 ^ 31) (hb_pn : ∀ i, pn i < 2 ^ 31) (hb_op : ∀ i, op i < 2 ^ 31) (hb_pn4 : ∀ i, pn i < 4) (hb_so : ∀ i, so i < 2 ^ 31) (hb_fa : ∀ i, fa i < 2 ^ 32) (hb_fp : ∀ i, fp i < 2 ^ 31) (hb_st : ∀ i, st i ≤ 7) (htp : tp ≤ 1600) (hos : os ≤ 1640) (hsi : SI bits F G) (hu4 : u ≤ 4) (hnb : nb ≤ 64) (hns : ns ≤ 128) {n9 : Nat} (hn9 : n9 ≤ tp) {q port far fpt ev num : Nat} (eq0 : q = tg_rd ft n9 9) (eport : port = tg_pr (tg_rd ft n9) (20 + tg_dpa q)) (efar : far = tg_qd (tg_rd ft n9) 12) (efpt : fpt = if q = 1 then 0 else tg_pr (tg_rd ft n9) (20 + tg_spa q)) (eev : ev = tg_event (tg_rd ft n9) 20 q) (enum : num = tg_first (fun k => decide (g k = nI (tg_qd (tg_rd ft n9) 16))) u) (hz0 : tg_out (tg_rd ft n9) n9 bits g u = 0) (herr : tg_isErr (tg_rd ft n9) = false) (hfb : ¬ tg_first (fun k => decide (pt k = q ∧ pn k = num ∧ op k = port)) nb < nb) : WR (S := (Nat → UInt8)) l yX12_outside cX12_outside 10 (some .int) 6 0 0 141 [.ref o, .int (nI n9)] D cy (mW cy o ad tp os sz bits F G u nb ns T M id ft fo fi g pt ih il ip pn op so fa fp st en dr ++ tl) (fun u_ => some (.int (- nI 15))) (fun z9 => (∀ k, k < n9 → z9 k = ft k)) (fun z9 => mW cy o ad 0 os n9 bits F G u nb ns T M id ft fo z9 g pt ih il ip pn op so fa fp st en (va_up dr 15 (dr 15 + 1)) ++ tl) := by
  refine WRi (by decide) (lv0 := [(0, .ref o), (1, .int (nI n9))]) rfl (Nat.le_of_ble_eq_true rfl) ?_
  intro p e s m args below meth c ls A Q S hnm hP hK hD hS hA hend hl
  have hx := S.1
  have hb := S.2.1
  have hown : s.vm.findClass RX12 = some m.cls := S.2.2.2.1
  have ht : ∀ w ∈ lw_g, w.before args s = true := fun w h => S.2.2.2.2 w (List.mem_cons_of_mem _ h)
  have hP : va_P D vwCl (mW cy o ad tp os sz bits F G u nb ns T M id ft fo fi g pt ih il ip pn op so fa fp st en dr ++ tl) s.heap := hP
  have hu : u ≤ 4 := hu4
  have hb0 : bits ≤ 96 := by have := hsi.b; omega
  refine lv_iload_n hx hb dX12_outside_0 rfl (lv_at hl 1 rfl) ?_
  refine nv_i2l hx hb (by omega) dX12_outside_1 ?_
  refine lv_lconst (v := lN 0) hx hb dX12_outside_2 (by decide) ?_
  refine lv_aload_n hx hb dX12_outside_3 rfl (lv_at hl 0 rfl) ?_
  refine va_get (ci := 9) (C := RX12) (T := TX12) (N := 28) hx hb ht iFX12 hown hK hP 0 rfl rfl 1 (by decide) (ht _ kw4_111) (fun _ h9 => h9) rfl dX12_outside_4 ?_
  refine nv_i2l hx hb (by omega) dX12_outside_7 ?_
  refine ro_S S (c_X12_isIn (v := lN (n9)) (lo := lN (0)) (hi := lN (tp))) kw5_14 yv_X12_isIn ⟨Nat.le_of_ble_eq_true rfl, Nat.le_of_ble_eq_true rfl⟩ hK hP rfl hl.1 rfl (Nat.le_of_ble_eq_true rfl) dX12_outside_8 ⟨(Nat.zero_le _), (Nat.zero_le _)⟩ ?_
  rw [show tg_isIn (lN (n9)) (lN (0)) (lN (tp)) = true from (by rw [isIn_nat (by omega) (by omega) (by omega)]; exact decide_eq_true (by omega))]
  refine nv_if_neb (tgt := 16) hx hb dX12_outside_11 (by decide) (fun _ => ?_) (fun h => absurd h (by decide))
  refine lv_aload_n hx hb dX12_outside_16 rfl (lv_at hl 0 rfl) ?_
  refine lv_iload_n hx hb dX12_outside_17 rfl (lv_at hl 1 rfl) ?_
  refine wr_V S (c_X12_begin (x := n9) (by omega)) kw5_33 yv_X12_begin ⟨Nat.le_of_ble_eq_true rfl, Nat.le_of_ble_eq_true rfl⟩ hK hP hD hS hA (va_recv hK hP (ci := 9) (q0 := 0) rfl rfl) rfl hl.1 rfl (Nat.le_of_ble_eq_true rfl) dX12_outside_18 ⟨Nat.zero_le _, Nat.zero_le _⟩ (fun u1 H locs hu1 hP hD hS => ?_)
  obtain ⟨f9, hf9⟩ : ∃ z, z = (fun k => if k < n9 then ft k else fi k) := ⟨_, rfl⟩
  rw [← hf9] at hP hD
  have hP : va_P D vwCl (mW cy o ad 0 os n9 bits F G u nb ns T M id ft fo f9 g pt ih il ip pn op so fa fp st en dr ++ tl) H := hP
  have hD : va_D A (mW cy o ad 0 os n9 bits F G u nb ns T M id ft fo f9 g pt ih il ip pn op so fa fp st en dr ++ tl) := hD
  have hf8 : ∀ k, k < n9 → f9 k = ft k := fun k hk => by rw [hf9]; exact if_pos hk
  have erd : tg_rd f9 n9 = tg_rd ft n9 := rd_cong hf8
  rw [← erd] at eq0 eport efar efpt eev enum hz0 herr
  have hou := out0 hz0
  have hnu : num < u := by rw [enum]; exact (num_is hou.2.2.1).2
  have hq3 : q = 1 ∨ q = 6 ∨ q = 17 := by rw [eq0]; exact hou.1.2.1
  have hport : port < 65536 := by rw [eport]; exact tg_pr_lt _ _ _
  have hfar : far < 2 ^ 32 := by rw [efar]; exact tg_qd_lt _ _ _
  have hfpt : fpt < 65536 := by rw [efpt]; split; omega; exact tg_pr_lt _ _ _
  have hev : ev ≤ 3 := by rw [eev]; exact tg_event_le _ _ _
  obtain ⟨nx, enx⟩ : ∃ z, z = tg_nx q := ⟨_, rfl⟩
  have hnxl : nx < 256 := by rw [enx]; exact tg_nx_lt hq3
  have hsum : tg_sumAt nx + 2 ≤ n9 - 20 := by have h6 : q = 6 → 20 ≤ n9 - 20 := (by rw [eq0]; exact hou.1.2.2.1); have h8 := hou.1.1; rw [enx]; unfold tg_nx tg_sumAt; (repeat' split) <;> omega
  obtain ⟨ty9, ety⟩ : ∃ z, z = (if tg_rd f9 n9 20 = 8 then 128 else 129) := ⟨_, rfl⟩
  have hty : ty9 < 256 := by rw [ety]; split <;> omega
  refine W.eq (g2 := F0 m 21 ls []) rfl ?_
  refine lv_aload_n hx hb dX12_outside_21 rfl (lv_at hl 0 rfl) ?_
  refine ro_V S (c_X12_lackOfOutside (ws := mW cy o ad 0 os n9 bits F G u nb ns T M id ft fo f9 g pt ih il ip pn op so fa fp st en dr ++ tl) (km := 0) rfl rfl rfl rfl rfl rfl (AR_of (ws := mW cy o ad 0 os n9 bits F G u nb ns T M id ft fo f9 g pt ih il ip pn op so fa fp st en dr ++ tl) (kr := 3) (N := 1600) (n := n9) rfl (by omega) (by omega)) (kq := 4) rfl hu hb0) kw5_135 yv_X12_lackOfOutside ⟨Nat.le_of_ble_eq_true rfl, Nat.le_of_ble_eq_true rfl⟩ hK hP (va_recv hK hP (ci := 9) (q0 := 0) rfl rfl) rfl hl.1 rfl (Nat.le_of_ble_eq_true rfl) dX12_outside_22 ⟨(Nat.zero_le _), (Nat.zero_le _)⟩ ?_
  rw [hz0]
  refine lv_istore_n (lv' := [(2, .int (nI 0)), (0, .ref o), (1, .int (nI n9))]) hx hb dX12_outside_25 rfl hl (by decide) rfl (fun ls hl => ?_)
  refine lv_iload_n hx hb dX12_outside_26 rfl (lv_at hl 0 rfl) ?_
  refine nv_if_le (tgt := 36) hx hb dX12_outside_27 (by decide) (by omega) (fun _ => ?_) (fun h => absurd h (by decide))
  refine lv_aload_n hx hb dX12_outside_36 rfl (lv_at hl 1 rfl) ?_
  refine ro_V S (c_X12_isError (ws := mW cy o ad 0 os n9 bits F G u nb ns T M id ft fo f9 g pt ih il ip pn op so fa fp st en dr ++ tl) (km := 0) rfl rfl (AR_of (ws := mW cy o ad 0 os n9 bits F G u nb ns T M id ft fo f9 g pt ih il ip pn op so fa fp st en dr ++ tl) (kr := 3) (N := 1600) (n := n9) rfl (by omega) (by omega)) (by omega)) kw5_139 yv_X12_isError ⟨Nat.le_of_ble_eq_true rfl, Nat.le_of_ble_eq_true rfl⟩ hK hP (va_recv hK hP (ci := 9) (q0 := 0) rfl rfl) rfl hl.1 rfl (Nat.le_of_ble_eq_true rfl) dX12_outside_37 ⟨(Nat.zero_le _), (Nat.zero_le _)⟩ ?_
  rw [herr]
  refine nv_if_eqb (tgt := 48) hx hb dX12_outside_40 (by decide) (fun _ => ?_) (fun h => absurd h (by decide))
  refine lv_aload_n hx hb dX12_outside_48 rfl (lv_at hl 1 rfl) ?_
  refine va_get (ci := 9) (C := RX12) (T := TX12) (N := 28) hx hb ht iFX12 hown hK hP 0 rfl rfl 4 (by decide) (ht _ kw4_114) (fun _ h9 => h9) rfl dX12_outside_49 ?_
  refine nv_bipush (k := 9) hx hb dX12_outside_52 (by decide) ?_
  refine ro_S S (c_X12_at (AR_of (ws := mW cy o ad 0 os n9 bits F G u nb ns T M id ft fo f9 g pt ih il ip pn op so fa fp st en dr ++ tl) (kr := 3) (N := 1600) (n := n9) rfl (by omega) (by omega)) (i := 9) (by omega)) kw5_41 yv_X12_at ⟨Nat.le_of_ble_eq_true rfl, Nat.le_of_ble_eq_true rfl⟩ hK hP rfl hl.1 rfl (Nat.le_of_ble_eq_true rfl) dX12_outside_54 ⟨(Nat.zero_le _), (Nat.zero_le _)⟩ ?_
  have hq54 := tg_rd_lt f9 n9 9
  rw [← eq0]
  refine lv_istore_n (lv' := [(3, .int (nI q)), (2, .int (nI 0)), (0, .ref o), (1, .int (nI n9))]) hx hb dX12_outside_57 rfl hl (by decide) rfl (fun ls hl => ?_)
  refine lv_iload_n hx hb dX12_outside_58 rfl (lv_at hl 0 rfl) ?_
  refine nv_iconst (k := 1) hx hb dX12_outside_59 rfl ?_
  have J84 : ∀ ls : Array Slot, lv_has ls 10 [(3, .int (nI q)), (2, .int (nI 0)), (0, .ref o), (1, .int (nI n9))] → W p l e (rmw 6 0 0 141) s m args below meth c H locs 0 0 Q (F0 m 84 ls [.int (nI port)]) := by
    intro ls hl
    refine lv_istore (lv' := [(4, .int (nI port)), (3, .int (nI q)), (2, .int (nI 0)), (0, .ref o), (1, .int (nI n9))]) hx hb dX12_outside_84 hl (by decide) rfl (fun ls hl => ?_)
    refine lv_iload_n hx hb dX12_outside_86 rfl (lv_at hl 1 rfl) ?_
    refine nv_iconst (k := 1) hx hb dX12_outside_87 rfl ?_
    have J104 : ∀ ls : Array Slot, lv_has ls 10 [(4, .int (nI port)), (3, .int (nI q)), (2, .int (nI 0)), (0, .ref o), (1, .int (nI n9))] → W p l e (rmw 6 0 0 141) s m args below meth c H locs 0 0 Q (F0 m 104 ls [.int (nI fpt)]) := by
      intro ls hl
      refine lv_istore (lv' := [(5, .int (nI fpt)), (4, .int (nI port)), (3, .int (nI q)), (2, .int (nI 0)), (0, .ref o), (1, .int (nI n9))]) hx hb dX12_outside_104 hl (by decide) rfl (fun ls hl => ?_)
      refine lv_iload_n hx hb dX12_outside_106 rfl (lv_at hl 2 rfl) ?_
      refine nv_bipush (k := 6) hx hb dX12_outside_107 (by decide) ?_
      have J125 : ∀ ls : Array Slot, lv_has ls 10 [(5, .int (nI fpt)), (4, .int (nI port)), (3, .int (nI q)), (2, .int (nI 0)), (0, .ref o), (1, .int (nI n9))] → W p l e (rmw 6 0 0 141) s m args below meth c H locs 0 0 Q (F0 m 125 ls [.int (nI (3 - ev))]) := by
        intro ls hl
        refine lv_istore (lv' := [(6, .int (nI (3 - ev))), (5, .int (nI fpt)), (4, .int (nI port)), (3, .int (nI q)), (2, .int (nI 0)), (0, .ref o), (1, .int (nI n9))]) hx hb dX12_outside_125 hl (by decide) rfl (fun ls hl => ?_)
        refine lv_aload_n hx hb dX12_outside_127 rfl (lv_at hl 5 rfl) ?_
        refine lv_iload_n hx hb dX12_outside_128 rfl (lv_at hl 3 rfl) ?_
        refine lv_aload_n hx hb dX12_outside_129 rfl (lv_at hl 5 rfl) ?_
        refine lv_aload_n hx hb dX12_outside_130 rfl (lv_at hl 5 rfl) ?_
        refine va_get (ci := 9) (C := RX12) (T := TX12) (N := 28) hx hb ht iFX12 hown hK hP 0 rfl rfl 4 (by decide) (ht _ kw4_114) (fun _ h9 => h9) rfl dX12_outside_131 ?_
        refine nv_bipush (k := 16) hx hb dX12_outside_134 (by decide) ?_
        refine ro_S S (c_X12_four (AR_of (ws := mW cy o ad 0 os n9 bits F G u nb ns T M id ft fo f9 g pt ih il ip pn op so fa fp st en dr ++ tl) (kr := 3) (N := 1600) (n := n9) rfl (by omega) (by omega)) (i := 16) (by omega)) kw5_72 yv_X12_four ⟨Nat.le_of_ble_eq_true rfl, Nat.le_of_ble_eq_true rfl⟩ hK hP rfl hl.1 rfl (Nat.le_of_ble_eq_true rfl) dX12_outside_136 ⟨(Nat.zero_le _), (Nat.zero_le _)⟩ ?_
        have hq136 := tg_qd_lt f9 n9 16
        refine ro_V S (c_X12_poolOf (ws := mW cy o ad 0 os n9 bits F G u nb ns T M id ft fo f9 g pt ih il ip pn op so fa fp st en dr ++ tl) (km := 0) rfl rfl rfl (kq := 4) rfl hu (x := tg_qd (tg_rd f9 n9) 16) (by omega)) kw4_209 yv_X12_poolOf ⟨Nat.le_of_ble_eq_true rfl, Nat.le_of_ble_eq_true rfl⟩ hK hP (va_recv hK hP (ci := 9) (q0 := 0) rfl rfl) rfl hl.1 rfl (Nat.le_of_ble_eq_true rfl) dX12_outside_139 ⟨(Nat.zero_le _), (Nat.zero_le _)⟩ ?_
        rw [(num_is hou.2.2.1).1, ← enum]
        refine lv_iload hx hb dX12_outside_142 (lv_at hl 2 rfl) ?_
        refine ro_V S (c_X12_findOuter (ws := mW cy o ad 0 os n9 bits F G u nb ns T M id ft fo f9 g pt ih il ip pn op so fa fp st en dr ++ tl) (km := 0) rfl rfl rfl rfl rfl (k_pt := 5) rfl hb_pt (k_pn := 9) rfl hb_pn (k_op := 10) rfl hb_op hnb (q := q) (num := num) (port := port) (by omega) (by omega) (by omega)) kw5_98 yv_X12_findOuter ⟨Nat.le_of_ble_eq_true rfl, Nat.le_of_ble_eq_true rfl⟩ hK hP (va_recv hK hP (ci := 9) (q0 := 0) rfl rfl) rfl hl.1 rfl (Nat.le_of_ble_eq_true rfl) dX12_outside_144 ⟨(Nat.zero_le _), (Nat.zero_le _)⟩ ?_
        rw [fb_no hfb]
        refine lv_istore (lv' := [(7, .int (-1)), (6, .int (nI (3 - ev))), (5, .int (nI fpt)), (4, .int (nI port)), (3, .int (nI q)), (2, .int (nI 0)), (0, .ref o), (1, .int (nI n9))]) hx hb dX12_outside_147 hl (by decide) rfl (fun ls hl => ?_)
        refine lv_iload hx hb dX12_outside_149 (lv_at hl 0 rfl) ?_
        refine lv_if_ge (tgt := 158) hx hb dX12_outside_151 (by decide) (fun h9 => absurd h9 (by decide)) (fun _ => ?_)
        refine lv_iconst (v := -1) hx hb dX12_outside_154 (by decide) ?_
        refine lv_goto (tgt := 175) hx hb dX12_outside_155 (by decide) ?_
        refine lv_istore (lv' := [(8, .int (-1)), (7, .int (-1)), (6, .int (nI (3 - ev))), (5, .int (nI fpt)), (4, .int (nI port)), (3, .int (nI q)), (2, .int (nI 0)), (0, .ref o), (1, .int (nI n9))]) hx hb dX12_outside_175 hl (by decide) rfl (fun ls hl => ?_)
        refine lv_iload hx hb dX12_outside_177 (lv_at hl 1 rfl) ?_
        refine lv_if_lt (tgt := 209) hx hb dX12_outside_179 (by decide) (fun _ => ?_) (fun h9 => absurd (by decide) h9)
        refine lv_aload_n hx hb dX12_outside_209 rfl (lv_at hl 7 rfl) ?_
        refine nv_bipush (k := 15) hx hb dX12_outside_210 (by decide) ?_
        refine wr_V S (c_X12_drops (x := 15) (by omega)) kw5_75 yv_X12_drops ⟨Nat.le_of_ble_eq_true rfl, Nat.le_of_ble_eq_true rfl⟩ hK hP hD hS hA (va_recv hK hP (ci := 9) (q0 := 0) rfl rfl) rfl hl.1 rfl (Nat.le_of_ble_eq_true rfl) dX12_outside_212 ⟨Nat.zero_le _, Nat.zero_le _⟩ (fun u2 H locs hu2 hP hD hS => ?_)
        have hP : va_P D vwCl (mW cy o ad 0 os n9 bits F G u nb ns T M id ft fo f9 g pt ih il ip pn op so fa fp st en (va_up dr 15 (dr 15 + 1)) ++ tl) H := hP
        have hD : va_D A (mW cy o ad 0 os n9 bits F G u nb ns T M id ft fo f9 g pt ih il ip pn op so fa fp st en (va_up dr 15 (dr 15 + 1)) ++ tl) := hD
        refine W.eq (g2 := F0 m 215 ls [.int (- nI 15)]) rfl ?_
        exact hend f9 rfl hf8 hP hD hS dX12_outside_215
      refine nv_icmp_ne (tgt := 124) hx hb dX12_outside_109 (by decide) (by omega) (by omega) (fun h109 => ?_) (fun h109 => ?_)
      · skip
        refine nv_iconst (k := 3) hx hb dX12_outside_124 rfl ?_
        refine W.eq (g2 := F0 m 125 ls [.int (nI (3 - ev))]) (congrArg (fun z9 => F0 m 125 ls [.int (nI z9)]) (show 3 = 3 - ev from (by rw [eev, ev_k (q := q)]; split <;> first | rfl | (exfalso; omega)))) ?_
        exact J125 ls (lv_sub hl [0, 1, 2, 3, 4, 5] rfl)
      refine lv_aload_n hx hb dX12_outside_112 rfl (lv_at hl 4 rfl) ?_
      refine va_get (ci := 9) (C := RX12) (T := TX12) (N := 28) hx hb ht iFX12 hown hK hP 0 rfl rfl 4 (by decide) (ht _ kw4_114) (fun _ h9 => h9) rfl dX12_outside_113 ?_
      refine nv_bipush (k := 20) hx hb dX12_outside_116 (by decide) ?_
      refine ro_S S (c_X12_kindOf (AR_of (ws := mW cy o ad 0 os n9 bits F G u nb ns T M id ft fo f9 g pt ih il ip pn op so fa fp st en dr ++ tl) (kr := 3) (N := 1600) (n := n9) rfl (by omega) (by omega)) (hd := 20) (by omega)) kw5_79 yv_X12_kindOf ⟨Nat.le_of_ble_eq_true rfl, Nat.le_of_ble_eq_true rfl⟩ hK hP rfl hl.1 rfl (Nat.le_of_ble_eq_true rfl) dX12_outside_118 ⟨(Nat.zero_le _), (Nat.zero_le _)⟩ ?_
      refine lv_goto (tgt := 125) hx hb dX12_outside_121 (by decide) ?_
      refine W.eq (g2 := F0 m 125 ls [.int (nI (3 - ev))]) (congrArg (fun z9 => F0 m 125 ls [.int (nI z9)]) (show 3 - tg_event (tg_rd f9 n9) 20 6 = 3 - ev from (by rw [eev, ev_k (q := q)]; split <;> first | rfl | (exfalso; omega)))) ?_
      exact J125 ls (lv_sub hl [0, 1, 2, 3, 4, 5] rfl)
    refine nv_icmp_ne (tgt := 95) hx hb dX12_outside_88 (by decide) (by omega) (by omega) (fun h88 => ?_) (fun h88 => ?_)
    · skip
      refine lv_aload_n hx hb dX12_outside_95 rfl (lv_at hl 3 rfl) ?_
      refine va_get (ci := 9) (C := RX12) (T := TX12) (N := 28) hx hb ht iFX12 hown hK hP 0 rfl rfl 4 (by decide) (ht _ kw4_114) (fun _ h9 => h9) rfl dX12_outside_96 ?_
      refine nv_bipush (k := 20) hx hb dX12_outside_99 (by decide) ?_
      refine ro_S S (c_X12_two (AR_of (ws := mW cy o ad 0 os n9 bits F G u nb ns T M id ft fo f9 g pt ih il ip pn op so fa fp st en dr ++ tl) (kr := 3) (N := 1600) (n := n9) rfl (by omega) (by omega)) (i := 20) (by omega)) kw5_44 yv_X12_two ⟨Nat.le_of_ble_eq_true rfl, Nat.le_of_ble_eq_true rfl⟩ hK hP rfl hl.1 rfl (Nat.le_of_ble_eq_true rfl) dX12_outside_101 ⟨(Nat.zero_le _), (Nat.zero_le _)⟩ ?_
      have hq101 := tg_pr_lt f9 n9 20
      refine W.eq (g2 := F0 m 104 ls [.int (nI fpt)]) (congrArg (fun z9 => F0 m 104 ls [.int (nI z9)]) (show tg_pr (tg_rd f9 n9) 20 = fpt from (by rw [efpt]; unfold tg_spa; (repeat' split) <;> first | rfl | (exfalso; omega)))) ?_
      exact J104 ls (lv_sub hl [0, 1, 2, 3, 4] rfl)
    refine nv_iconst (k := 0) hx hb dX12_outside_91 rfl ?_
    refine lv_goto (tgt := 104) hx hb dX12_outside_92 (by decide) ?_
    refine W.eq (g2 := F0 m 104 ls [.int (nI fpt)]) (congrArg (fun z9 => F0 m 104 ls [.int (nI z9)]) (show 0 = fpt from (by rw [efpt]; unfold tg_spa; (repeat' split) <;> first | rfl | (exfalso; omega)))) ?_
    exact J104 ls (lv_sub hl [0, 1, 2, 3, 4] rfl)
  refine nv_icmp_ne (tgt := 75) hx hb dX12_outside_60 (by decide) (by omega) (by omega) (fun h60 => ?_) (fun h60 => ?_)
  · skip
    refine lv_aload_n hx hb dX12_outside_75 rfl (lv_at hl 2 rfl) ?_
    refine va_get (ci := 9) (C := RX12) (T := TX12) (N := 28) hx hb ht iFX12 hown hK hP 0 rfl rfl 4 (by decide) (ht _ kw4_114) (fun _ h9 => h9) rfl dX12_outside_76 ?_
    refine nv_bipush (k := 22) hx hb dX12_outside_79 (by decide) ?_
    refine ro_S S (c_X12_two (AR_of (ws := mW cy o ad 0 os n9 bits F G u nb ns T M id ft fo f9 g pt ih il ip pn op so fa fp st en dr ++ tl) (kr := 3) (N := 1600) (n := n9) rfl (by omega) (by omega)) (i := 22) (by omega)) kw5_44 yv_X12_two ⟨Nat.le_of_ble_eq_true rfl, Nat.le_of_ble_eq_true rfl⟩ hK hP rfl hl.1 rfl (Nat.le_of_ble_eq_true rfl) dX12_outside_81 ⟨(Nat.zero_le _), (Nat.zero_le _)⟩ ?_
    have hq81 := tg_pr_lt f9 n9 22
    refine W.eq (g2 := F0 m 84 ls [.int (nI port)]) (congrArg (fun z9 => F0 m 84 ls [.int (nI z9)]) (show tg_pr (tg_rd f9 n9) 22 = port from (by rw [eport]; unfold tg_dpa; split <;> first | rfl | (exfalso; omega)))) ?_
    exact J84 ls (lv_sub hl [0, 1, 2, 3] rfl)
  refine lv_aload_n hx hb dX12_outside_63 rfl (lv_at hl 2 rfl) ?_
  refine va_get (ci := 9) (C := RX12) (T := TX12) (N := 28) hx hb ht iFX12 hown hK hP 0 rfl rfl 4 (by decide) (ht _ kw4_114) (fun _ h9 => h9) rfl dX12_outside_64 ?_
  refine nv_bipush (k := 24) hx hb dX12_outside_67 (by decide) ?_
  refine ro_S S (c_X12_two (AR_of (ws := mW cy o ad 0 os n9 bits F G u nb ns T M id ft fo f9 g pt ih il ip pn op so fa fp st en dr ++ tl) (kr := 3) (N := 1600) (n := n9) rfl (by omega) (by omega)) (i := 24) (by omega)) kw5_44 yv_X12_two ⟨Nat.le_of_ble_eq_true rfl, Nat.le_of_ble_eq_true rfl⟩ hK hP rfl hl.1 rfl (Nat.le_of_ble_eq_true rfl) dX12_outside_69 ⟨(Nat.zero_le _), (Nat.zero_le _)⟩ ?_
  have hq69 := tg_pr_lt f9 n9 24
  refine lv_goto (tgt := 84) hx hb dX12_outside_72 (by decide) ?_
  refine W.eq (g2 := F0 m 84 ls [.int (nI port)]) (congrArg (fun z9 => F0 m 84 ls [.int (nI z9)]) (show tg_pr (tg_rd f9 n9) 24 = port from (by rw [eport]; unfold tg_dpa; split <;> first | rfl | (exfalso; omega)))) ?_
  exact J84 ls (lv_sub hl [0, 1, 2, 3] rfl)
set_option maxHeartbeats 4000000 in
set_option maxRecDepth 100000 in
theorem c_X12_outsidec {l : Launch} {D : va_G} {cy : Nat → ClassId} {o : Nat} {ad : Nat → Nat} {tl : va_W} {tp os sz bits F G u nb ns T M id : Nat} {ft fo fi : Nat → UInt8} {g : Nat → Int32} {pt ih il ip pn op so fa fp st en dr : Nat → Nat} (hb_pt : ∀ i, pt i < 2 ^ 31) (hb_ih : ∀ i, ih i < 2 ^ 64) (hb_il : ∀ i, il i < 2 ^ 64) (hb_ip : ∀ i, ip i < 2 ^ 31) (hb_pn : ∀ i, pn i < 2 ^ 31) (hb_op : ∀ i, op i < 2 ^ 31) (hb_pn4 : ∀ i, pn i < 4) (hb_so : ∀ i, so i < 2 ^ 31) (hb_fa : ∀ i, fa i < 2 ^ 32) (hb_fp : ∀ i, fp i < 2 ^ 31) (hb_st : ∀ i, st i ≤ 7) (htp : tp ≤ 1600) (hos : os ≤ 1640) (hsi : SI bits F G) (hu4 : u ≤ 4) (hnb : nb ≤ 64) (hns : ns ≤ 128) {n9 : Nat} (hn9 : n9 ≤ tp) {q port num : Nat} (eq0 : q = tg_rd ft n9 37) (eport : port = tg_pr (tg_rd ft n9) (48 + tg_spa q)) (enum : num = tg_first (fun k => decide (g k = nI (tg_qd (tg_rd ft n9) 40))) u) (hz0 : tg_out (tg_rd ft n9) n9 bits g u = 0) (herr : tg_isErr (tg_rd ft n9) = true) (hfb : ¬ tg_first (fun k => decide (pt k = q ∧ pn k = num ∧ op k = port)) nb < nb) : WR (S := (Nat → UInt8)) l yX12_outside cX12_outside 10 (some .int) 6 0 0 141 [.ref o, .int (nI n9)] D cy (mW cy o ad tp os sz bits F G u nb ns T M id ft fo fi g pt ih il ip pn op so fa fp st en dr ++ tl) (fun u_ => some (.int (- nI 15))) (fun z9 => (∀ k, k < n9 → z9 k = ft k)) (fun z9 => mW cy o ad 0 os n9 bits F G u nb ns T M id ft fo z9 g pt ih il ip pn op so fa fp st en (va_up dr 15 (dr 15 + 1)) ++ tl) := by
  refine WRi (by decide) (lv0 := [(0, .ref o), (1, .int (nI n9))]) rfl (Nat.le_of_ble_eq_true rfl) ?_
  intro p e s m args below meth c ls A Q S hnm hP hK hD hS hA hend hl
  have hx := S.1
  have hb := S.2.1
  have hown : s.vm.findClass RX12 = some m.cls := S.2.2.2.1
  have ht : ∀ w ∈ lw_g, w.before args s = true := fun w h => S.2.2.2.2 w (List.mem_cons_of_mem _ h)
  have hP : va_P D vwCl (mW cy o ad tp os sz bits F G u nb ns T M id ft fo fi g pt ih il ip pn op so fa fp st en dr ++ tl) s.heap := hP
  have hu : u ≤ 4 := hu4
  have hb0 : bits ≤ 96 := by have := hsi.b; omega
  refine lv_iload_n hx hb dX12_outside_0 rfl (lv_at hl 1 rfl) ?_
  refine nv_i2l hx hb (by omega) dX12_outside_1 ?_
  refine lv_lconst (v := lN 0) hx hb dX12_outside_2 (by decide) ?_
  refine lv_aload_n hx hb dX12_outside_3 rfl (lv_at hl 0 rfl) ?_
  refine va_get (ci := 9) (C := RX12) (T := TX12) (N := 28) hx hb ht iFX12 hown hK hP 0 rfl rfl 1 (by decide) (ht _ kw4_111) (fun _ h9 => h9) rfl dX12_outside_4 ?_
  refine nv_i2l hx hb (by omega) dX12_outside_7 ?_
  refine ro_S S (c_X12_isIn (v := lN (n9)) (lo := lN (0)) (hi := lN (tp))) kw5_14 yv_X12_isIn ⟨Nat.le_of_ble_eq_true rfl, Nat.le_of_ble_eq_true rfl⟩ hK hP rfl hl.1 rfl (Nat.le_of_ble_eq_true rfl) dX12_outside_8 ⟨(Nat.zero_le _), (Nat.zero_le _)⟩ ?_
  rw [show tg_isIn (lN (n9)) (lN (0)) (lN (tp)) = true from (by rw [isIn_nat (by omega) (by omega) (by omega)]; exact decide_eq_true (by omega))]
  refine nv_if_neb (tgt := 16) hx hb dX12_outside_11 (by decide) (fun _ => ?_) (fun h => absurd h (by decide))
  refine lv_aload_n hx hb dX12_outside_16 rfl (lv_at hl 0 rfl) ?_
  refine lv_iload_n hx hb dX12_outside_17 rfl (lv_at hl 1 rfl) ?_
  refine wr_V S (c_X12_begin (x := n9) (by omega)) kw5_33 yv_X12_begin ⟨Nat.le_of_ble_eq_true rfl, Nat.le_of_ble_eq_true rfl⟩ hK hP hD hS hA (va_recv hK hP (ci := 9) (q0 := 0) rfl rfl) rfl hl.1 rfl (Nat.le_of_ble_eq_true rfl) dX12_outside_18 ⟨Nat.zero_le _, Nat.zero_le _⟩ (fun u1 H locs hu1 hP hD hS => ?_)
  obtain ⟨f9, hf9⟩ : ∃ z, z = (fun k => if k < n9 then ft k else fi k) := ⟨_, rfl⟩
  rw [← hf9] at hP hD
  have hP : va_P D vwCl (mW cy o ad 0 os n9 bits F G u nb ns T M id ft fo f9 g pt ih il ip pn op so fa fp st en dr ++ tl) H := hP
  have hD : va_D A (mW cy o ad 0 os n9 bits F G u nb ns T M id ft fo f9 g pt ih il ip pn op so fa fp st en dr ++ tl) := hD
  have hf8 : ∀ k, k < n9 → f9 k = ft k := fun k hk => by rw [hf9]; exact if_pos hk
  have erd : tg_rd f9 n9 = tg_rd ft n9 := rd_cong hf8
  rw [← erd] at eq0 eport enum hz0 herr
  have hou := out0 hz0
  refine W.eq (g2 := F0 m 21 ls []) rfl ?_
  refine lv_aload_n hx hb dX12_outside_21 rfl (lv_at hl 0 rfl) ?_
  refine ro_V S (c_X12_lackOfOutside (ws := mW cy o ad 0 os n9 bits F G u nb ns T M id ft fo f9 g pt ih il ip pn op so fa fp st en dr ++ tl) (km := 0) rfl rfl rfl rfl rfl rfl (AR_of (ws := mW cy o ad 0 os n9 bits F G u nb ns T M id ft fo f9 g pt ih il ip pn op so fa fp st en dr ++ tl) (kr := 3) (N := 1600) (n := n9) rfl (by omega) (by omega)) (kq := 4) rfl hu hb0) kw5_135 yv_X12_lackOfOutside ⟨Nat.le_of_ble_eq_true rfl, Nat.le_of_ble_eq_true rfl⟩ hK hP (va_recv hK hP (ci := 9) (q0 := 0) rfl rfl) rfl hl.1 rfl (Nat.le_of_ble_eq_true rfl) dX12_outside_22 ⟨(Nat.zero_le _), (Nat.zero_le _)⟩ ?_
  rw [hz0]
  refine lv_istore_n (lv' := [(2, .int (nI 0)), (0, .ref o), (1, .int (nI n9))]) hx hb dX12_outside_25 rfl hl (by decide) rfl (fun ls hl => ?_)
  refine lv_iload_n hx hb dX12_outside_26 rfl (lv_at hl 0 rfl) ?_
  refine nv_if_le (tgt := 36) hx hb dX12_outside_27 (by decide) (by omega) (fun _ => ?_) (fun h => absurd h (by decide))
  refine lv_aload_n hx hb dX12_outside_36 rfl (lv_at hl 1 rfl) ?_
  refine ro_V S (c_X12_isError (ws := mW cy o ad 0 os n9 bits F G u nb ns T M id ft fo f9 g pt ih il ip pn op so fa fp st en dr ++ tl) (km := 0) rfl rfl (AR_of (ws := mW cy o ad 0 os n9 bits F G u nb ns T M id ft fo f9 g pt ih il ip pn op so fa fp st en dr ++ tl) (kr := 3) (N := 1600) (n := n9) rfl (by omega) (by omega)) (by omega)) kw5_139 yv_X12_isError ⟨Nat.le_of_ble_eq_true rfl, Nat.le_of_ble_eq_true rfl⟩ hK hP (va_recv hK hP (ci := 9) (q0 := 0) rfl rfl) rfl hl.1 rfl (Nat.le_of_ble_eq_true rfl) dX12_outside_37 ⟨(Nat.zero_le _), (Nat.zero_le _)⟩ ?_
  rw [herr]
  refine nv_if_eqb (tgt := 48) hx hb dX12_outside_40 (by decide) (fun h => absurd h (by decide)) (fun _ => ?_)
  refine lv_aload_n hx hb dX12_outside_43 rfl (lv_at hl 1 rfl) ?_
  refine wr_V S (c_X12_errorCame0 hb_pt hb_ih hb_il hb_ip hb_pn hb_op hb_pn4 hb_so hb_fa hb_fp hb_st (by omega) (by omega) hsi hu4 hnb eq0 eport enum hz0 herr hfb) kw5_147 yv_X12_errorCame ⟨Nat.le_of_ble_eq_true rfl, Nat.le_of_ble_eq_true rfl⟩ hK hP hD hS hA (va_recv hK hP (ci := 9) (q0 := 0) rfl rfl) rfl hl.1 rfl (Nat.le_of_ble_eq_true rfl) dX12_outside_44 ⟨Nat.zero_le _, Nat.zero_le _⟩ (fun u7 H locs hu7 hP hD hS => ?_)
  have hP : va_P D vwCl (mW cy o ad 0 os n9 bits F G u nb ns T M id ft fo f9 g pt ih il ip pn op so fa fp st en (va_up dr 15 (dr 15 + 1)) ++ tl) H := hP
  have hD : va_D A (mW cy o ad 0 os n9 bits F G u nb ns T M id ft fo f9 g pt ih il ip pn op so fa fp st en (va_up dr 15 (dr 15 + 1)) ++ tl) := hD
  refine W.eq (g2 := F0 m 47 ls [.int (- nI 15)]) rfl ?_
  exact hend f9 rfl hf8 hP hD hS dX12_outside_47
set_option maxHeartbeats 4000000 in
set_option maxRecDepth 100000 in
theorem c_X12_outsidee {l : Launch} {D : va_G} {cy : Nat → ClassId} {o : Nat} {ad : Nat → Nat} {tl : va_W} {tp os sz bits F G u nb ns T M id : Nat} {ft fo fi : Nat → UInt8} {g : Nat → Int32} {pt ih il ip pn op so fa fp st en dr : Nat → Nat} (hb_pt : ∀ i, pt i < 2 ^ 31) (hb_ih : ∀ i, ih i < 2 ^ 64) (hb_il : ∀ i, il i < 2 ^ 64) (hb_ip : ∀ i, ip i < 2 ^ 31) (hb_pn : ∀ i, pn i < 2 ^ 31) (hb_op : ∀ i, op i < 2 ^ 31) (hb_pn4 : ∀ i, pn i < 4) (hb_so : ∀ i, so i < 2 ^ 31) (hb_fa : ∀ i, fa i < 2 ^ 32) (hb_fp : ∀ i, fp i < 2 ^ 31) (hb_st : ∀ i, st i ≤ 7) (htp : tp ≤ 1600) (hos : os ≤ 1640) (hsi : SI bits F G) (hu4 : u ≤ 4) (hnb : nb ≤ 64) (hns : ns ≤ 128) {n9 : Nat} (hn9 : n9 ≤ tp) {q port num : Nat} (eq0 : q = tg_rd ft n9 37) (eport : port = tg_pr (tg_rd ft n9) (48 + tg_spa q)) (enum : num = tg_first (fun k => decide (g k = nI (tg_qd (tg_rd ft n9) 40))) u) (hz0 : tg_out (tg_rd ft n9) n9 bits g u = 0) (herr : tg_isErr (tg_rd ft n9) = true) {b : Nat} (hb9 : b < nb) (hfb : tg_first (fun k => decide (pt k = q ∧ pn k = num ∧ op k = port)) nb = b) (hip9 : ip b < 65536) : WR (S := ((Nat → UInt8) × (Nat → UInt8))) l yX12_outside cX12_outside 10 (some .int) 6 0 0 149 [.ref o, .int (nI n9)] D cy (mW cy o ad tp os sz bits F G u nb ns T M id ft fo fi g pt ih il ip pn op so fa fp st en dr ++ tl) (fun u_ => some (.int (nI (min (n9 + 40) 1280)))) (fun z9 => (∀ k, k < n9 → z9.1 k = ft k) ∧ z9.2 = mk_err fo z9.1 n9 q (ip b) (ih b) (il b) bits F G) (fun z9 => mW cy o ad 0 (min (n9 + 40) 1280) n9 bits F G u nb ns T (M + 1) id ft z9.2 z9.1 g pt ih il ip pn op so fa fp st en dr ++ tl) := by
  refine WRi (by decide) (lv0 := [(0, .ref o), (1, .int (nI n9))]) rfl (Nat.le_of_ble_eq_true rfl) ?_
  intro p e s m args below meth c ls A Q S hnm hP hK hD hS hA hend hl
  have hx := S.1
  have hb := S.2.1
  have hown : s.vm.findClass RX12 = some m.cls := S.2.2.2.1
  have ht : ∀ w ∈ lw_g, w.before args s = true := fun w h => S.2.2.2.2 w (List.mem_cons_of_mem _ h)
  have hP : va_P D vwCl (mW cy o ad tp os sz bits F G u nb ns T M id ft fo fi g pt ih il ip pn op so fa fp st en dr ++ tl) s.heap := hP
  have hu : u ≤ 4 := hu4
  have hb0 : bits ≤ 96 := by have := hsi.b; omega
  refine lv_iload_n hx hb dX12_outside_0 rfl (lv_at hl 1 rfl) ?_
  refine nv_i2l hx hb (by omega) dX12_outside_1 ?_
  refine lv_lconst (v := lN 0) hx hb dX12_outside_2 (by decide) ?_
  refine lv_aload_n hx hb dX12_outside_3 rfl (lv_at hl 0 rfl) ?_
  refine va_get (ci := 9) (C := RX12) (T := TX12) (N := 28) hx hb ht iFX12 hown hK hP 0 rfl rfl 1 (by decide) (ht _ kw4_111) (fun _ h9 => h9) rfl dX12_outside_4 ?_
  refine nv_i2l hx hb (by omega) dX12_outside_7 ?_
  refine ro_S S (c_X12_isIn (v := lN (n9)) (lo := lN (0)) (hi := lN (tp))) kw5_14 yv_X12_isIn ⟨Nat.le_of_ble_eq_true rfl, Nat.le_of_ble_eq_true rfl⟩ hK hP rfl hl.1 rfl (Nat.le_of_ble_eq_true rfl) dX12_outside_8 ⟨(Nat.zero_le _), (Nat.zero_le _)⟩ ?_
  rw [show tg_isIn (lN (n9)) (lN (0)) (lN (tp)) = true from (by rw [isIn_nat (by omega) (by omega) (by omega)]; exact decide_eq_true (by omega))]
  refine nv_if_neb (tgt := 16) hx hb dX12_outside_11 (by decide) (fun _ => ?_) (fun h => absurd h (by decide))
  refine lv_aload_n hx hb dX12_outside_16 rfl (lv_at hl 0 rfl) ?_
  refine lv_iload_n hx hb dX12_outside_17 rfl (lv_at hl 1 rfl) ?_
  refine wr_V S (c_X12_begin (x := n9) (by omega)) kw5_33 yv_X12_begin ⟨Nat.le_of_ble_eq_true rfl, Nat.le_of_ble_eq_true rfl⟩ hK hP hD hS hA (va_recv hK hP (ci := 9) (q0 := 0) rfl rfl) rfl hl.1 rfl (Nat.le_of_ble_eq_true rfl) dX12_outside_18 ⟨Nat.zero_le _, Nat.zero_le _⟩ (fun u1 H locs hu1 hP hD hS => ?_)
  obtain ⟨f9, hf9⟩ : ∃ z, z = (fun k => if k < n9 then ft k else fi k) := ⟨_, rfl⟩
  rw [← hf9] at hP hD
  have hP : va_P D vwCl (mW cy o ad 0 os n9 bits F G u nb ns T M id ft fo f9 g pt ih il ip pn op so fa fp st en dr ++ tl) H := hP
  have hD : va_D A (mW cy o ad 0 os n9 bits F G u nb ns T M id ft fo f9 g pt ih il ip pn op so fa fp st en dr ++ tl) := hD
  have hf8 : ∀ k, k < n9 → f9 k = ft k := fun k hk => by rw [hf9]; exact if_pos hk
  have erd : tg_rd f9 n9 = tg_rd ft n9 := rd_cong hf8
  rw [← erd] at eq0 eport enum hz0 herr
  have hou := out0 hz0
  refine W.eq (g2 := F0 m 21 ls []) rfl ?_
  refine lv_aload_n hx hb dX12_outside_21 rfl (lv_at hl 0 rfl) ?_
  refine ro_V S (c_X12_lackOfOutside (ws := mW cy o ad 0 os n9 bits F G u nb ns T M id ft fo f9 g pt ih il ip pn op so fa fp st en dr ++ tl) (km := 0) rfl rfl rfl rfl rfl rfl (AR_of (ws := mW cy o ad 0 os n9 bits F G u nb ns T M id ft fo f9 g pt ih il ip pn op so fa fp st en dr ++ tl) (kr := 3) (N := 1600) (n := n9) rfl (by omega) (by omega)) (kq := 4) rfl hu hb0) kw5_135 yv_X12_lackOfOutside ⟨Nat.le_of_ble_eq_true rfl, Nat.le_of_ble_eq_true rfl⟩ hK hP (va_recv hK hP (ci := 9) (q0 := 0) rfl rfl) rfl hl.1 rfl (Nat.le_of_ble_eq_true rfl) dX12_outside_22 ⟨(Nat.zero_le _), (Nat.zero_le _)⟩ ?_
  rw [hz0]
  refine lv_istore_n (lv' := [(2, .int (nI 0)), (0, .ref o), (1, .int (nI n9))]) hx hb dX12_outside_25 rfl hl (by decide) rfl (fun ls hl => ?_)
  refine lv_iload_n hx hb dX12_outside_26 rfl (lv_at hl 0 rfl) ?_
  refine nv_if_le (tgt := 36) hx hb dX12_outside_27 (by decide) (by omega) (fun _ => ?_) (fun h => absurd h (by decide))
  refine lv_aload_n hx hb dX12_outside_36 rfl (lv_at hl 1 rfl) ?_
  refine ro_V S (c_X12_isError (ws := mW cy o ad 0 os n9 bits F G u nb ns T M id ft fo f9 g pt ih il ip pn op so fa fp st en dr ++ tl) (km := 0) rfl rfl (AR_of (ws := mW cy o ad 0 os n9 bits F G u nb ns T M id ft fo f9 g pt ih il ip pn op so fa fp st en dr ++ tl) (kr := 3) (N := 1600) (n := n9) rfl (by omega) (by omega)) (by omega)) kw5_139 yv_X12_isError ⟨Nat.le_of_ble_eq_true rfl, Nat.le_of_ble_eq_true rfl⟩ hK hP (va_recv hK hP (ci := 9) (q0 := 0) rfl rfl) rfl hl.1 rfl (Nat.le_of_ble_eq_true rfl) dX12_outside_37 ⟨(Nat.zero_le _), (Nat.zero_le _)⟩ ?_
  rw [herr]
  refine nv_if_eqb (tgt := 48) hx hb dX12_outside_40 (by decide) (fun h => absurd h (by decide)) (fun _ => ?_)
  refine lv_aload_n hx hb dX12_outside_43 rfl (lv_at hl 1 rfl) ?_
  refine wr_V S (c_X12_errorCame1 hb_pt hb_ih hb_il hb_ip hb_pn hb_op hb_pn4 hb_so hb_fa hb_fp hb_st (by omega) (by omega) hsi hu4 hnb eq0 eport enum hz0 herr hb9 hfb hip9) kw5_147 yv_X12_errorCame ⟨Nat.le_of_ble_eq_true rfl, Nat.le_of_ble_eq_true rfl⟩ hK hP hD hS hA (va_recv hK hP (ci := 9) (q0 := 0) rfl rfl) rfl hl.1 rfl (Nat.le_of_ble_eq_true rfl) dX12_outside_44 ⟨Nat.zero_le _, Nat.zero_le _⟩ (fun u7 H locs hu7 hP hD hS => ?_)
  have hP : va_P D vwCl (mW cy o ad 0 (min (n9 + 40) 1280) n9 bits F G u nb ns T (M + 1) id ft u7 f9 g pt ih il ip pn op so fa fp st en dr ++ tl) H := hP
  have hD : va_D A (mW cy o ad 0 (min (n9 + 40) 1280) n9 bits F G u nb ns T (M + 1) id ft u7 f9 g pt ih il ip pn op so fa fp st en dr ++ tl) := hD
  refine W.eq (g2 := F0 m 47 ls [.int (nI (min (n9 + 40) 1280))]) rfl ?_
  exact hend (f9, u7) rfl ⟨hf8, hu7⟩ hP hD hS dX12_outside_47
