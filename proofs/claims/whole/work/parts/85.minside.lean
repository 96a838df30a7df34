theorem rd_cong {f g : Nat → UInt8} {n : Nat} (h : ∀ k, k < n → f k = g k) : tg_rd f n = tg_rd g n := by
  funext k
  by_cases hk : k < n
  · rw [tg_rd_in hk, tg_rd_in hk, h k hk]
  · rw [tg_rd_out (by omega), tg_rd_out (by omega)]
theorem ev_k {h : Nat → Nat} {hd q : Nat} : tg_event h hd q = if q = 6 then tg_event h hd 6 else 0 := by
  by_cases e : q = 6
  · rw [if_pos e, e]
  · rw [if_neg e]; unfold tg_event; rw [if_pos e]
theorem fb_at {ws : Nat} {P : Nat → Bool} {n b : Nat} (h : tg_first P n = b) (hb : b < n) : tg_num (tg_first P n) n = nI b := by rw [h, tg_num, if_pos hb]
theorem fb_no {P : Nat → Bool} {n : Nat} (h : ¬ tg_first P n < n) : tg_num (tg_first P n) n = -1 := if_neg h
set_option maxHeartbeats 4000000 in
set_option maxRecDepth 100000 in
theorem c_X12_inside0 {l : Launch} {D : va_G} {cy : Nat → ClassId} {o : Nat} {ad : Nat → Nat} {tl : va_W} {tp os sz bits F G u nb ns T M id : Nat} {ft fo fi : Nat → UInt8} {g : Nat → Int32} {pt ih il ip pn op so fa fp st en dr : Nat → Nat} (hb_pt : ∀ i, pt i < 2 ^ 31) (hb_ih : ∀ i, ih i < 2 ^ 64) (hb_il : ∀ i, il i < 2 ^ 64) (hb_ip : ∀ i, ip i < 2 ^ 31) (hb_pn : ∀ i, pn i < 2 ^ 31) (hb_op : ∀ i, op i < 2 ^ 31) (hb_pn4 : ∀ i, pn i < 4) (hb_so : ∀ i, so i < 2 ^ 31) (hb_fa : ∀ i, fa i < 2 ^ 32) (hb_fp : ∀ i, fp i < 2 ^ 31) (hb_st : ∀ i, st i ≤ 7) (htp : tp ≤ 1600) (hos : os ≤ 1640) (hsi : SI bits F G) (hu4 : u ≤ 4) (hnb : nb ≤ 64) (hns : ns ≤ 128) {n9 : Nat} (hn9 : n9 ≤ tp) (hz0 : tg_in (tg_rd ft n9) n9 bits F G u ≠ 0) : WR (S := (Nat → UInt8)) l yX12_inside cX12_inside 15 (some .int) 6 0 0 141 [.ref o, .int (nI n9)] D cy (mW cy o ad tp os sz bits F G u nb ns T M id ft fo fi g pt ih il ip pn op so fa fp st en dr ++ tl) (fun u_ => some (.int (- nI (tg_in (tg_rd ft n9) n9 bits F G u)))) (fun z9 => (∀ k, k < n9 → z9 k = ft k)) (fun z9 => mW cy o ad 0 os n9 bits F G u nb ns T M id ft fo z9 g pt ih il ip pn op so fa fp st en (va_up dr (tg_in (tg_rd ft n9) n9 bits F G u) (dr (tg_in (tg_rd ft n9) n9 bits F G u) + 1)) ++ tl) := by
  refine WRi (by decide) (lv0 := [(0, .ref o), (1, .int (nI n9))]) rfl (Nat.le_of_ble_eq_true rfl) ?_
  intro p e s m args below meth c ls A Q S hnm hP hK hD hS hA hend hl
  have hx := S.1
  have hb := S.2.1
  have hown : s.vm.findClass RX12 = some m.cls := S.2.2.2.1
  have ht : ∀ w ∈ lw_g, w.before args s = true := fun w h => S.2.2.2.2 w (List.mem_cons_of_mem _ h)
  have hP : va_P D vwCl (mW cy o ad tp os sz bits F G u nb ns T M id ft fo fi g pt ih il ip pn op so fa fp st en dr ++ tl) s.heap := hP
  have hu : u ≤ 4 := hu4
  refine lv_iload_n hx hb dX12_inside_0 rfl (lv_at hl 1 rfl) ?_
  refine nv_i2l hx hb (by omega) dX12_inside_1 ?_
  refine lv_lconst (v := lN 0) hx hb dX12_inside_2 (by decide) ?_
  refine lv_aload_n hx hb dX12_inside_3 rfl (lv_at hl 0 rfl) ?_
  refine va_get (ci := 9) (C := RX12) (T := TX12) (N := 28) hx hb ht iFX12 hown hK hP 0 rfl rfl 1 (by decide) (ht _ kw4_111) (fun _ h9 => h9) rfl dX12_inside_4 ?_
  refine nv_i2l hx hb (by omega) dX12_inside_7 ?_
  refine ro_S S (c_X12_isIn (v := lN (n9)) (lo := lN (0)) (hi := lN (tp))) kw5_14 yv_X12_isIn ⟨Nat.le_of_ble_eq_true rfl, Nat.le_of_ble_eq_true rfl⟩ hK hP rfl hl.1 rfl (Nat.le_of_ble_eq_true rfl) dX12_inside_8 ⟨(Nat.zero_le _), (Nat.zero_le _)⟩ ?_
  rw [show tg_isIn (lN (n9)) (lN (0)) (lN (tp)) = true from (by rw [isIn_nat (by omega) (by omega) (by omega)]; exact decide_eq_true (by omega))]
  refine nv_if_neb (tgt := 16) hx hb dX12_inside_11 (by decide) (fun _ => ?_) (fun h => absurd h (by decide))
  refine lv_aload_n hx hb dX12_inside_16 rfl (lv_at hl 0 rfl) ?_
  refine lv_iload_n hx hb dX12_inside_17 rfl (lv_at hl 1 rfl) ?_
  refine wr_V S (c_X12_begin (x := n9) (by omega)) kw5_33 yv_X12_begin ⟨Nat.le_of_ble_eq_true rfl, Nat.le_of_ble_eq_true rfl⟩ hK hP hD hS hA (va_recv hK hP (ci := 9) (q0 := 0) rfl rfl) rfl hl.1 rfl (Nat.le_of_ble_eq_true rfl) dX12_inside_18 ⟨Nat.zero_le _, Nat.zero_le _⟩ (fun u1 H locs hu1 hP hD hS => ?_)
  obtain ⟨f9, hf9⟩ : ∃ z, z = (fun k => if k < n9 then ft k else fi k) := ⟨_, rfl⟩
  rw [← hf9] at hP hD
  have hP : va_P D vwCl (mW cy o ad 0 os n9 bits F G u nb ns T M id ft fo f9 g pt ih il ip pn op so fa fp st en dr ++ tl) H := hP
  have hD : va_D A (mW cy o ad 0 os n9 bits F G u nb ns T M id ft fo f9 g pt ih il ip pn op so fa fp st en dr ++ tl) := hD
  have hf8 : ∀ k, k < n9 → f9 k = ft k := fun k hk => by rw [hf9]; exact if_pos hk
  have erd : tg_rd f9 n9 = tg_rd ft n9 := rd_cong hf8
  rw [← erd] at hz0
  refine W.eq (g2 := F0 m 21 ls []) rfl ?_
  refine lv_aload_n hx hb dX12_inside_21 rfl (lv_at hl 0 rfl) ?_
  refine ro_V S (c_X12_lackOfInside (ws := mW cy o ad 0 os n9 bits F G u nb ns T M id ft fo f9 g pt ih il ip pn op so fa fp st en dr ++ tl) (km := 0) rfl rfl rfl rfl rfl rfl rfl (AR_of (ws := mW cy o ad 0 os n9 bits F G u nb ns T M id ft fo f9 g pt ih il ip pn op so fa fp st en dr ++ tl) (kr := 3) (N := 1600) rfl (by omega) (by omega)) hsi hu) kw5_37 yv_X12_lackOfInside ⟨Nat.le_of_ble_eq_true rfl, Nat.le_of_ble_eq_true rfl⟩ hK hP (va_recv hK hP (ci := 9) (q0 := 0) rfl rfl) rfl hl.1 rfl (Nat.le_of_ble_eq_true rfl) dX12_inside_22 ⟨(Nat.zero_le _), (Nat.zero_le _)⟩ ?_
  have hle9 : tg_in (tg_rd f9 n9) n9 bits F G u ≤ 14 := by unfold tg_in; (repeat' split) <;> omega
  refine lv_istore_n (lv' := [(2, .int (nI (tg_in (tg_rd f9 n9) n9 bits F G u))), (0, .ref o), (1, .int (nI n9))]) hx hb dX12_inside_25 rfl hl (by decide) rfl (fun ls hl => ?_)
  refine lv_iload_n hx hb dX12_inside_26 rfl (lv_at hl 0 rfl) ?_
  refine nv_if_le (tgt := 36) hx hb dX12_inside_27 (by decide) (by omega) (fun h27 => ?_) (fun h27 => ?_)
  · skip
    exfalso; omega
  refine lv_aload_n hx hb dX12_inside_30 rfl (lv_at hl 1 rfl) ?_
  refine lv_iload_n hx hb dX12_inside_31 rfl (lv_at hl 0 rfl) ?_
  refine wr_V S (c_X12_drops (x := tg_in (tg_rd f9 n9) n9 bits F G u) (by omega)) kw5_75 yv_X12_drops ⟨Nat.le_of_ble_eq_true rfl, Nat.le_of_ble_eq_true rfl⟩ hK hP hD hS hA (va_recv hK hP (ci := 9) (q0 := 0) rfl rfl) rfl hl.1 rfl (Nat.le_of_ble_eq_true rfl) dX12_inside_32 ⟨Nat.zero_le _, Nat.zero_le _⟩ (fun u2 H locs hu2 hP hD hS => ?_)
  have hP : va_P D vwCl (mW cy o ad 0 os n9 bits F G u nb ns T M id ft fo f9 g pt ih il ip pn op so fa fp st en (va_up dr (tg_in (tg_rd f9 n9) n9 bits F G u) (dr (tg_in (tg_rd f9 n9) n9 bits F G u) + 1)) ++ tl) H := hP
  have hD : va_D A (mW cy o ad 0 os n9 bits F G u nb ns T M id ft fo f9 g pt ih il ip pn op so fa fp st en (va_up dr (tg_in (tg_rd f9 n9) n9 bits F G u) (dr (tg_in (tg_rd f9 n9) n9 bits F G u) + 1)) ++ tl) := hD
  refine W.eq (g2 := F0 m 35 ls [.int (- nI (tg_in (tg_rd f9 n9) n9 bits F G u))]) rfl ?_
  rw [erd] at hP hD
  exact hend f9 (by rw [erd]) hf8 hP hD hS dX12_inside_35
set_option maxHeartbeats 4000000 in
set_option maxRecDepth 100000 in
theorem c_X12_inside1 {l : Launch} {D : va_G} {cy : Nat → ClassId} {o : Nat} {ad : Nat → Nat} {tl : va_W} {tp os sz bits F G u nb ns T M id : Nat} {ft fo fi : Nat → UInt8} {g : Nat → Int32} {pt ih il ip pn op so fa fp st en dr : Nat → Nat} (hb_pt : ∀ i, pt i < 2 ^ 31) (hb_ih : ∀ i, ih i < 2 ^ 64) (hb_il : ∀ i, il i < 2 ^ 64) (hb_ip : ∀ i, ip i < 2 ^ 31) (hb_pn : ∀ i, pn i < 2 ^ 31) (hb_op : ∀ i, op i < 2 ^ 31) (hb_pn4 : ∀ i, pn i < 4) (hb_so : ∀ i, so i < 2 ^ 31) (hb_fa : ∀ i, fa i < 2 ^ 32) (hb_fp : ∀ i, fp i < 2 ^ 31) (hb_st : ∀ i, st i ≤ 7) (htp : tp ≤ 1600) (hos : os ≤ 1640) (hsi : SI bits F G) (hu4 : u ≤ 4) (hnb : nb ≤ 64) (hns : ns ≤ 128) {n9 : Nat} (hn9 : n9 ≤ tp) {q port far fpt ev hi lo : Nat} (eq0 : q = if tg_rd ft n9 6 = 58 then 1 else tg_rd ft n9 6) (eport : port = tg_pr (tg_rd ft n9) (40 + tg_spa q)) (efar : far = tg_dr bits (tg_ei (tg_rd ft n9) 24) (tg_ei (tg_rd ft n9) 32)) (efpt : fpt = if q = 1 then 0 else tg_pr (tg_rd ft n9) (40 + tg_dpa q)) (eev : ev = tg_event (tg_rd ft n9) 40 q) (ehi : hi = tg_ei (tg_rd ft n9) 8) (elo : lo = tg_ei (tg_rd ft n9) 16) (hz0 : tg_in (tg_rd ft n9) n9 bits F G u = 0) {b : Nat} (hb9 : b < nb) (hfb : tg_first (fun k => decide (pt k = q ∧ ih k = hi ∧ il k = lo ∧ ip k = port)) nb = b) {j : Nat} (hj9 : j < ns) (hfj : tg_first (fun k => decide (so k = b ∧ fa k = far ∧ fp k = fpt)) ns = j) {sa9 : Nat} (hsa9 : sa9 < 2 ^ 32) (hid : id < 65536) (hga : g (pn b) = nI sa9) : WR (S := ((Nat → UInt8) × (Nat → UInt8))) l yX12_inside cX12_inside 15 (some .int) 6 0 0 141 [.ref o, .int (nI n9)] D cy (mW cy o ad tp os sz bits F G u nb ns T M id ft fo fi g pt ih il ip pn op so fa fp st en dr ++ tl) (fun u_ => some (.int (nI (n9 - 20)))) (fun z9 => (∀ k, k < n9 → z9.1 k = ft k) ∧ z9.2 = mk_four fo z9.1 n9 q id sa9 far (op b)) (fun z9 => mW cy o ad 0 (n9 - 20) n9 bits F G u nb ns T (M + 1) (tg_id n9 id) ft z9.2 z9.1 g pt ih il ip pn op so fa fp (if tg_nxt (st j) ev true = 8 then st else va_up st j (tg_nxt (st j) ev true)) (if tg_nxt (st j) ev true = 8 then en else va_up en j (T + tg_life (tg_nxt (st j) ev true) q)) dr ++ tl) := by
  refine WRi (by decide) (lv0 := [(0, .ref o), (1, .int (nI n9))]) rfl (Nat.le_of_ble_eq_true rfl) ?_
  intro p e s m args below meth c ls A Q S hnm hP hK hD hS hA hend hl
  have hx := S.1
  have hb := S.2.1
  have hown : s.vm.findClass RX12 = some m.cls := S.2.2.2.1
  have ht : ∀ w ∈ lw_g, w.before args s = true := fun w h => S.2.2.2.2 w (List.mem_cons_of_mem _ h)
  have hP : va_P D vwCl (mW cy o ad tp os sz bits F G u nb ns T M id ft fo fi g pt ih il ip pn op so fa fp st en dr ++ tl) s.heap := hP
  have hu : u ≤ 4 := hu4
  have hptb : pt b = q := by have h9 := tg_first_is (q := (fun k => decide (pt k = q ∧ ih k = hi ∧ il k = lo ∧ ip k = port))) (n := nb) (by rw [hfb]; exact hb9); rw [hfb] at h9; exact (of_decide_eq_true h9).1
  have hjq : so j = b ∧ fa j = far ∧ fp j = fpt := by have h9 := tg_first_is (q := (fun k => decide (so k = b ∧ fa k = far ∧ fp k = fpt))) (n := ns) (by rw [hfj]; exact hj9); rw [hfj] at h9; exact of_decide_eq_true h9
  refine lv_iload_n hx hb dX12_inside_0 rfl (lv_at hl 1 rfl) ?_
  refine nv_i2l hx hb (by omega) dX12_inside_1 ?_
  refine lv_lconst (v := lN 0) hx hb dX12_inside_2 (by decide) ?_
  refine lv_aload_n hx hb dX12_inside_3 rfl (lv_at hl 0 rfl) ?_
  refine va_get (ci := 9) (C := RX12) (T := TX12) (N := 28) hx hb ht iFX12 hown hK hP 0 rfl rfl 1 (by decide) (ht _ kw4_111) (fun _ h9 => h9) rfl dX12_inside_4 ?_
  refine nv_i2l hx hb (by omega) dX12_inside_7 ?_
  refine ro_S S (c_X12_isIn (v := lN (n9)) (lo := lN (0)) (hi := lN (tp))) kw5_14 yv_X12_isIn ⟨Nat.le_of_ble_eq_true rfl, Nat.le_of_ble_eq_true rfl⟩ hK hP rfl hl.1 rfl (Nat.le_of_ble_eq_true rfl) dX12_inside_8 ⟨(Nat.zero_le _), (Nat.zero_le _)⟩ ?_
  rw [show tg_isIn (lN (n9)) (lN (0)) (lN (tp)) = true from (by rw [isIn_nat (by omega) (by omega) (by omega)]; exact decide_eq_true (by omega))]
  refine nv_if_neb (tgt := 16) hx hb dX12_inside_11 (by decide) (fun _ => ?_) (fun h => absurd h (by decide))
  refine lv_aload_n hx hb dX12_inside_16 rfl (lv_at hl 0 rfl) ?_
  refine lv_iload_n hx hb dX12_inside_17 rfl (lv_at hl 1 rfl) ?_
  refine wr_V S (c_X12_begin (x := n9) (by omega)) kw5_33 yv_X12_begin ⟨Nat.le_of_ble_eq_true rfl, Nat.le_of_ble_eq_true rfl⟩ hK hP hD hS hA (va_recv hK hP (ci := 9) (q0 := 0) rfl rfl) rfl hl.1 rfl (Nat.le_of_ble_eq_true rfl) dX12_inside_18 ⟨Nat.zero_le _, Nat.zero_le _⟩ (fun u1 H locs hu1 hP hD hS => ?_)
  obtain ⟨f9, hf9⟩ : ∃ z, z = (fun k => if k < n9 then ft k else fi k) := ⟨_, rfl⟩
  rw [← hf9] at hP hD
  have hP : va_P D vwCl (mW cy o ad 0 os n9 bits F G u nb ns T M id ft fo f9 g pt ih il ip pn op so fa fp st en dr ++ tl) H := hP
  have hD : va_D A (mW cy o ad 0 os n9 bits F G u nb ns T M id ft fo f9 g pt ih il ip pn op so fa fp st en dr ++ tl) := hD
  have hf8 : ∀ k, k < n9 → f9 k = ft k := fun k hk => by rw [hf9]; exact if_pos hk
  have erd : tg_rd f9 n9 = tg_rd ft n9 := rd_cong hf8
  rw [← erd] at eq0 eport efar efpt eev ehi elo hz0
  have hin := in0 hz0
  have hq3 : q = 1 ∨ q = 6 ∨ q = 17 := by rw [eq0]; split <;> omega
  have hsum : tg_sumAt q + 2 ≤ n9 - 40 := by have h6 : q = 6 → tg_rd f9 n9 6 = 6 := (by rw [eq0]; split <;> omega); unfold tg_sumAt; (repeat' split) <;> omega
  have h620 : q = 6 → 20 ≤ n9 - 40 := by have h6 : q = 6 → tg_rd f9 n9 6 = 6 := (by rw [eq0]; split <;> omega); exact fun z => hin.1.2.2.2.1 (h6 z)
  have hport : port < 65536 := by rw [eport]; exact tg_pr_lt _ _ _
  have hfar : far < 2 ^ 32 := by rw [efar]; exact tg_dr_lt (by have := hsi.b; omega)
  have hfpt : fpt < 65536 := by rw [efpt]; split; omega; exact tg_pr_lt _ _ _
  have hev : ev ≤ 3 := by rw [eev]; exact tg_event_le _ _ _
  have hhi : hi < 2 ^ 64 := by rw [ehi]; exact tg_ei_lt _ _ _
  have hlo : lo < 2 ^ 64 := by rw [elo]; exact tg_ei_lt _ _ _
  have hu0 : 1 ≤ u := by omega
  have hbs : bits = 32 ∨ bits = 40 ∨ bits = 48 ∨ bits = 56 ∨ bits = 64 ∨ bits = 96 := by have := hsi.b; omega
  refine W.eq (g2 := F0 m 21 ls []) rfl ?_
  refine lv_aload_n hx hb dX12_inside_21 rfl (lv_at hl 0 rfl) ?_
  refine ro_V S (c_X12_lackOfInside (ws := mW cy o ad 0 os n9 bits F G u nb ns T M id ft fo f9 g pt ih il ip pn op so fa fp st en dr ++ tl) (km := 0) rfl rfl rfl rfl rfl rfl rfl (AR_of (ws := mW cy o ad 0 os n9 bits F G u nb ns T M id ft fo f9 g pt ih il ip pn op so fa fp st en dr ++ tl) (kr := 3) (N := 1600) rfl (by omega) (by omega)) hsi hu) kw5_37 yv_X12_lackOfInside ⟨Nat.le_of_ble_eq_true rfl, Nat.le_of_ble_eq_true rfl⟩ hK hP (va_recv hK hP (ci := 9) (q0 := 0) rfl rfl) rfl hl.1 rfl (Nat.le_of_ble_eq_true rfl) dX12_inside_22 ⟨(Nat.zero_le _), (Nat.zero_le _)⟩ ?_
  rw [hz0]
  refine lv_istore_n (lv' := [(2, .int (nI 0)), (0, .ref o), (1, .int (nI n9))]) hx hb dX12_inside_25 rfl hl (by decide) rfl (fun ls hl => ?_)
  refine lv_iload_n hx hb dX12_inside_26 rfl (lv_at hl 0 rfl) ?_
  refine nv_if_le (tgt := 36) hx hb dX12_inside_27 (by decide) (by omega) (fun _ => ?_) (fun h => absurd h (by decide))
  refine lv_aload_n hx hb dX12_inside_36 rfl (lv_at hl 1 rfl) ?_
  refine va_get (ci := 9) (C := RX12) (T := TX12) (N := 28) hx hb ht iFX12 hown hK hP 0 rfl rfl 4 (by decide) (ht _ kw4_114) (fun _ h9 => h9) rfl dX12_inside_37 ?_
  refine nv_bipush (k := 6) hx hb dX12_inside_40 (by decide) ?_
  refine ro_S S (c_X12_at (AR_of (ws := mW cy o ad 0 os n9 bits F G u nb ns T M id ft fo f9 g pt ih il ip pn op so fa fp st en dr ++ tl) (kr := 3) (N := 1600) (n := n9) rfl (by omega) (by omega)) (i := 6) (by omega)) kw5_41 yv_X12_at ⟨Nat.le_of_ble_eq_true rfl, Nat.le_of_ble_eq_true rfl⟩ hK hP rfl hl.1 rfl (Nat.le_of_ble_eq_true rfl) dX12_inside_42 ⟨(Nat.zero_le _), (Nat.zero_le _)⟩ ?_
  have hq42 := tg_rd_lt f9 n9 6
  refine lv_istore_n (lv' := [(3, .int (nI (tg_rd f9 n9 6))), (2, .int (nI 0)), (0, .ref o), (1, .int (nI n9))]) hx hb dX12_inside_45 rfl hl (by decide) rfl (fun ls hl => ?_)
  refine lv_iload_n hx hb dX12_inside_46 rfl (lv_at hl 0 rfl) ?_
  refine nv_bipush (k := 58) hx hb dX12_inside_47 (by decide) ?_
  have J57 : ∀ ls : Array Slot, lv_has ls 15 [(3, .int (nI (tg_rd f9 n9 6))), (2, .int (nI 0)), (0, .ref o), (1, .int (nI n9))] → W p l e (rmw 6 0 0 141) s m args below meth c H locs 0 0 Q (F0 m 57 ls [.int (nI q)]) := by
    intro ls hl
    refine lv_istore (lv' := [(4, .int (nI q)), (3, .int (nI (tg_rd f9 n9 6))), (2, .int (nI 0)), (0, .ref o), (1, .int (nI n9))]) hx hb dX12_inside_57 hl (by decide) rfl (fun ls hl => ?_)
    refine lv_aload_n hx hb dX12_inside_59 rfl (lv_at hl 3 rfl) ?_
    refine va_get (ci := 9) (C := RX12) (T := TX12) (N := 28) hx hb ht iFX12 hown hK hP 0 rfl rfl 4 (by decide) (ht _ kw4_114) (fun _ h9 => h9) rfl dX12_inside_60 ?_
    refine nv_bipush (k := 8) hx hb dX12_inside_63 (by decide) ?_
    refine ro_S S (c_X12_eight (AR_of (ws := mW cy o ad 0 os n9 bits F G u nb ns T M id ft fo f9 g pt ih il ip pn op so fa fp st en dr ++ tl) (kr := 3) (N := 1600) (n := n9) rfl (by omega) (by omega)) (i := 8) (by omega)) kw5_69 yv_X12_eight ⟨Nat.le_of_ble_eq_true rfl, Nat.le_of_ble_eq_true rfl⟩ hK hP rfl hl.1 rfl (Nat.le_of_ble_eq_true rfl) dX12_inside_65 ⟨(Nat.zero_le _), (Nat.zero_le _)⟩ ?_
    have hq65 := tg_ei_lt f9 n9 8
    rw [← ehi]
    refine lv_lstore (lv' := [(5, .long (lN (hi))), (4, .int (nI q)), (3, .int (nI (tg_rd f9 n9 6))), (2, .int (nI 0)), (0, .ref o), (1, .int (nI n9))]) hx hb dX12_inside_68 hl (by decide) rfl (fun ls hl => ?_)
    refine lv_aload_n hx hb dX12_inside_70 rfl (lv_at hl 4 rfl) ?_
    refine va_get (ci := 9) (C := RX12) (T := TX12) (N := 28) hx hb ht iFX12 hown hK hP 0 rfl rfl 4 (by decide) (ht _ kw4_114) (fun _ h9 => h9) rfl dX12_inside_71 ?_
    refine nv_bipush (k := 16) hx hb dX12_inside_74 (by decide) ?_
    refine ro_S S (c_X12_eight (AR_of (ws := mW cy o ad 0 os n9 bits F G u nb ns T M id ft fo f9 g pt ih il ip pn op so fa fp st en dr ++ tl) (kr := 3) (N := 1600) (n := n9) rfl (by omega) (by omega)) (i := 16) (by omega)) kw5_69 yv_X12_eight ⟨Nat.le_of_ble_eq_true rfl, Nat.le_of_ble_eq_true rfl⟩ hK hP rfl hl.1 rfl (Nat.le_of_ble_eq_true rfl) dX12_inside_76 ⟨(Nat.zero_le _), (Nat.zero_le _)⟩ ?_
    have hq76 := tg_ei_lt f9 n9 16
    rw [← elo]
    refine lv_lstore (lv' := [(7, .long (lN (lo))), (5, .long (lN (hi))), (4, .int (nI q)), (3, .int (nI (tg_rd f9 n9 6))), (2, .int (nI 0)), (0, .ref o), (1, .int (nI n9))]) hx hb dX12_inside_79 hl (by decide) rfl (fun ls hl => ?_)
    refine lv_iload hx hb dX12_inside_81 (lv_at hl 2 rfl) ?_
    refine nv_iconst (k := 1) hx hb dX12_inside_83 rfl ?_
    have J108 : ∀ ls : Array Slot, lv_has ls 15 [(7, .long (lN (lo))), (5, .long (lN (hi))), (4, .int (nI q)), (3, .int (nI (tg_rd f9 n9 6))), (2, .int (nI 0)), (0, .ref o), (1, .int (nI n9))] → W p l e (rmw 6 0 0 141) s m args below meth c H locs 0 0 Q (F0 m 108 ls [.int (nI port)]) := by
      intro ls hl
      refine lv_istore (lv' := [(9, .int (nI port)), (7, .long (lN (lo))), (5, .long (lN (hi))), (4, .int (nI q)), (3, .int (nI (tg_rd f9 n9 6))), (2, .int (nI 0)), (0, .ref o), (1, .int (nI n9))]) hx hb dX12_inside_108 hl (by decide) rfl (fun ls hl => ?_)
      refine lv_aload_n hx hb dX12_inside_110 rfl (lv_at hl 6 rfl) ?_
      refine lv_aload_n hx hb dX12_inside_111 rfl (lv_at hl 6 rfl) ?_
      refine va_get (ci := 9) (C := RX12) (T := TX12) (N := 28) hx hb ht iFX12 hown hK hP 0 rfl rfl 4 (by decide) (ht _ kw4_114) (fun _ h9 => h9) rfl dX12_inside_112 ?_
      refine nv_bipush (k := 24) hx hb dX12_inside_115 (by decide) ?_
      refine ro_S S (c_X12_eight (AR_of (ws := mW cy o ad 0 os n9 bits F G u nb ns T M id ft fo f9 g pt ih il ip pn op so fa fp st en dr ++ tl) (kr := 3) (N := 1600) (n := n9) rfl (by omega) (by omega)) (i := 24) (by omega)) kw5_69 yv_X12_eight ⟨Nat.le_of_ble_eq_true rfl, Nat.le_of_ble_eq_true rfl⟩ hK hP rfl hl.1 rfl (Nat.le_of_ble_eq_true rfl) dX12_inside_117 ⟨(Nat.zero_le _), (Nat.zero_le _)⟩ ?_
      have hq117 := tg_ei_lt f9 n9 24
      refine lv_aload_n hx hb dX12_inside_120 rfl (lv_at hl 6 rfl) ?_
      refine va_get (ci := 9) (C := RX12) (T := TX12) (N := 28) hx hb ht iFX12 hown hK hP 0 rfl rfl 4 (by decide) (ht _ kw4_114) (fun _ h9 => h9) rfl dX12_inside_121 ?_
      refine nv_bipush (k := 32) hx hb dX12_inside_124 (by decide) ?_
      refine ro_S S (c_X12_eight (AR_of (ws := mW cy o ad 0 os n9 bits F G u nb ns T M id ft fo f9 g pt ih il ip pn op so fa fp st en dr ++ tl) (kr := 3) (N := 1600) (n := n9) rfl (by omega) (by omega)) (i := 32) (by omega)) kw5_69 yv_X12_eight ⟨Nat.le_of_ble_eq_true rfl, Nat.le_of_ble_eq_true rfl⟩ hK hP rfl hl.1 rfl (Nat.le_of_ble_eq_true rfl) dX12_inside_126 ⟨(Nat.zero_le _), (Nat.zero_le _)⟩ ?_
      have hq126 := tg_ei_lt f9 n9 32
      refine ro_V S (c_X12_drawnOf (ws := mW cy o ad 0 os n9 bits F G u nb ns T M id ft fo f9 g pt ih il ip pn op so fa fp st en dr ++ tl) (km := 0) rfl rfl (by omega) (hi := tg_ei (tg_rd f9 n9) 24) (lo := tg_ei (tg_rd f9 n9) 32) (by omega) (by omega)) kw4_237 yv_X12_drawnOf ⟨Nat.le_of_ble_eq_true rfl, Nat.le_of_ble_eq_true rfl⟩ hK hP (va_recv hK hP (ci := 9) (q0 := 0) rfl rfl) rfl hl.1 rfl (Nat.le_of_ble_eq_true rfl) dX12_inside_129 ⟨(Nat.zero_le _), (Nat.zero_le _)⟩ ?_
      have hq129 := tg_dr_lt (bits := bits) (hi := tg_ei (tg_rd f9 n9) 24) (lo := tg_ei (tg_rd f9 n9) 32) (by omega)
      rw [← efar]
      refine lv_istore (lv' := [(10, .int (nI far)), (9, .int (nI port)), (7, .long (lN (lo))), (5, .long (lN (hi))), (4, .int (nI q)), (3, .int (nI (tg_rd f9 n9 6))), (2, .int (nI 0)), (0, .ref o), (1, .int (nI n9))]) hx hb dX12_inside_132 hl (by decide) rfl (fun ls hl => ?_)
      refine lv_iload hx hb dX12_inside_134 (lv_at hl 4 rfl) ?_
      refine nv_iconst (k := 1) hx hb dX12_inside_136 rfl ?_
      have J153 : ∀ ls : Array Slot, lv_has ls 15 [(10, .int (nI far)), (9, .int (nI port)), (7, .long (lN (lo))), (5, .long (lN (hi))), (4, .int (nI q)), (3, .int (nI (tg_rd f9 n9 6))), (2, .int (nI 0)), (0, .ref o), (1, .int (nI n9))] → W p l e (rmw 6 0 0 141) s m args below meth c H locs 0 0 Q (F0 m 153 ls [.int (nI fpt)]) := by
        intro ls hl
        refine lv_istore (lv' := [(11, .int (nI fpt)), (10, .int (nI far)), (9, .int (nI port)), (7, .long (lN (lo))), (5, .long (lN (hi))), (4, .int (nI q)), (3, .int (nI (tg_rd f9 n9 6))), (2, .int (nI 0)), (0, .ref o), (1, .int (nI n9))]) hx hb dX12_inside_153 hl (by decide) rfl (fun ls hl => ?_)
        refine lv_iload hx hb dX12_inside_155 (lv_at hl 5 rfl) ?_
        refine nv_bipush (k := 6) hx hb dX12_inside_157 (by decide) ?_
        have J175 : ∀ ls : Array Slot, lv_has ls 15 [(11, .int (nI fpt)), (10, .int (nI far)), (9, .int (nI port)), (7, .long (lN (lo))), (5, .long (lN (hi))), (4, .int (nI q)), (3, .int (nI (tg_rd f9 n9 6))), (2, .int (nI 0)), (0, .ref o), (1, .int (nI n9))] → W p l e (rmw 6 0 0 141) s m args below meth c H locs 0 0 Q (F0 m 175 ls [.int (nI (3 - ev))]) := by
          intro ls hl
          refine lv_istore (lv' := [(12, .int (nI (3 - ev))), (11, .int (nI fpt)), (10, .int (nI far)), (9, .int (nI port)), (7, .long (lN (lo))), (5, .long (lN (hi))), (4, .int (nI q)), (3, .int (nI (tg_rd f9 n9 6))), (2, .int (nI 0)), (0, .ref o), (1, .int (nI n9))]) hx hb dX12_inside_175 hl (by decide) rfl (fun ls hl => ?_)
          refine lv_aload_n hx hb dX12_inside_177 rfl (lv_at hl 9 rfl) ?_
          refine lv_iload hx hb dX12_inside_178 (lv_at hl 6 rfl) ?_
          refine lv_lload hx hb dX12_inside_180 (lv_at hl 5 rfl) ?_
          refine lv_lload hx hb dX12_inside_182 (lv_at hl 4 rfl) ?_
          refine lv_iload hx hb dX12_inside_184 (lv_at hl 3 rfl) ?_
          refine ro_V S (c_X12_findInner (ws := mW cy o ad 0 os n9 bits F G u nb ns T M id ft fo f9 g pt ih il ip pn op so fa fp st en dr ++ tl) (km := 0) rfl rfl rfl rfl rfl rfl (k_pt := 5) rfl hb_pt (k_ih := 6) rfl hb_ih (k_il := 7) rfl hb_il (k_ip := 8) rfl hb_ip hnb (q := q) (hi := hi) (lo := lo) (port := port) (by omega) (by omega) (by omega) (by omega)) kw5_82 yv_X12_findInner ⟨Nat.le_of_ble_eq_true rfl, Nat.le_of_ble_eq_true rfl⟩ hK hP (va_recv hK hP (ci := 9) (q0 := 0) rfl rfl) rfl hl.1 rfl (Nat.le_of_ble_eq_true rfl) dX12_inside_186 ⟨(Nat.zero_le _), (Nat.zero_le _)⟩ ?_
          rw [fb_at (ws := 0) hfb hb9]
          refine lv_istore (lv' := [(13, .int (nI b)), (12, .int (nI (3 - ev))), (11, .int (nI fpt)), (10, .int (nI far)), (9, .int (nI port)), (7, .long (lN (lo))), (5, .long (lN (hi))), (4, .int (nI q)), (3, .int (nI (tg_rd f9 n9 6))), (2, .int (nI 0)), (0, .ref o), (1, .int (nI n9))]) hx hb dX12_inside_189 hl (by decide) rfl (fun ls hl => ?_)
          refine lv_iload hx hb dX12_inside_191 (lv_at hl 0 rfl) ?_
          refine nv_if_ge (tgt := 200) hx hb dX12_inside_193 (by decide) (by omega) ?_
          refine lv_aload_n hx hb dX12_inside_200 rfl (lv_at hl 10 rfl) ?_
          refine lv_iload hx hb dX12_inside_201 (lv_at hl 0 rfl) ?_
          refine lv_iload hx hb dX12_inside_203 (lv_at hl 3 rfl) ?_
          refine lv_iload hx hb dX12_inside_205 (lv_at hl 2 rfl) ?_
          refine ro_V S (c_X12_findSession (ws := mW cy o ad 0 os n9 bits F G u nb ns T M id ft fo f9 g pt ih il ip pn op so fa fp st en dr ++ tl) (km := 0) rfl rfl rfl rfl rfl (k_so := 11) rfl hb_so (k_fa := 12) rfl hb_fa (k_fp := 13) rfl hb_fp hns (b := b) (x := far) (port := fpt) (by omega) (by omega) (by omega)) kw5_86 yv_X12_findSession ⟨Nat.le_of_ble_eq_true rfl, Nat.le_of_ble_eq_true rfl⟩ hK hP (va_recv hK hP (ci := 9) (q0 := 0) rfl rfl) rfl hl.1 rfl (Nat.le_of_ble_eq_true rfl) dX12_inside_207 ⟨(Nat.zero_le _), (Nat.zero_le _)⟩ ?_
          rw [fb_at (ws := 0) hfj hj9]
          refine lv_istore (lv' := [(14, .int (nI j)), (13, .int (nI b)), (12, .int (nI (3 - ev))), (11, .int (nI fpt)), (10, .int (nI far)), (9, .int (nI port)), (7, .long (lN (lo))), (5, .long (lN (hi))), (4, .int (nI q)), (3, .int (nI (tg_rd f9 n9 6))), (2, .int (nI 0)), (0, .ref o), (1, .int (nI n9))]) hx hb dX12_inside_210 hl (by decide) rfl (fun ls hl => ?_)
          refine lv_iload hx hb dX12_inside_212 (lv_at hl 0 rfl) ?_
          refine nv_if_ge (tgt := 261) hx hb dX12_inside_214 (by decide) (by omega) ?_
          refine lv_iload hx hb dX12_inside_261 (lv_at hl 1 rfl) ?_
          refine nv_if_ge (tgt := 280) hx hb dX12_inside_263 (by decide) (by omega) ?_
          refine lv_iload hx hb dX12_inside_280 (lv_at hl 0 rfl) ?_
          refine nv_if_ge (tgt := 301) hx hb dX12_inside_282 (by decide) (by omega) ?_
          refine lv_aload_n hx hb dX12_inside_301 rfl (lv_at hl 11 rfl) ?_
          refine lv_iload hx hb dX12_inside_302 (lv_at hl 0 rfl) ?_
          refine lv_iload hx hb dX12_inside_304 (lv_at hl 2 rfl) ?_
          refine nv_iconst (k := 1) hx hb dX12_inside_306 rfl ?_
          refine wr_V S (c_X12_goesOn (x := j) (k9 := 3 - ev) (ins := true) (by omega) (by omega) (by have := hb_st j; omega) (by rw [hjq.1]; omega) (hb_pt _)) kw5_110 yv_X12_goesOn ⟨Nat.le_of_ble_eq_true rfl, Nat.le_of_ble_eq_true rfl⟩ hK hP hD hS hA (va_recv hK hP (ci := 9) (q0 := 0) rfl rfl) rfl hl.1 rfl (Nat.le_of_ble_eq_true rfl) dX12_inside_307 ⟨Nat.zero_le _, Nat.zero_le _⟩ (fun u5 H locs hu5 hP hD hS => ?_)
          rw [show 3 - (3 - ev) = ev by omega, hjq.1, hptb] at hP hD
          have hP : va_P D vwCl (mW cy o ad 0 os n9 bits F G u nb ns T M id ft fo f9 g pt ih il ip pn op so fa fp (if tg_nxt (st j) ev true = 8 then st else va_up st j (tg_nxt (st j) ev true)) (if tg_nxt (st j) ev true = 8 then en else va_up en j (T + tg_life (tg_nxt (st j) ev true) q)) dr ++ tl) H := hP
          have hD : va_D A (mW cy o ad 0 os n9 bits F G u nb ns T M id ft fo f9 g pt ih il ip pn op so fa fp (if tg_nxt (st j) ev true = 8 then st else va_up st j (tg_nxt (st j) ev true)) (if tg_nxt (st j) ev true = 8 then en else va_up en j (T + tg_life (tg_nxt (st j) ev true) q)) dr ++ tl) := hD
          refine W.eq (g2 := F0 m 310 ls []) rfl ?_
          refine lv_aload_n hx hb dX12_inside_310 rfl (lv_at hl 11 rfl) ?_
          refine lv_iload hx hb dX12_inside_311 (lv_at hl 8 rfl) ?_
          refine lv_iload hx hb dX12_inside_313 (lv_at hl 1 rfl) ?_
          refine lv_iload hx hb dX12_inside_315 (lv_at hl 4 rfl) ?_
          refine wr_V S (c_X12_makeInner (q := q) (b := b) (ta := far) (sa := sa9) hq3 (by omega) (hb_pn4 b) hga hsa9 hfar (hb_op b) (by omega) (by omega) hsum hin.1.2.2.2.2 hid) kw5_118 yv_X12_makeInner ⟨Nat.le_of_ble_eq_true rfl, Nat.le_of_ble_eq_true rfl⟩ hK hP hD hS hA (va_recv hK hP (ci := 9) (q0 := 0) rfl rfl) rfl hl.1 rfl (Nat.le_of_ble_eq_true rfl) dX12_inside_317 ⟨Nat.zero_le _, Nat.zero_le _⟩ (fun u6 H locs hu6 hP hD hS => ?_)
          have hP : va_P D vwCl (mW cy o ad 0 (n9 - 20) n9 bits F G u nb ns T M (tg_id n9 id) ft u6 f9 g pt ih il ip pn op so fa fp (if tg_nxt (st j) ev true = 8 then st else va_up st j (tg_nxt (st j) ev true)) (if tg_nxt (st j) ev true = 8 then en else va_up en j (T + tg_life (tg_nxt (st j) ev true) q)) dr ++ tl) H := hP
          have hD : va_D A (mW cy o ad 0 (n9 - 20) n9 bits F G u nb ns T M (tg_id n9 id) ft u6 f9 g pt ih il ip pn op so fa fp (if tg_nxt (st j) ev true = 8 then st else va_up st j (tg_nxt (st j) ev true)) (if tg_nxt (st j) ev true = 8 then en else va_up en j (T + tg_life (tg_nxt (st j) ev true) q)) dr ++ tl) := hD
          refine W.eq (g2 := F0 m 320 ls []) rfl ?_
          refine lv_aload_n hx hb dX12_inside_320 rfl (lv_at hl 11 rfl) ?_
          refine lv_dup hx hb dX12_inside_321 rfl ?_
          refine va_get (ci := 9) (C := RX12) (T := TX12) (N := 28) hx hb ht iFX12 hown hK hP 0 rfl rfl 25 (by decide) (ht _ kw4_135) (fun _ h9 => h9) rfl dX12_inside_322 ?_
          refine nv_iconst (k := 1) hx hb dX12_inside_325 rfl ?_
          refine nv_iadd hx hb dX12_inside_326 ?_
          refine va_put (ci := 9) (C := RX12) (T := TX12) (N := 28) (ty := tyX12 25) hx hb ht iFX12 tyX12 tyX12_ok nmX12 hown hK hP hD hS 0 rfl rfl 25 (by decide) (ht _ kw4_135) (fun _ h9 => h9) rfl (by decide +kernel) (by first | rfl | decide) (by first | rfl | decide) (Nat.le_of_ble_eq_true rfl) dX12_inside_327 (fun H locs hP hD hS => ?_)
          have hP : va_P D vwCl (mW cy o ad 0 (n9 - 20) n9 bits F G u nb ns T (M + 1) (tg_id n9 id) ft u6 f9 g pt ih il ip pn op so fa fp (if tg_nxt (st j) ev true = 8 then st else va_up st j (tg_nxt (st j) ev true)) (if tg_nxt (st j) ev true = 8 then en else va_up en j (T + tg_life (tg_nxt (st j) ev true) q)) dr ++ tl) H := hP
          have hD : va_D A (mW cy o ad 0 (n9 - 20) n9 bits F G u nb ns T (M + 1) (tg_id n9 id) ft u6 f9 g pt ih il ip pn op so fa fp (if tg_nxt (st j) ev true = 8 then st else va_up st j (tg_nxt (st j) ev true)) (if tg_nxt (st j) ev true = 8 then en else va_up en j (T + tg_life (tg_nxt (st j) ev true) q)) dr ++ tl) := hD
          refine lv_aload_n hx hb dX12_inside_330 rfl (lv_at hl 11 rfl) ?_
          refine va_get (ci := 9) (C := RX12) (T := TX12) (N := 28) hx hb ht iFX12 hown hK hP 0 rfl rfl 3 (by decide) (ht _ kw4_113) (fun _ h9 => h9) rfl dX12_inside_331 ?_
          exact hend (f9, u6) rfl ⟨hf8, hu6⟩ hP hD hS dX12_inside_334
        refine nv_icmp_ne (tgt := 174) hx hb dX12_inside_159 (by decide) (by omega) (by omega) (fun h159 => ?_) (fun h159 => ?_)
        · skip
          refine nv_iconst (k := 3) hx hb dX12_inside_174 rfl ?_
          refine W.eq (g2 := F0 m 175 ls [.int (nI (3 - ev))]) (congrArg (fun z9 => F0 m 175 ls [.int (nI z9)]) (show 3 = 3 - ev from (by rw [eev, ev_k (q := q)]; split <;> first | rfl | (exfalso; omega)))) ?_
          exact J175 ls (lv_sub hl [0, 1, 2, 3, 4, 5, 6, 7, 8, 9] rfl)
        refine lv_aload_n hx hb dX12_inside_162 rfl (lv_at hl 8 rfl) ?_
        refine va_get (ci := 9) (C := RX12) (T := TX12) (N := 28) hx hb ht iFX12 hown hK hP 0 rfl rfl 4 (by decide) (ht _ kw4_114) (fun _ h9 => h9) rfl dX12_inside_163 ?_
        refine nv_bipush (k := 40) hx hb dX12_inside_166 (by decide) ?_
        refine ro_S S (c_X12_kindOf (AR_of (ws := mW cy o ad 0 os n9 bits F G u nb ns T M id ft fo f9 g pt ih il ip pn op so fa fp st en dr ++ tl) (kr := 3) (N := 1600) (n := n9) rfl (by omega) (by omega)) (hd := 40) (by omega)) kw5_79 yv_X12_kindOf ⟨Nat.le_of_ble_eq_true rfl, Nat.le_of_ble_eq_true rfl⟩ hK hP rfl hl.1 rfl (Nat.le_of_ble_eq_true rfl) dX12_inside_168 ⟨(Nat.zero_le _), (Nat.zero_le _)⟩ ?_
        refine lv_goto (tgt := 175) hx hb dX12_inside_171 (by decide) ?_
        refine W.eq (g2 := F0 m 175 ls [.int (nI (3 - ev))]) (congrArg (fun z9 => F0 m 175 ls [.int (nI z9)]) (show 3 - tg_event (tg_rd f9 n9) 40 6 = 3 - ev from (by rw [eev, ev_k (q := q)]; split <;> first | rfl | (exfalso; omega)))) ?_
        exact J175 ls (lv_sub hl [0, 1, 2, 3, 4, 5, 6, 7, 8, 9] rfl)
      refine nv_icmp_ne (tgt := 144) hx hb dX12_inside_137 (by decide) (by omega) (by omega) (fun h137 => ?_) (fun h137 => ?_)
      · skip
        refine lv_aload_n hx hb dX12_inside_144 rfl (lv_at hl 7 rfl) ?_
        refine va_get (ci := 9) (C := RX12) (T := TX12) (N := 28) hx hb ht iFX12 hown hK hP 0 rfl rfl 4 (by decide) (ht _ kw4_114) (fun _ h9 => h9) rfl dX12_inside_145 ?_
        refine nv_bipush (k := 42) hx hb dX12_inside_148 (by decide) ?_
        refine ro_S S (c_X12_two (AR_of (ws := mW cy o ad 0 os n9 bits F G u nb ns T M id ft fo f9 g pt ih il ip pn op so fa fp st en dr ++ tl) (kr := 3) (N := 1600) (n := n9) rfl (by omega) (by omega)) (i := 42) (by omega)) kw5_44 yv_X12_two ⟨Nat.le_of_ble_eq_true rfl, Nat.le_of_ble_eq_true rfl⟩ hK hP rfl hl.1 rfl (Nat.le_of_ble_eq_true rfl) dX12_inside_150 ⟨(Nat.zero_le _), (Nat.zero_le _)⟩ ?_
        have hq150 := tg_pr_lt f9 n9 42
        refine W.eq (g2 := F0 m 153 ls [.int (nI fpt)]) (congrArg (fun z9 => F0 m 153 ls [.int (nI z9)]) (show tg_pr (tg_rd f9 n9) 42 = fpt from (by rw [efpt]; unfold tg_dpa; (repeat' split) <;> first | rfl | (exfalso; omega)))) ?_
        exact J153 ls (lv_sub hl [0, 1, 2, 3, 4, 5, 6, 7, 8] rfl)
      refine nv_iconst (k := 0) hx hb dX12_inside_140 rfl ?_
      refine lv_goto (tgt := 153) hx hb dX12_inside_141 (by decide) ?_
      refine W.eq (g2 := F0 m 153 ls [.int (nI fpt)]) (congrArg (fun z9 => F0 m 153 ls [.int (nI z9)]) (show 0 = fpt from (by rw [efpt]; unfold tg_dpa; (repeat' split) <;> first | rfl | (exfalso; omega)))) ?_
      exact J153 ls (lv_sub hl [0, 1, 2, 3, 4, 5, 6, 7, 8] rfl)
    refine nv_icmp_ne (tgt := 99) hx hb dX12_inside_84 (by decide) (by omega) (by omega) (fun h84 => ?_) (fun h84 => ?_)
    · skip
      refine lv_aload_n hx hb dX12_inside_99 rfl (lv_at hl 5 rfl) ?_
      refine va_get (ci := 9) (C := RX12) (T := TX12) (N := 28) hx hb ht iFX12 hown hK hP 0 rfl rfl 4 (by decide) (ht _ kw4_114) (fun _ h9 => h9) rfl dX12_inside_100 ?_
      refine nv_bipush (k := 40) hx hb dX12_inside_103 (by decide) ?_
      refine ro_S S (c_X12_two (AR_of (ws := mW cy o ad 0 os n9 bits F G u nb ns T M id ft fo f9 g pt ih il ip pn op so fa fp st en dr ++ tl) (kr := 3) (N := 1600) (n := n9) rfl (by omega) (by omega)) (i := 40) (by omega)) kw5_44 yv_X12_two ⟨Nat.le_of_ble_eq_true rfl, Nat.le_of_ble_eq_true rfl⟩ hK hP rfl hl.1 rfl (Nat.le_of_ble_eq_true rfl) dX12_inside_105 ⟨(Nat.zero_le _), (Nat.zero_le _)⟩ ?_
      have hq105 := tg_pr_lt f9 n9 40
      refine W.eq (g2 := F0 m 108 ls [.int (nI port)]) (congrArg (fun z9 => F0 m 108 ls [.int (nI z9)]) (show tg_pr (tg_rd f9 n9) 40 = port from (by rw [eport]; unfold tg_spa; split <;> first | rfl | (exfalso; omega)))) ?_
      exact J108 ls (lv_sub hl [0, 1, 2, 3, 4, 5, 6] rfl)
    refine lv_aload_n hx hb dX12_inside_87 rfl (lv_at hl 5 rfl) ?_
    refine va_get (ci := 9) (C := RX12) (T := TX12) (N := 28) hx hb ht iFX12 hown hK hP 0 rfl rfl 4 (by decide) (ht _ kw4_114) (fun _ h9 => h9) rfl dX12_inside_88 ?_
    refine nv_bipush (k := 44) hx hb dX12_inside_91 (by decide) ?_
    refine ro_S S (c_X12_two (AR_of (ws := mW cy o ad 0 os n9 bits F G u nb ns T M id ft fo f9 g pt ih il ip pn op so fa fp st en dr ++ tl) (kr := 3) (N := 1600) (n := n9) rfl (by omega) (by omega)) (i := 44) (by omega)) kw5_44 yv_X12_two ⟨Nat.le_of_ble_eq_true rfl, Nat.le_of_ble_eq_true rfl⟩ hK hP rfl hl.1 rfl (Nat.le_of_ble_eq_true rfl) dX12_inside_93 ⟨(Nat.zero_le _), (Nat.zero_le _)⟩ ?_
    have hq93 := tg_pr_lt f9 n9 44
    refine lv_goto (tgt := 108) hx hb dX12_inside_96 (by decide) ?_
    refine W.eq (g2 := F0 m 108 ls [.int (nI port)]) (congrArg (fun z9 => F0 m 108 ls [.int (nI z9)]) (show tg_pr (tg_rd f9 n9) 44 = port from (by rw [eport]; unfold tg_spa; split <;> first | rfl | (exfalso; omega)))) ?_
    exact J108 ls (lv_sub hl [0, 1, 2, 3, 4, 5, 6] rfl)
  refine nv_icmp_ne (tgt := 56) hx hb dX12_inside_49 (by decide) (by omega) (by omega) (fun h49 => ?_) (fun h49 => ?_)
  · skip
    refine lv_iload_n hx hb dX12_inside_56 rfl (lv_at hl 0 rfl) ?_
    refine W.eq (g2 := F0 m 57 ls [.int (nI q)]) (congrArg (fun z9 => F0 m 57 ls [.int (nI z9)]) (show tg_rd f9 n9 6 = q from (by rw [eq0]; split <;> omega))) ?_
    exact J57 ls (lv_sub hl [0, 1, 2, 3] rfl)
  refine nv_iconst (k := 1) hx hb dX12_inside_52 rfl ?_
  refine lv_goto (tgt := 57) hx hb dX12_inside_53 (by decide) ?_
  refine W.eq (g2 := F0 m 57 ls [.int (nI q)]) (congrArg (fun z9 => F0 m 57 ls [.int (nI z9)]) (show 1 = q from (by rw [eq0]; split <;> omega))) ?_
  exact J57 ls (lv_sub hl [0, 1, 2, 3] rfl)
set_option maxHeartbeats 4000000 in
set_option maxRecDepth 100000 in
theorem c_X12_inside2 {l : Launch} {D : va_G} {cy : Nat → ClassId} {o : Nat} {ad : Nat → Nat} {tl : va_W} {tp os sz bits F G u nb ns T M id : Nat} {ft fo fi : Nat → UInt8} {g : Nat → Int32} {pt ih il ip pn op so fa fp st en dr : Nat → Nat} (hb_pt : ∀ i, pt i < 2 ^ 31) (hb_ih : ∀ i, ih i < 2 ^ 64) (hb_il : ∀ i, il i < 2 ^ 64) (hb_ip : ∀ i, ip i < 2 ^ 31) (hb_pn : ∀ i, pn i < 2 ^ 31) (hb_op : ∀ i, op i < 2 ^ 31) (hb_pn4 : ∀ i, pn i < 4) (hb_so : ∀ i, so i < 2 ^ 31) (hb_fa : ∀ i, fa i < 2 ^ 32) (hb_fp : ∀ i, fp i < 2 ^ 31) (hb_st : ∀ i, st i ≤ 7) (htp : tp ≤ 1600) (hos : os ≤ 1640) (hsi : SI bits F G) (hu4 : u ≤ 4) (hnb : nb ≤ 64) (hns : ns ≤ 128) {n9 : Nat} (hn9 : n9 ≤ tp) {q port far fpt ev hi lo : Nat} (eq0 : q = if tg_rd ft n9 6 = 58 then 1 else tg_rd ft n9 6) (eport : port = tg_pr (tg_rd ft n9) (40 + tg_spa q)) (efar : far = tg_dr bits (tg_ei (tg_rd ft n9) 24) (tg_ei (tg_rd ft n9) 32)) (efpt : fpt = if q = 1 then 0 else tg_pr (tg_rd ft n9) (40 + tg_dpa q)) (eev : ev = tg_event (tg_rd ft n9) 40 q) (ehi : hi = tg_ei (tg_rd ft n9) 8) (elo : lo = tg_ei (tg_rd ft n9) 16) (hz0 : tg_in (tg_rd ft n9) n9 bits F G u = 0) {b : Nat} (hb9 : b < nb) (hfb : tg_first (fun k => decide (pt k = q ∧ ih k = hi ∧ il k = lo ∧ ip k = port)) nb = b) (hfj : ¬ tg_first (fun k => decide (so k = b ∧ fa k = far ∧ fp k = fpt)) ns < ns) (hmay : (q ≠ 6 ∨ ev = 2) ∧ ns < 128) {sa9 : Nat} (hsa9 : sa9 < 2 ^ 32) (hid : id < 65536) (hga : g (pn b) = nI sa9) : WR (S := ((Nat → UInt8) × (Nat → UInt8))) l yX12_inside cX12_inside 15 (some .int) 6 0 0 141 [.ref o, .int (nI n9)] D cy (mW cy o ad tp os sz bits F G u nb ns T M id ft fo fi g pt ih il ip pn op so fa fp st en dr ++ tl) (fun u_ => some (.int (nI (n9 - 20)))) (fun z9 => (∀ k, k < n9 → z9.1 k = ft k) ∧ z9.2 = mk_four fo z9.1 n9 q id sa9 far (op b)) (fun z9 => mW cy o ad 0 (n9 - 20) n9 bits F G u nb (ns + 1) T (M + 1) (tg_id n9 id) ft z9.2 z9.1 g pt ih il ip pn op (va_up so ns b) (va_up fa ns far) (va_up fp ns fpt) (va_up st ns (tg_first_st q true)) (va_up en ns (T + tg_life (tg_first_st q true) q)) dr ++ tl) := by
  refine WRi (by decide) (lv0 := [(0, .ref o), (1, .int (nI n9))]) rfl (Nat.le_of_ble_eq_true rfl) ?_
  intro p e s m args below meth c ls A Q S hnm hP hK hD hS hA hend hl
  have hx := S.1
  have hb := S.2.1
  have hown : s.vm.findClass RX12 = some m.cls := S.2.2.2.1
  have ht : ∀ w ∈ lw_g, w.before args s = true := fun w h => S.2.2.2.2 w (List.mem_cons_of_mem _ h)
  have hP : va_P D vwCl (mW cy o ad tp os sz bits F G u nb ns T M id ft fo fi g pt ih il ip pn op so fa fp st en dr ++ tl) s.heap := hP
  have hu : u ≤ 4 := hu4
  have hptb : pt b = q := by have h9 := tg_first_is (q := (fun k => decide (pt k = q ∧ ih k = hi ∧ il k = lo ∧ ip k = port))) (n := nb) (by rw [hfb]; exact hb9); rw [hfb] at h9; exact (of_decide_eq_true h9).1
  refine lv_iload_n hx hb dX12_inside_0 rfl (lv_at hl 1 rfl) ?_
  refine nv_i2l hx hb (by omega) dX12_inside_1 ?_
  refine lv_lconst (v := lN 0) hx hb dX12_inside_2 (by decide) ?_
  refine lv_aload_n hx hb dX12_inside_3 rfl (lv_at hl 0 rfl) ?_
  refine va_get (ci := 9) (C := RX12) (T := TX12) (N := 28) hx hb ht iFX12 hown hK hP 0 rfl rfl 1 (by decide) (ht _ kw4_111) (fun _ h9 => h9) rfl dX12_inside_4 ?_
  refine nv_i2l hx hb (by omega) dX12_inside_7 ?_
  refine ro_S S (c_X12_isIn (v := lN (n9)) (lo := lN (0)) (hi := lN (tp))) kw5_14 yv_X12_isIn ⟨Nat.le_of_ble_eq_true rfl, Nat.le_of_ble_eq_true rfl⟩ hK hP rfl hl.1 rfl (Nat.le_of_ble_eq_true rfl) dX12_inside_8 ⟨(Nat.zero_le _), (Nat.zero_le _)⟩ ?_
  rw [show tg_isIn (lN (n9)) (lN (0)) (lN (tp)) = true from (by rw [isIn_nat (by omega) (by omega) (by omega)]; exact decide_eq_true (by omega))]
  refine nv_if_neb (tgt := 16) hx hb dX12_inside_11 (by decide) (fun _ => ?_) (fun h => absurd h (by decide))
  refine lv_aload_n hx hb dX12_inside_16 rfl (lv_at hl 0 rfl) ?_
  refine lv_iload_n hx hb dX12_inside_17 rfl (lv_at hl 1 rfl) ?_
  refine wr_V S (c_X12_begin (x := n9) (by omega)) kw5_33 yv_X12_begin ⟨Nat.le_of_ble_eq_true rfl, Nat.le_of_ble_eq_true rfl⟩ hK hP hD hS hA (va_recv hK hP (ci := 9) (q0 := 0) rfl rfl) rfl hl.1 rfl (Nat.le_of_ble_eq_true rfl) dX12_inside_18 ⟨Nat.zero_le _, Nat.zero_le _⟩ (fun u1 H locs hu1 hP hD hS => ?_)
  obtain ⟨f9, hf9⟩ : ∃ z, z = (fun k => if k < n9 then ft k else fi k) := ⟨_, rfl⟩
  rw [← hf9] at hP hD
  have hP : va_P D vwCl (mW cy o ad 0 os n9 bits F G u nb ns T M id ft fo f9 g pt ih il ip pn op so fa fp st en dr ++ tl) H := hP
  have hD : va_D A (mW cy o ad 0 os n9 bits F G u nb ns T M id ft fo f9 g pt ih il ip pn op so fa fp st en dr ++ tl) := hD
  have hf8 : ∀ k, k < n9 → f9 k = ft k := fun k hk => by rw [hf9]; exact if_pos hk
  have erd : tg_rd f9 n9 = tg_rd ft n9 := rd_cong hf8
  rw [← erd] at eq0 eport efar efpt eev ehi elo hz0
  have hin := in0 hz0
  have hq3 : q = 1 ∨ q = 6 ∨ q = 17 := by rw [eq0]; split <;> omega
  have hsum : tg_sumAt q + 2 ≤ n9 - 40 := by have h6 : q = 6 → tg_rd f9 n9 6 = 6 := (by rw [eq0]; split <;> omega); unfold tg_sumAt; (repeat' split) <;> omega
  have h620 : q = 6 → 20 ≤ n9 - 40 := by have h6 : q = 6 → tg_rd f9 n9 6 = 6 := (by rw [eq0]; split <;> omega); exact fun z => hin.1.2.2.2.1 (h6 z)
  have hport : port < 65536 := by rw [eport]; exact tg_pr_lt _ _ _
  have hfar : far < 2 ^ 32 := by rw [efar]; exact tg_dr_lt (by have := hsi.b; omega)
  have hfpt : fpt < 65536 := by rw [efpt]; split; omega; exact tg_pr_lt _ _ _
  have hev : ev ≤ 3 := by rw [eev]; exact tg_event_le _ _ _
  have hhi : hi < 2 ^ 64 := by rw [ehi]; exact tg_ei_lt _ _ _
  have hlo : lo < 2 ^ 64 := by rw [elo]; exact tg_ei_lt _ _ _
  have hu0 : 1 ≤ u := by omega
  have hbs : bits = 32 ∨ bits = 40 ∨ bits = 48 ∨ bits = 56 ∨ bits = 64 ∨ bits = 96 := by have := hsi.b; omega
  refine W.eq (g2 := F0 m 21 ls []) rfl ?_
  refine lv_aload_n hx hb dX12_inside_21 rfl (lv_at hl 0 rfl) ?_
  refine ro_V S (c_X12_lackOfInside (ws := mW cy o ad 0 os n9 bits F G u nb ns T M id ft fo f9 g pt ih il ip pn op so fa fp st en dr ++ tl) (km := 0) rfl rfl rfl rfl rfl rfl rfl (AR_of (ws := mW cy o ad 0 os n9 bits F G u nb ns T M id ft fo f9 g pt ih il ip pn op so fa fp st en dr ++ tl) (kr := 3) (N := 1600) rfl (by omega) (by omega)) hsi hu) kw5_37 yv_X12_lackOfInside ⟨Nat.le_of_ble_eq_true rfl, Nat.le_of_ble_eq_true rfl⟩ hK hP (va_recv hK hP (ci := 9) (q0 := 0) rfl rfl) rfl hl.1 rfl (Nat.le_of_ble_eq_true rfl) dX12_inside_22 ⟨(Nat.zero_le _), (Nat.zero_le _)⟩ ?_
  rw [hz0]
  refine lv_istore_n (lv' := [(2, .int (nI 0)), (0, .ref o), (1, .int (nI n9))]) hx hb dX12_inside_25 rfl hl (by decide) rfl (fun ls hl => ?_)
  refine lv_iload_n hx hb dX12_inside_26 rfl (lv_at hl 0 rfl) ?_
  refine nv_if_le (tgt := 36) hx hb dX12_inside_27 (by decide) (by omega) (fun _ => ?_) (fun h => absurd h (by decide))
  refine lv_aload_n hx hb dX12_inside_36 rfl (lv_at hl 1 rfl) ?_
  refine va_get (ci := 9) (C := RX12) (T := TX12) (N := 28) hx hb ht iFX12 hown hK hP 0 rfl rfl 4 (by decide) (ht _ kw4_114) (fun _ h9 => h9) rfl dX12_inside_37 ?_
  refine nv_bipush (k := 6) hx hb dX12_inside_40 (by decide) ?_
  refine ro_S S (c_X12_at (AR_of (ws := mW cy o ad 0 os n9 bits F G u nb ns T M id ft fo f9 g pt ih il ip pn op so fa fp st en dr ++ tl) (kr := 3) (N := 1600) (n := n9) rfl (by omega) (by omega)) (i := 6) (by omega)) kw5_41 yv_X12_at ⟨Nat.le_of_ble_eq_true rfl, Nat.le_of_ble_eq_true rfl⟩ hK hP rfl hl.1 rfl (Nat.le_of_ble_eq_true rfl) dX12_inside_42 ⟨(Nat.zero_le _), (Nat.zero_le _)⟩ ?_
  have hq42 := tg_rd_lt f9 n9 6
  refine lv_istore_n (lv' := [(3, .int (nI (tg_rd f9 n9 6))), (2, .int (nI 0)), (0, .ref o), (1, .int (nI n9))]) hx hb dX12_inside_45 rfl hl (by decide) rfl (fun ls hl => ?_)
  refine lv_iload_n hx hb dX12_inside_46 rfl (lv_at hl 0 rfl) ?_
  refine nv_bipush (k := 58) hx hb dX12_inside_47 (by decide) ?_
  have J57 : ∀ ls : Array Slot, lv_has ls 15 [(3, .int (nI (tg_rd f9 n9 6))), (2, .int (nI 0)), (0, .ref o), (1, .int (nI n9))] → W p l e (rmw 6 0 0 141) s m args below meth c H locs 0 0 Q (F0 m 57 ls [.int (nI q)]) := by
    intro ls hl
    refine lv_istore (lv' := [(4, .int (nI q)), (3, .int (nI (tg_rd f9 n9 6))), (2, .int (nI 0)), (0, .ref o), (1, .int (nI n9))]) hx hb dX12_inside_57 hl (by decide) rfl (fun ls hl => ?_)
    refine lv_aload_n hx hb dX12_inside_59 rfl (lv_at hl 3 rfl) ?_
    refine va_get (ci := 9) (C := RX12) (T := TX12) (N := 28) hx hb ht iFX12 hown hK hP 0 rfl rfl 4 (by decide) (ht _ kw4_114) (fun _ h9 => h9) rfl dX12_inside_60 ?_
    refine nv_bipush (k := 8) hx hb dX12_inside_63 (by decide) ?_
    refine ro_S S (c_X12_eight (AR_of (ws := mW cy o ad 0 os n9 bits F G u nb ns T M id ft fo f9 g pt ih il ip pn op so fa fp st en dr ++ tl) (kr := 3) (N := 1600) (n := n9) rfl (by omega) (by omega)) (i := 8) (by omega)) kw5_69 yv_X12_eight ⟨Nat.le_of_ble_eq_true rfl, Nat.le_of_ble_eq_true rfl⟩ hK hP rfl hl.1 rfl (Nat.le_of_ble_eq_true rfl) dX12_inside_65 ⟨(Nat.zero_le _), (Nat.zero_le _)⟩ ?_
    have hq65 := tg_ei_lt f9 n9 8
    rw [← ehi]
    refine lv_lstore (lv' := [(5, .long (lN (hi))), (4, .int (nI q)), (3, .int (nI (tg_rd f9 n9 6))), (2, .int (nI 0)), (0, .ref o), (1, .int (nI n9))]) hx hb dX12_inside_68 hl (by decide) rfl (fun ls hl => ?_)
    refine lv_aload_n hx hb dX12_inside_70 rfl (lv_at hl 4 rfl) ?_
    refine va_get (ci := 9) (C := RX12) (T := TX12) (N := 28) hx hb ht iFX12 hown hK hP 0 rfl rfl 4 (by decide) (ht _ kw4_114) (fun _ h9 => h9) rfl dX12_inside_71 ?_
    refine nv_bipush (k := 16) hx hb dX12_inside_74 (by decide) ?_
    refine ro_S S (c_X12_eight (AR_of (ws := mW cy o ad 0 os n9 bits F G u nb ns T M id ft fo f9 g pt ih il ip pn op so fa fp st en dr ++ tl) (kr := 3) (N := 1600) (n := n9) rfl (by omega) (by omega)) (i := 16) (by omega)) kw5_69 yv_X12_eight ⟨Nat.le_of_ble_eq_true rfl, Nat.le_of_ble_eq_true rfl⟩ hK hP rfl hl.1 rfl (Nat.le_of_ble_eq_true rfl) dX12_inside_76 ⟨(Nat.zero_le _), (Nat.zero_le _)⟩ ?_
    have hq76 := tg_ei_lt f9 n9 16
    rw [← elo]
    refine lv_lstore (lv' := [(7, .long (lN (lo))), (5, .long (lN (hi))), (4, .int (nI q)), (3, .int (nI (tg_rd f9 n9 6))), (2, .int (nI 0)), (0, .ref o), (1, .int (nI n9))]) hx hb dX12_inside_79 hl (by decide) rfl (fun ls hl => ?_)
    refine lv_iload hx hb dX12_inside_81 (lv_at hl 2 rfl) ?_
    refine nv_iconst (k := 1) hx hb dX12_inside_83 rfl ?_
    have J108 : ∀ ls : Array Slot, lv_has ls 15 [(7, .long (lN (lo))), (5, .long (lN (hi))), (4, .int (nI q)), (3, .int (nI (tg_rd f9 n9 6))), (2, .int (nI 0)), (0, .ref o), (1, .int (nI n9))] → W p l e (rmw 6 0 0 141) s m args below meth c H locs 0 0 Q (F0 m 108 ls [.int (nI port)]) := by
      intro ls hl
      refine lv_istore (lv' := [(9, .int (nI port)), (7, .long (lN (lo))), (5, .long (lN (hi))), (4, .int (nI q)), (3, .int (nI (tg_rd f9 n9 6))), (2, .int (nI 0)), (0, .ref o), (1, .int (nI n9))]) hx hb dX12_inside_108 hl (by decide) rfl (fun ls hl => ?_)
      refine lv_aload_n hx hb dX12_inside_110 rfl (lv_at hl 6 rfl) ?_
      refine lv_aload_n hx hb dX12_inside_111 rfl (lv_at hl 6 rfl) ?_
      refine va_get (ci := 9) (C := RX12) (T := TX12) (N := 28) hx hb ht iFX12 hown hK hP 0 rfl rfl 4 (by decide) (ht _ kw4_114) (fun _ h9 => h9) rfl dX12_inside_112 ?_
      refine nv_bipush (k := 24) hx hb dX12_inside_115 (by decide) ?_
      refine ro_S S (c_X12_eight (AR_of (ws := mW cy o ad 0 os n9 bits F G u nb ns T M id ft fo f9 g pt ih il ip pn op so fa fp st en dr ++ tl) (kr := 3) (N := 1600) (n := n9) rfl (by omega) (by omega)) (i := 24) (by omega)) kw5_69 yv_X12_eight ⟨Nat.le_of_ble_eq_true rfl, Nat.le_of_ble_eq_true rfl⟩ hK hP rfl hl.1 rfl (Nat.le_of_ble_eq_true rfl) dX12_inside_117 ⟨(Nat.zero_le _), (Nat.zero_le _)⟩ ?_
      have hq117 := tg_ei_lt f9 n9 24
      refine lv_aload_n hx hb dX12_inside_120 rfl (lv_at hl 6 rfl) ?_
      refine va_get (ci := 9) (C := RX12) (T := TX12) (N := 28) hx hb ht iFX12 hown hK hP 0 rfl rfl 4 (by decide) (ht _ kw4_114) (fun _ h9 => h9) rfl dX12_inside_121 ?_
      refine nv_bipush (k := 32) hx hb dX12_inside_124 (by decide) ?_
      refine ro_S S (c_X12_eight (AR_of (ws := mW cy o ad 0 os n9 bits F G u nb ns T M id ft fo f9 g pt ih il ip pn op so fa fp st en dr ++ tl) (kr := 3) (N := 1600) (n := n9) rfl (by omega) (by omega)) (i := 32) (by omega)) kw5_69 yv_X12_eight ⟨Nat.le_of_ble_eq_true rfl, Nat.le_of_ble_eq_true rfl⟩ hK hP rfl hl.1 rfl (Nat.le_of_ble_eq_true rfl) dX12_inside_126 ⟨(Nat.zero_le _), (Nat.zero_le _)⟩ ?_
      have hq126 := tg_ei_lt f9 n9 32
      refine ro_V S (c_X12_drawnOf (ws := mW cy o ad 0 os n9 bits F G u nb ns T M id ft fo f9 g pt ih il ip pn op so fa fp st en dr ++ tl) (km := 0) rfl rfl (by omega) (hi := tg_ei (tg_rd f9 n9) 24) (lo := tg_ei (tg_rd f9 n9) 32) (by omega) (by omega)) kw4_237 yv_X12_drawnOf ⟨Nat.le_of_ble_eq_true rfl, Nat.le_of_ble_eq_true rfl⟩ hK hP (va_recv hK hP (ci := 9) (q0 := 0) rfl rfl) rfl hl.1 rfl (Nat.le_of_ble_eq_true rfl) dX12_inside_129 ⟨(Nat.zero_le _), (Nat.zero_le _)⟩ ?_
      have hq129 := tg_dr_lt (bits := bits) (hi := tg_ei (tg_rd f9 n9) 24) (lo := tg_ei (tg_rd f9 n9) 32) (by omega)
      rw [← efar]
      refine lv_istore (lv' := [(10, .int (nI far)), (9, .int (nI port)), (7, .long (lN (lo))), (5, .long (lN (hi))), (4, .int (nI q)), (3, .int (nI (tg_rd f9 n9 6))), (2, .int (nI 0)), (0, .ref o), (1, .int (nI n9))]) hx hb dX12_inside_132 hl (by decide) rfl (fun ls hl => ?_)
      refine lv_iload hx hb dX12_inside_134 (lv_at hl 4 rfl) ?_
      refine nv_iconst (k := 1) hx hb dX12_inside_136 rfl ?_
      have J153 : ∀ ls : Array Slot, lv_has ls 15 [(10, .int (nI far)), (9, .int (nI port)), (7, .long (lN (lo))), (5, .long (lN (hi))), (4, .int (nI q)), (3, .int (nI (tg_rd f9 n9 6))), (2, .int (nI 0)), (0, .ref o), (1, .int (nI n9))] → W p l e (rmw 6 0 0 141) s m args below meth c H locs 0 0 Q (F0 m 153 ls [.int (nI fpt)]) := by
        intro ls hl
        refine lv_istore (lv' := [(11, .int (nI fpt)), (10, .int (nI far)), (9, .int (nI port)), (7, .long (lN (lo))), (5, .long (lN (hi))), (4, .int (nI q)), (3, .int (nI (tg_rd f9 n9 6))), (2, .int (nI 0)), (0, .ref o), (1, .int (nI n9))]) hx hb dX12_inside_153 hl (by decide) rfl (fun ls hl => ?_)
        refine lv_iload hx hb dX12_inside_155 (lv_at hl 5 rfl) ?_
        refine nv_bipush (k := 6) hx hb dX12_inside_157 (by decide) ?_
        have J175 : ∀ ls : Array Slot, lv_has ls 15 [(11, .int (nI fpt)), (10, .int (nI far)), (9, .int (nI port)), (7, .long (lN (lo))), (5, .long (lN (hi))), (4, .int (nI q)), (3, .int (nI (tg_rd f9 n9 6))), (2, .int (nI 0)), (0, .ref o), (1, .int (nI n9))] → W p l e (rmw 6 0 0 141) s m args below meth c H locs 0 0 Q (F0 m 175 ls [.int (nI (3 - ev))]) := by
          intro ls hl
          refine lv_istore (lv' := [(12, .int (nI (3 - ev))), (11, .int (nI fpt)), (10, .int (nI far)), (9, .int (nI port)), (7, .long (lN (lo))), (5, .long (lN (hi))), (4, .int (nI q)), (3, .int (nI (tg_rd f9 n9 6))), (2, .int (nI 0)), (0, .ref o), (1, .int (nI n9))]) hx hb dX12_inside_175 hl (by decide) rfl (fun ls hl => ?_)
          refine lv_aload_n hx hb dX12_inside_177 rfl (lv_at hl 9 rfl) ?_
          refine lv_iload hx hb dX12_inside_178 (lv_at hl 6 rfl) ?_
          refine lv_lload hx hb dX12_inside_180 (lv_at hl 5 rfl) ?_
          refine lv_lload hx hb dX12_inside_182 (lv_at hl 4 rfl) ?_
          refine lv_iload hx hb dX12_inside_184 (lv_at hl 3 rfl) ?_
          refine ro_V S (c_X12_findInner (ws := mW cy o ad 0 os n9 bits F G u nb ns T M id ft fo f9 g pt ih il ip pn op so fa fp st en dr ++ tl) (km := 0) rfl rfl rfl rfl rfl rfl (k_pt := 5) rfl hb_pt (k_ih := 6) rfl hb_ih (k_il := 7) rfl hb_il (k_ip := 8) rfl hb_ip hnb (q := q) (hi := hi) (lo := lo) (port := port) (by omega) (by omega) (by omega) (by omega)) kw5_82 yv_X12_findInner ⟨Nat.le_of_ble_eq_true rfl, Nat.le_of_ble_eq_true rfl⟩ hK hP (va_recv hK hP (ci := 9) (q0 := 0) rfl rfl) rfl hl.1 rfl (Nat.le_of_ble_eq_true rfl) dX12_inside_186 ⟨(Nat.zero_le _), (Nat.zero_le _)⟩ ?_
          rw [fb_at (ws := 0) hfb hb9]
          refine lv_istore (lv' := [(13, .int (nI b)), (12, .int (nI (3 - ev))), (11, .int (nI fpt)), (10, .int (nI far)), (9, .int (nI port)), (7, .long (lN (lo))), (5, .long (lN (hi))), (4, .int (nI q)), (3, .int (nI (tg_rd f9 n9 6))), (2, .int (nI 0)), (0, .ref o), (1, .int (nI n9))]) hx hb dX12_inside_189 hl (by decide) rfl (fun ls hl => ?_)
          refine lv_iload hx hb dX12_inside_191 (lv_at hl 0 rfl) ?_
          refine nv_if_ge (tgt := 200) hx hb dX12_inside_193 (by decide) (by omega) ?_
          refine lv_aload_n hx hb dX12_inside_200 rfl (lv_at hl 10 rfl) ?_
          refine lv_iload hx hb dX12_inside_201 (lv_at hl 0 rfl) ?_
          refine lv_iload hx hb dX12_inside_203 (lv_at hl 3 rfl) ?_
          refine lv_iload hx hb dX12_inside_205 (lv_at hl 2 rfl) ?_
          refine ro_V S (c_X12_findSession (ws := mW cy o ad 0 os n9 bits F G u nb ns T M id ft fo f9 g pt ih il ip pn op so fa fp st en dr ++ tl) (km := 0) rfl rfl rfl rfl rfl (k_so := 11) rfl hb_so (k_fa := 12) rfl hb_fa (k_fp := 13) rfl hb_fp hns (b := b) (x := far) (port := fpt) (by omega) (by omega) (by omega)) kw5_86 yv_X12_findSession ⟨Nat.le_of_ble_eq_true rfl, Nat.le_of_ble_eq_true rfl⟩ hK hP (va_recv hK hP (ci := 9) (q0 := 0) rfl rfl) rfl hl.1 rfl (Nat.le_of_ble_eq_true rfl) dX12_inside_207 ⟨(Nat.zero_le _), (Nat.zero_le _)⟩ ?_
          rw [fb_no hfj]
          refine lv_istore (lv' := [(14, .int (-1)), (13, .int (nI b)), (12, .int (nI (3 - ev))), (11, .int (nI fpt)), (10, .int (nI far)), (9, .int (nI port)), (7, .long (lN (lo))), (5, .long (lN (hi))), (4, .int (nI q)), (3, .int (nI (tg_rd f9 n9 6))), (2, .int (nI 0)), (0, .ref o), (1, .int (nI n9))]) hx hb dX12_inside_210 hl (by decide) rfl (fun ls hl => ?_)
          refine lv_iload hx hb dX12_inside_212 (lv_at hl 0 rfl) ?_
          refine lv_if_ge (tgt := 261) hx hb dX12_inside_214 (by decide) (fun h9 => absurd h9 (by decide)) (fun _ => ?_)
          refine lv_iload hx hb dX12_inside_217 (lv_at hl 8 rfl) ?_
          refine nv_bipush (k := 6) hx hb dX12_inside_219 (by decide) ?_
          refine nv_icmp_ne (tgt := 230) hx hb dX12_inside_221 (by decide) (by omega) (by omega) (fun h221 => ?_) (fun h221 => ?_)
          · skip
            refine lv_aload_n hx hb dX12_inside_230 rfl (lv_at hl 11 rfl) ?_
            refine va_get (ci := 9) (C := RX12) (T := TX12) (N := 28) hx hb ht iFX12 hown hK hP 0 rfl rfl 18 (by decide) (ht _ kw4_128) (fun _ h9 => h9) rfl dX12_inside_231 ?_
            refine nv_sipush (k := 128) hx hb dX12_inside_234 (by decide) ?_
            refine nv_icmp_eq (tgt := 254) hx hb dX12_inside_237 (by decide) (by omega) (by omega) (fun h237 => ?_) (fun h237 => ?_)
            · skip
              exfalso; omega
            refine lv_iload hx hb dX12_inside_240 (lv_at hl 1 rfl) ?_
            refine nv_if_ge (tgt := 261) hx hb dX12_inside_242 (by decide) (by omega) ?_
            refine lv_iload hx hb dX12_inside_261 (lv_at hl 1 rfl) ?_
            refine nv_if_ge (tgt := 280) hx hb dX12_inside_263 (by decide) (by omega) ?_
            refine lv_iload hx hb dX12_inside_280 (lv_at hl 0 rfl) ?_
            refine lv_if_ge (tgt := 301) hx hb dX12_inside_282 (by decide) (fun h9 => absurd h9 (by decide)) (fun _ => ?_)
            refine lv_aload_n hx hb dX12_inside_285 rfl (lv_at hl 11 rfl) ?_
            refine lv_iload hx hb dX12_inside_286 (lv_at hl 1 rfl) ?_
            refine lv_iload hx hb dX12_inside_288 (lv_at hl 4 rfl) ?_
            refine lv_iload hx hb dX12_inside_290 (lv_at hl 3 rfl) ?_
            refine nv_iconst (k := 1) hx hb dX12_inside_292 rfl ?_
            refine wr_V S (c_X12_makeSession (b := b) (x := far) (port := fpt) (ins := true) (by omega) (by omega) hfar (by omega) (hb_pt b)) kw5_102 yv_X12_makeSession ⟨Nat.le_of_ble_eq_true rfl, Nat.le_of_ble_eq_true rfl⟩ hK hP hD hS hA (va_recv hK hP (ci := 9) (q0 := 0) rfl rfl) rfl hl.1 rfl (Nat.le_of_ble_eq_true rfl) dX12_inside_293 ⟨Nat.zero_le _, Nat.zero_le _⟩ (fun u4 H locs hu4 hP hD hS => ?_)
            rw [hptb] at hP hD
            have hP : va_P D vwCl (mW cy o ad 0 os n9 bits F G u nb (ns + 1) T M id ft fo f9 g pt ih il ip pn op (va_up so ns b) (va_up fa ns far) (va_up fp ns fpt) (va_up st ns (tg_first_st q true)) (va_up en ns (T + tg_life (tg_first_st q true) q)) dr ++ tl) H := hP
            have hD : va_D A (mW cy o ad 0 os n9 bits F G u nb (ns + 1) T M id ft fo f9 g pt ih il ip pn op (va_up so ns b) (va_up fa ns far) (va_up fp ns fpt) (va_up st ns (tg_first_st q true)) (va_up en ns (T + tg_life (tg_first_st q true) q)) dr ++ tl) := hD
            refine W.eq (g2 := F0 m 296 ls [.int (nI ns)]) rfl ?_
            refine lv_istore (lv' := [(14, .int (nI ns)), (13, .int (nI b)), (12, .int (nI (3 - ev))), (11, .int (nI fpt)), (10, .int (nI far)), (9, .int (nI port)), (7, .long (lN (lo))), (5, .long (lN (hi))), (4, .int (nI q)), (3, .int (nI (tg_rd f9 n9 6))), (2, .int (nI 0)), (0, .ref o), (1, .int (nI n9))]) hx hb dX12_inside_296 hl (by decide) rfl (fun ls hl => ?_)
            refine lv_goto (tgt := 310) hx hb dX12_inside_298 (by decide) ?_
            refine lv_aload_n hx hb dX12_inside_310 rfl (lv_at hl 11 rfl) ?_
            refine lv_iload hx hb dX12_inside_311 (lv_at hl 8 rfl) ?_
            refine lv_iload hx hb dX12_inside_313 (lv_at hl 1 rfl) ?_
            refine lv_iload hx hb dX12_inside_315 (lv_at hl 4 rfl) ?_
            refine wr_V S (c_X12_makeInner (q := q) (b := b) (ta := far) (sa := sa9) hq3 (by omega) (hb_pn4 b) hga hsa9 hfar (hb_op b) (by omega) (by omega) hsum hin.1.2.2.2.2 hid) kw5_118 yv_X12_makeInner ⟨Nat.le_of_ble_eq_true rfl, Nat.le_of_ble_eq_true rfl⟩ hK hP hD hS hA (va_recv hK hP (ci := 9) (q0 := 0) rfl rfl) rfl hl.1 rfl (Nat.le_of_ble_eq_true rfl) dX12_inside_317 ⟨Nat.zero_le _, Nat.zero_le _⟩ (fun u6 H locs hu6 hP hD hS => ?_)
            have hP : va_P D vwCl (mW cy o ad 0 (n9 - 20) n9 bits F G u nb (ns + 1) T M (tg_id n9 id) ft u6 f9 g pt ih il ip pn op (va_up so ns b) (va_up fa ns far) (va_up fp ns fpt) (va_up st ns (tg_first_st q true)) (va_up en ns (T + tg_life (tg_first_st q true) q)) dr ++ tl) H := hP
            have hD : va_D A (mW cy o ad 0 (n9 - 20) n9 bits F G u nb (ns + 1) T M (tg_id n9 id) ft u6 f9 g pt ih il ip pn op (va_up so ns b) (va_up fa ns far) (va_up fp ns fpt) (va_up st ns (tg_first_st q true)) (va_up en ns (T + tg_life (tg_first_st q true) q)) dr ++ tl) := hD
            refine W.eq (g2 := F0 m 320 ls []) rfl ?_
            refine lv_aload_n hx hb dX12_inside_320 rfl (lv_at hl 11 rfl) ?_
            refine lv_dup hx hb dX12_inside_321 rfl ?_
            refine va_get (ci := 9) (C := RX12) (T := TX12) (N := 28) hx hb ht iFX12 hown hK hP 0 rfl rfl 25 (by decide) (ht _ kw4_135) (fun _ h9 => h9) rfl dX12_inside_322 ?_
            refine nv_iconst (k := 1) hx hb dX12_inside_325 rfl ?_
            refine nv_iadd hx hb dX12_inside_326 ?_
            refine va_put (ci := 9) (C := RX12) (T := TX12) (N := 28) (ty := tyX12 25) hx hb ht iFX12 tyX12 tyX12_ok nmX12 hown hK hP hD hS 0 rfl rfl 25 (by decide) (ht _ kw4_135) (fun _ h9 => h9) rfl (by decide +kernel) (by first | rfl | decide) (by first | rfl | decide) (Nat.le_of_ble_eq_true rfl) dX12_inside_327 (fun H locs hP hD hS => ?_)
            have hP : va_P D vwCl (mW cy o ad 0 (n9 - 20) n9 bits F G u nb (ns + 1) T (M + 1) (tg_id n9 id) ft u6 f9 g pt ih il ip pn op (va_up so ns b) (va_up fa ns far) (va_up fp ns fpt) (va_up st ns (tg_first_st q true)) (va_up en ns (T + tg_life (tg_first_st q true) q)) dr ++ tl) H := hP
            have hD : va_D A (mW cy o ad 0 (n9 - 20) n9 bits F G u nb (ns + 1) T (M + 1) (tg_id n9 id) ft u6 f9 g pt ih il ip pn op (va_up so ns b) (va_up fa ns far) (va_up fp ns fpt) (va_up st ns (tg_first_st q true)) (va_up en ns (T + tg_life (tg_first_st q true) q)) dr ++ tl) := hD
            refine lv_aload_n hx hb dX12_inside_330 rfl (lv_at hl 11 rfl) ?_
            refine va_get (ci := 9) (C := RX12) (T := TX12) (N := 28) hx hb ht iFX12 hown hK hP 0 rfl rfl 3 (by decide) (ht _ kw4_113) (fun _ h9 => h9) rfl dX12_inside_331 ?_
            exact hend (f9, u6) rfl ⟨hf8, hu6⟩ hP hD hS dX12_inside_334
          refine lv_iload hx hb dX12_inside_224 (lv_at hl 2 rfl) ?_
          refine nv_iconst (k := 1) hx hb dX12_inside_226 rfl ?_
          refine nv_icmp_ne (tgt := 254) hx hb dX12_inside_227 (by decide) (by omega) (by omega) (fun h227 => ?_) (fun h227 => ?_)
          · skip
            exfalso; omega
          refine lv_aload_n hx hb dX12_inside_230 rfl (lv_at hl 11 rfl) ?_
          refine va_get (ci := 9) (C := RX12) (T := TX12) (N := 28) hx hb ht iFX12 hown hK hP 0 rfl rfl 18 (by decide) (ht _ kw4_128) (fun _ h9 => h9) rfl dX12_inside_231 ?_
          refine nv_sipush (k := 128) hx hb dX12_inside_234 (by decide) ?_
          refine nv_icmp_eq (tgt := 254) hx hb dX12_inside_237 (by decide) (by omega) (by omega) (fun h237 => ?_) (fun h237 => ?_)
          · skip
            exfalso; omega
          refine lv_iload hx hb dX12_inside_240 (lv_at hl 1 rfl) ?_
          refine nv_if_ge (tgt := 261) hx hb dX12_inside_242 (by decide) (by omega) ?_
          refine lv_iload hx hb dX12_inside_261 (lv_at hl 1 rfl) ?_
          refine nv_if_ge (tgt := 280) hx hb dX12_inside_263 (by decide) (by omega) ?_
          refine lv_iload hx hb dX12_inside_280 (lv_at hl 0 rfl) ?_
          refine lv_if_ge (tgt := 301) hx hb dX12_inside_282 (by decide) (fun h9 => absurd h9 (by decide)) (fun _ => ?_)
          refine lv_aload_n hx hb dX12_inside_285 rfl (lv_at hl 11 rfl) ?_
          refine lv_iload hx hb dX12_inside_286 (lv_at hl 1 rfl) ?_
          refine lv_iload hx hb dX12_inside_288 (lv_at hl 4 rfl) ?_
          refine lv_iload hx hb dX12_inside_290 (lv_at hl 3 rfl) ?_
          refine nv_iconst (k := 1) hx hb dX12_inside_292 rfl ?_
          refine wr_V S (c_X12_makeSession (b := b) (x := far) (port := fpt) (ins := true) (by omega) (by omega) hfar (by omega) (hb_pt b)) kw5_102 yv_X12_makeSession ⟨Nat.le_of_ble_eq_true rfl, Nat.le_of_ble_eq_true rfl⟩ hK hP hD hS hA (va_recv hK hP (ci := 9) (q0 := 0) rfl rfl) rfl hl.1 rfl (Nat.le_of_ble_eq_true rfl) dX12_inside_293 ⟨Nat.zero_le _, Nat.zero_le _⟩ (fun u4 H locs hu4 hP hD hS => ?_)
          rw [hptb] at hP hD
          have hP : va_P D vwCl (mW cy o ad 0 os n9 bits F G u nb (ns + 1) T M id ft fo f9 g pt ih il ip pn op (va_up so ns b) (va_up fa ns far) (va_up fp ns fpt) (va_up st ns (tg_first_st q true)) (va_up en ns (T + tg_life (tg_first_st q true) q)) dr ++ tl) H := hP
          have hD : va_D A (mW cy o ad 0 os n9 bits F G u nb (ns + 1) T M id ft fo f9 g pt ih il ip pn op (va_up so ns b) (va_up fa ns far) (va_up fp ns fpt) (va_up st ns (tg_first_st q true)) (va_up en ns (T + tg_life (tg_first_st q true) q)) dr ++ tl) := hD
          refine W.eq (g2 := F0 m 296 ls [.int (nI ns)]) rfl ?_
          refine lv_istore (lv' := [(14, .int (nI ns)), (13, .int (nI b)), (12, .int (nI (3 - ev))), (11, .int (nI fpt)), (10, .int (nI far)), (9, .int (nI port)), (7, .long (lN (lo))), (5, .long (lN (hi))), (4, .int (nI q)), (3, .int (nI (tg_rd f9 n9 6))), (2, .int (nI 0)), (0, .ref o), (1, .int (nI n9))]) hx hb dX12_inside_296 hl (by decide) rfl (fun ls hl => ?_)
          refine lv_goto (tgt := 310) hx hb dX12_inside_298 (by decide) ?_
          refine lv_aload_n hx hb dX12_inside_310 rfl (lv_at hl 11 rfl) ?_
          refine lv_iload hx hb dX12_inside_311 (lv_at hl 8 rfl) ?_
          refine lv_iload hx hb dX12_inside_313 (lv_at hl 1 rfl) ?_
          refine lv_iload hx hb dX12_inside_315 (lv_at hl 4 rfl) ?_
          refine wr_V S (c_X12_makeInner (q := q) (b := b) (ta := far) (sa := sa9) hq3 (by omega) (hb_pn4 b) hga hsa9 hfar (hb_op b) (by omega) (by omega) hsum hin.1.2.2.2.2 hid) kw5_118 yv_X12_makeInner ⟨Nat.le_of_ble_eq_true rfl, Nat.le_of_ble_eq_true rfl⟩ hK hP hD hS hA (va_recv hK hP (ci := 9) (q0 := 0) rfl rfl) rfl hl.1 rfl (Nat.le_of_ble_eq_true rfl) dX12_inside_317 ⟨Nat.zero_le _, Nat.zero_le _⟩ (fun u6 H locs hu6 hP hD hS => ?_)
          have hP : va_P D vwCl (mW cy o ad 0 (n9 - 20) n9 bits F G u nb (ns + 1) T M (tg_id n9 id) ft u6 f9 g pt ih il ip pn op (va_up so ns b) (va_up fa ns far) (va_up fp ns fpt) (va_up st ns (tg_first_st q true)) (va_up en ns (T + tg_life (tg_first_st q true) q)) dr ++ tl) H := hP
          have hD : va_D A (mW cy o ad 0 (n9 - 20) n9 bits F G u nb (ns + 1) T M (tg_id n9 id) ft u6 f9 g pt ih il ip pn op (va_up so ns b) (va_up fa ns far) (va_up fp ns fpt) (va_up st ns (tg_first_st q true)) (va_up en ns (T + tg_life (tg_first_st q true) q)) dr ++ tl) := hD
          refine W.eq (g2 := F0 m 320 ls []) rfl ?_
          refine lv_aload_n hx hb dX12_inside_320 rfl (lv_at hl 11 rfl) ?_
          refine lv_dup hx hb dX12_inside_321 rfl ?_
          refine va_get (ci := 9) (C := RX12) (T := TX12) (N := 28) hx hb ht iFX12 hown hK hP 0 rfl rfl 25 (by decide) (ht _ kw4_135) (fun _ h9 => h9) rfl dX12_inside_322 ?_
          refine nv_iconst (k := 1) hx hb dX12_inside_325 rfl ?_
          refine nv_iadd hx hb dX12_inside_326 ?_
          refine va_put (ci := 9) (C := RX12) (T := TX12) (N := 28) (ty := tyX12 25) hx hb ht iFX12 tyX12 tyX12_ok nmX12 hown hK hP hD hS 0 rfl rfl 25 (by decide) (ht _ kw4_135) (fun _ h9 => h9) rfl (by decide +kernel) (by first | rfl | decide) (by first | rfl | decide) (Nat.le_of_ble_eq_true rfl) dX12_inside_327 (fun H locs hP hD hS => ?_)
          have hP : va_P D vwCl (mW cy o ad 0 (n9 - 20) n9 bits F G u nb (ns + 1) T (M + 1) (tg_id n9 id) ft u6 f9 g pt ih il ip pn op (va_up so ns b) (va_up fa ns far) (va_up fp ns fpt) (va_up st ns (tg_first_st q true)) (va_up en ns (T + tg_life (tg_first_st q true) q)) dr ++ tl) H := hP
          have hD : va_D A (mW cy o ad 0 (n9 - 20) n9 bits F G u nb (ns + 1) T (M + 1) (tg_id n9 id) ft u6 f9 g pt ih il ip pn op (va_up so ns b) (va_up fa ns far) (va_up fp ns fpt) (va_up st ns (tg_first_st q true)) (va_up en ns (T + tg_life (tg_first_st q true) q)) dr ++ tl) := hD
          refine lv_aload_n hx hb dX12_inside_330 rfl (lv_at hl 11 rfl) ?_
          refine va_get (ci := 9) (C := RX12) (T := TX12) (N := 28) hx hb ht iFX12 hown hK hP 0 rfl rfl 3 (by decide) (ht _ kw4_113) (fun _ h9 => h9) rfl dX12_inside_331 ?_
          exact hend (f9, u6) rfl ⟨hf8, hu6⟩ hP hD hS dX12_inside_334
        refine nv_icmp_ne (tgt := 174) hx hb dX12_inside_159 (by decide) (by omega) (by omega) (fun h159 => ?_) (fun h159 => ?_)
        · skip
          refine nv_iconst (k := 3) hx hb dX12_inside_174 rfl ?_
          refine W.eq (g2 := F0 m 175 ls [.int (nI (3 - ev))]) (congrArg (fun z9 => F0 m 175 ls [.int (nI z9)]) (show 3 = 3 - ev from (by rw [eev, ev_k (q := q)]; split <;> first | rfl | (exfalso; omega)))) ?_
          exact J175 ls (lv_sub hl [0, 1, 2, 3, 4, 5, 6, 7, 8, 9] rfl)
        refine lv_aload_n hx hb dX12_inside_162 rfl (lv_at hl 8 rfl) ?_
        refine va_get (ci := 9) (C := RX12) (T := TX12) (N := 28) hx hb ht iFX12 hown hK hP 0 rfl rfl 4 (by decide) (ht _ kw4_114) (fun _ h9 => h9) rfl dX12_inside_163 ?_
        refine nv_bipush (k := 40) hx hb dX12_inside_166 (by decide) ?_
        refine ro_S S (c_X12_kindOf (AR_of (ws := mW cy o ad 0 os n9 bits F G u nb ns T M id ft fo f9 g pt ih il ip pn op so fa fp st en dr ++ tl) (kr := 3) (N := 1600) (n := n9) rfl (by omega) (by omega)) (hd := 40) (by omega)) kw5_79 yv_X12_kindOf ⟨Nat.le_of_ble_eq_true rfl, Nat.le_of_ble_eq_true rfl⟩ hK hP rfl hl.1 rfl (Nat.le_of_ble_eq_true rfl) dX12_inside_168 ⟨(Nat.zero_le _), (Nat.zero_le _)⟩ ?_
        refine lv_goto (tgt := 175) hx hb dX12_inside_171 (by decide) ?_
        refine W.eq (g2 := F0 m 175 ls [.int (nI (3 - ev))]) (congrArg (fun z9 => F0 m 175 ls [.int (nI z9)]) (show 3 - tg_event (tg_rd f9 n9) 40 6 = 3 - ev from (by rw [eev, ev_k (q := q)]; split <;> first | rfl | (exfalso; omega)))) ?_
        exact J175 ls (lv_sub hl [0, 1, 2, 3, 4, 5, 6, 7, 8, 9] rfl)
      refine nv_icmp_ne (tgt := 144) hx hb dX12_inside_137 (by decide) (by omega) (by omega) (fun h137 => ?_) (fun h137 => ?_)
      · skip
        refine lv_aload_n hx hb dX12_inside_144 rfl (lv_at hl 7 rfl) ?_
        refine va_get (ci := 9) (C := RX12) (T := TX12) (N := 28) hx hb ht iFX12 hown hK hP 0 rfl rfl 4 (by decide) (ht _ kw4_114) (fun _ h9 => h9) rfl dX12_inside_145 ?_
        refine nv_bipush (k := 42) hx hb dX12_inside_148 (by decide) ?_
        refine ro_S S (c_X12_two (AR_of (ws := mW cy o ad 0 os n9 bits F G u nb ns T M id ft fo f9 g pt ih il ip pn op so fa fp st en dr ++ tl) (kr := 3) (N := 1600) (n := n9) rfl (by omega) (by omega)) (i := 42) (by omega)) kw5_44 yv_X12_two ⟨Nat.le_of_ble_eq_true rfl, Nat.le_of_ble_eq_true rfl⟩ hK hP rfl hl.1 rfl (Nat.le_of_ble_eq_true rfl) dX12_inside_150 ⟨(Nat.zero_le _), (Nat.zero_le _)⟩ ?_
        have hq150 := tg_pr_lt f9 n9 42
        refine W.eq (g2 := F0 m 153 ls [.int (nI fpt)]) (congrArg (fun z9 => F0 m 153 ls [.int (nI z9)]) (show tg_pr (tg_rd f9 n9) 42 = fpt from (by rw [efpt]; unfold tg_dpa; (repeat' split) <;> first | rfl | (exfalso; omega)))) ?_
        exact J153 ls (lv_sub hl [0, 1, 2, 3, 4, 5, 6, 7, 8] rfl)
      refine nv_iconst (k := 0) hx hb dX12_inside_140 rfl ?_
      refine lv_goto (tgt := 153) hx hb dX12_inside_141 (by decide) ?_
      refine W.eq (g2 := F0 m 153 ls [.int (nI fpt)]) (congrArg (fun z9 => F0 m 153 ls [.int (nI z9)]) (show 0 = fpt from (by rw [efpt]; unfold tg_dpa; (repeat' split) <;> first | rfl | (exfalso; omega)))) ?_
      exact J153 ls (lv_sub hl [0, 1, 2, 3, 4, 5, 6, 7, 8] rfl)
    refine nv_icmp_ne (tgt := 99) hx hb dX12_inside_84 (by decide) (by omega) (by omega) (fun h84 => ?_) (fun h84 => ?_)
    · skip
      refine lv_aload_n hx hb dX12_inside_99 rfl (lv_at hl 5 rfl) ?_
      refine va_get (ci := 9) (C := RX12) (T := TX12) (N := 28) hx hb ht iFX12 hown hK hP 0 rfl rfl 4 (by decide) (ht _ kw4_114) (fun _ h9 => h9) rfl dX12_inside_100 ?_
      refine nv_bipush (k := 40) hx hb dX12_inside_103 (by decide) ?_
      refine ro_S S (c_X12_two (AR_of (ws := mW cy o ad 0 os n9 bits F G u nb ns T M id ft fo f9 g pt ih il ip pn op so fa fp st en dr ++ tl) (kr := 3) (N := 1600) (n := n9) rfl (by omega) (by omega)) (i := 40) (by omega)) kw5_44 yv_X12_two ⟨Nat.le_of_ble_eq_true rfl, Nat.le_of_ble_eq_true rfl⟩ hK hP rfl hl.1 rfl (Nat.le_of_ble_eq_true rfl) dX12_inside_105 ⟨(Nat.zero_le _), (Nat.zero_le _)⟩ ?_
      have hq105 := tg_pr_lt f9 n9 40
      refine W.eq (g2 := F0 m 108 ls [.int (nI port)]) (congrArg (fun z9 => F0 m 108 ls [.int (nI z9)]) (show tg_pr (tg_rd f9 n9) 40 = port from (by rw [eport]; unfold tg_spa; split <;> first | rfl | (exfalso; omega)))) ?_
      exact J108 ls (lv_sub hl [0, 1, 2, 3, 4, 5, 6] rfl)
    refine lv_aload_n hx hb dX12_inside_87 rfl (lv_at hl 5 rfl) ?_
    refine va_get (ci := 9) (C := RX12) (T := TX12) (N := 28) hx hb ht iFX12 hown hK hP 0 rfl rfl 4 (by decide) (ht _ kw4_114) (fun _ h9 => h9) rfl dX12_inside_88 ?_
    refine nv_bipush (k := 44) hx hb dX12_inside_91 (by decide) ?_
    refine ro_S S (c_X12_two (AR_of (ws := mW cy o ad 0 os n9 bits F G u nb ns T M id ft fo f9 g pt ih il ip pn op so fa fp st en dr ++ tl) (kr := 3) (N := 1600) (n := n9) rfl (by omega) (by omega)) (i := 44) (by omega)) kw5_44 yv_X12_two ⟨Nat.le_of_ble_eq_true rfl, Nat.le_of_ble_eq_true rfl⟩ hK hP rfl hl.1 rfl (Nat.le_of_ble_eq_true rfl) dX12_inside_93 ⟨(Nat.zero_le _), (Nat.zero_le _)⟩ ?_
    have hq93 := tg_pr_lt f9 n9 44
    refine lv_goto (tgt := 108) hx hb dX12_inside_96 (by decide) ?_
    refine W.eq (g2 := F0 m 108 ls [.int (nI port)]) (congrArg (fun z9 => F0 m 108 ls [.int (nI z9)]) (show tg_pr (tg_rd f9 n9) 44 = port from (by rw [eport]; unfold tg_spa; split <;> first | rfl | (exfalso; omega)))) ?_
    exact J108 ls (lv_sub hl [0, 1, 2, 3, 4, 5, 6] rfl)
  refine nv_icmp_ne (tgt := 56) hx hb dX12_inside_49 (by decide) (by omega) (by omega) (fun h49 => ?_) (fun h49 => ?_)
  · skip
    refine lv_iload_n hx hb dX12_inside_56 rfl (lv_at hl 0 rfl) ?_
    refine W.eq (g2 := F0 m 57 ls [.int (nI q)]) (congrArg (fun z9 => F0 m 57 ls [.int (nI z9)]) (show tg_rd f9 n9 6 = q from (by rw [eq0]; split <;> omega))) ?_
    exact J57 ls (lv_sub hl [0, 1, 2, 3] rfl)
  refine nv_iconst (k := 1) hx hb dX12_inside_52 rfl ?_
  refine lv_goto (tgt := 57) hx hb dX12_inside_53 (by decide) ?_
  refine W.eq (g2 := F0 m 57 ls [.int (nI q)]) (congrArg (fun z9 => F0 m 57 ls [.int (nI z9)]) (show 1 = q from (by rw [eq0]; split <;> omega))) ?_
  exact J57 ls (lv_sub hl [0, 1, 2, 3] rfl)
set_option maxHeartbeats 4000000 in
set_option maxRecDepth 100000 in
theorem c_X12_inside3 {l : Launch} {D : va_G} {cy : Nat → ClassId} {o : Nat} {ad : Nat → Nat} {tl : va_W} {tp os sz bits F G u nb ns T M id : Nat} {ft fo fi : Nat → UInt8} {g : Nat → Int32} {pt ih il ip pn op so fa fp st en dr : Nat → Nat} (hb_pt : ∀ i, pt i < 2 ^ 31) (hb_ih : ∀ i, ih i < 2 ^ 64) (hb_il : ∀ i, il i < 2 ^ 64) (hb_ip : ∀ i, ip i < 2 ^ 31) (hb_pn : ∀ i, pn i < 2 ^ 31) (hb_op : ∀ i, op i < 2 ^ 31) (hb_pn4 : ∀ i, pn i < 4) (hb_so : ∀ i, so i < 2 ^ 31) (hb_fa : ∀ i, fa i < 2 ^ 32) (hb_fp : ∀ i, fp i < 2 ^ 31) (hb_st : ∀ i, st i ≤ 7) (htp : tp ≤ 1600) (hos : os ≤ 1640) (hsi : SI bits F G) (hu4 : u ≤ 4) (hnb : nb ≤ 64) (hns : ns ≤ 128) {n9 : Nat} (hn9 : n9 ≤ tp) {q port far fpt ev hi lo : Nat} (eq0 : q = if tg_rd ft n9 6 = 58 then 1 else tg_rd ft n9 6) (eport : port = tg_pr (tg_rd ft n9) (40 + tg_spa q)) (efar : far = tg_dr bits (tg_ei (tg_rd ft n9) 24) (tg_ei (tg_rd ft n9) 32)) (efpt : fpt = if q = 1 then 0 else tg_pr (tg_rd ft n9) (40 + tg_dpa q)) (eev : ev = tg_event (tg_rd ft n9) 40 q) (ehi : hi = tg_ei (tg_rd ft n9) 8) (elo : lo = tg_ei (tg_rd ft n9) 16) (hz0 : tg_in (tg_rd ft n9) n9 bits F G u = 0) (hfb : ¬ tg_first (fun k => decide (pt k = q ∧ ih k = hi ∧ il k = lo ∧ ip k = port)) nb < nb) (hmay : (q ≠ 6 ∨ ev = 2) ∧ ns < 128) (hnb0 : nb < 64) {sa9 : Nat} (hsa9 : sa9 < 2 ^ 32) (hid : id < 65536) (hga : g (tg_best ih il pn nb u hi lo) = nI sa9) (hpu : tg_best ih il pn nb u hi lo < 4) (hop9 : tg_port pt pn op nb q (tg_best ih il pn nb u hi lo) port < 2 ^ 31) : WR (S := ((Nat → UInt8) × (Nat → UInt8))) l yX12_inside cX12_inside 15 (some .int) 6 0 0 141 [.ref o, .int (nI n9)] D cy (mW cy o ad tp os sz bits F G u nb ns T M id ft fo fi g pt ih il ip pn op so fa fp st en dr ++ tl) (fun u_ => some (.int (nI (n9 - 20)))) (fun z9 => (∀ k, k < n9 → z9.1 k = ft k) ∧ z9.2 = mk_four fo z9.1 n9 q id sa9 far (tg_port pt pn op nb q (tg_best ih il pn nb u hi lo) port)) (fun z9 => mW cy o ad 0 (n9 - 20) n9 bits F G u (nb + 1) (ns + 1) T (M + 1) (tg_id n9 id) ft z9.2 z9.1 g (va_up pt nb q) (va_up ih nb hi) (va_up il nb lo) (va_up ip nb port) (va_up pn nb (tg_best ih il pn nb u hi lo)) (va_up op nb (tg_port pt pn op nb q (tg_best ih il pn nb u hi lo) port)) (va_up so ns nb) (va_up fa ns far) (va_up fp ns fpt) (va_up st ns (tg_first_st q true)) (va_up en ns (T + tg_life (tg_first_st q true) q)) dr ++ tl) := by
  refine WRi (by decide) (lv0 := [(0, .ref o), (1, .int (nI n9))]) rfl (Nat.le_of_ble_eq_true rfl) ?_
  intro p e s m args below meth c ls A Q S hnm hP hK hD hS hA hend hl
  have hx := S.1
  have hb := S.2.1
  have hown : s.vm.findClass RX12 = some m.cls := S.2.2.2.1
  have ht : ∀ w ∈ lw_g, w.before args s = true := fun w h => S.2.2.2.2 w (List.mem_cons_of_mem _ h)
  have hP : va_P D vwCl (mW cy o ad tp os sz bits F G u nb ns T M id ft fo fi g pt ih il ip pn op so fa fp st en dr ++ tl) s.heap := hP
  have hu : u ≤ 4 := hu4
  refine lv_iload_n hx hb dX12_inside_0 rfl (lv_at hl 1 rfl) ?_
  refine nv_i2l hx hb (by omega) dX12_inside_1 ?_
  refine lv_lconst (v := lN 0) hx hb dX12_inside_2 (by decide) ?_
  refine lv_aload_n hx hb dX12_inside_3 rfl (lv_at hl 0 rfl) ?_
  refine va_get (ci := 9) (C := RX12) (T := TX12) (N := 28) hx hb ht iFX12 hown hK hP 0 rfl rfl 1 (by decide) (ht _ kw4_111) (fun _ h9 => h9) rfl dX12_inside_4 ?_
  refine nv_i2l hx hb (by omega) dX12_inside_7 ?_
  refine ro_S S (c_X12_isIn (v := lN (n9)) (lo := lN (0)) (hi := lN (tp))) kw5_14 yv_X12_isIn ⟨Nat.le_of_ble_eq_true rfl, Nat.le_of_ble_eq_true rfl⟩ hK hP rfl hl.1 rfl (Nat.le_of_ble_eq_true rfl) dX12_inside_8 ⟨(Nat.zero_le _), (Nat.zero_le _)⟩ ?_
  rw [show tg_isIn (lN (n9)) (lN (0)) (lN (tp)) = true from (by rw [isIn_nat (by omega) (by omega) (by omega)]; exact decide_eq_true (by omega))]
  refine nv_if_neb (tgt := 16) hx hb dX12_inside_11 (by decide) (fun _ => ?_) (fun h => absurd h (by decide))
  refine lv_aload_n hx hb dX12_inside_16 rfl (lv_at hl 0 rfl) ?_
  refine lv_iload_n hx hb dX12_inside_17 rfl (lv_at hl 1 rfl) ?_
  refine wr_V S (c_X12_begin (x := n9) (by omega)) kw5_33 yv_X12_begin ⟨Nat.le_of_ble_eq_true rfl, Nat.le_of_ble_eq_true rfl⟩ hK hP hD hS hA (va_recv hK hP (ci := 9) (q0 := 0) rfl rfl) rfl hl.1 rfl (Nat.le_of_ble_eq_true rfl) dX12_inside_18 ⟨Nat.zero_le _, Nat.zero_le _⟩ (fun u1 H locs hu1 hP hD hS => ?_)
  obtain ⟨f9, hf9⟩ : ∃ z, z = (fun k => if k < n9 then ft k else fi k) := ⟨_, rfl⟩
  rw [← hf9] at hP hD
  have hP : va_P D vwCl (mW cy o ad 0 os n9 bits F G u nb ns T M id ft fo f9 g pt ih il ip pn op so fa fp st en dr ++ tl) H := hP
  have hD : va_D A (mW cy o ad 0 os n9 bits F G u nb ns T M id ft fo f9 g pt ih il ip pn op so fa fp st en dr ++ tl) := hD
  have hf8 : ∀ k, k < n9 → f9 k = ft k := fun k hk => by rw [hf9]; exact if_pos hk
  have erd : tg_rd f9 n9 = tg_rd ft n9 := rd_cong hf8
  rw [← erd] at eq0 eport efar efpt eev ehi elo hz0
  have hin := in0 hz0
  have hq3 : q = 1 ∨ q = 6 ∨ q = 17 := by rw [eq0]; split <;> omega
  have hsum : tg_sumAt q + 2 ≤ n9 - 40 := by have h6 : q = 6 → tg_rd f9 n9 6 = 6 := (by rw [eq0]; split <;> omega); unfold tg_sumAt; (repeat' split) <;> omega
  have h620 : q = 6 → 20 ≤ n9 - 40 := by have h6 : q = 6 → tg_rd f9 n9 6 = 6 := (by rw [eq0]; split <;> omega); exact fun z => hin.1.2.2.2.1 (h6 z)
  have hport : port < 65536 := by rw [eport]; exact tg_pr_lt _ _ _
  have hfar : far < 2 ^ 32 := by rw [efar]; exact tg_dr_lt (by have := hsi.b; omega)
  have hfpt : fpt < 65536 := by rw [efpt]; split; omega; exact tg_pr_lt _ _ _
  have hev : ev ≤ 3 := by rw [eev]; exact tg_event_le _ _ _
  have hhi : hi < 2 ^ 64 := by rw [ehi]; exact tg_ei_lt _ _ _
  have hlo : lo < 2 ^ 64 := by rw [elo]; exact tg_ei_lt _ _ _
  have hu0 : 1 ≤ u := by omega
  have hbs : bits = 32 ∨ bits = 40 ∨ bits = 48 ∨ bits = 56 ∨ bits = 64 ∨ bits = 96 := by have := hsi.b; omega
  refine W.eq (g2 := F0 m 21 ls []) rfl ?_
  refine lv_aload_n hx hb dX12_inside_21 rfl (lv_at hl 0 rfl) ?_
  refine ro_V S (c_X12_lackOfInside (ws := mW cy o ad 0 os n9 bits F G u nb ns T M id ft fo f9 g pt ih il ip pn op so fa fp st en dr ++ tl) (km := 0) rfl rfl rfl rfl rfl rfl rfl (AR_of (ws := mW cy o ad 0 os n9 bits F G u nb ns T M id ft fo f9 g pt ih il ip pn op so fa fp st en dr ++ tl) (kr := 3) (N := 1600) rfl (by omega) (by omega)) hsi hu) kw5_37 yv_X12_lackOfInside ⟨Nat.le_of_ble_eq_true rfl, Nat.le_of_ble_eq_true rfl⟩ hK hP (va_recv hK hP (ci := 9) (q0 := 0) rfl rfl) rfl hl.1 rfl (Nat.le_of_ble_eq_true rfl) dX12_inside_22 ⟨(Nat.zero_le _), (Nat.zero_le _)⟩ ?_
  rw [hz0]
  refine lv_istore_n (lv' := [(2, .int (nI 0)), (0, .ref o), (1, .int (nI n9))]) hx hb dX12_inside_25 rfl hl (by decide) rfl (fun ls hl => ?_)
  refine lv_iload_n hx hb dX12_inside_26 rfl (lv_at hl 0 rfl) ?_
  refine nv_if_le (tgt := 36) hx hb dX12_inside_27 (by decide) (by omega) (fun _ => ?_) (fun h => absurd h (by decide))
  refine lv_aload_n hx hb dX12_inside_36 rfl (lv_at hl 1 rfl) ?_
  refine va_get (ci := 9) (C := RX12) (T := TX12) (N := 28) hx hb ht iFX12 hown hK hP 0 rfl rfl 4 (by decide) (ht _ kw4_114) (fun _ h9 => h9) rfl dX12_inside_37 ?_
  refine nv_bipush (k := 6) hx hb dX12_inside_40 (by decide) ?_
  refine ro_S S (c_X12_at (AR_of (ws := mW cy o ad 0 os n9 bits F G u nb ns T M id ft fo f9 g pt ih il ip pn op so fa fp st en dr ++ tl) (kr := 3) (N := 1600) (n := n9) rfl (by omega) (by omega)) (i := 6) (by omega)) kw5_41 yv_X12_at ⟨Nat.le_of_ble_eq_true rfl, Nat.le_of_ble_eq_true rfl⟩ hK hP rfl hl.1 rfl (Nat.le_of_ble_eq_true rfl) dX12_inside_42 ⟨(Nat.zero_le _), (Nat.zero_le _)⟩ ?_
  have hq42 := tg_rd_lt f9 n9 6
  refine lv_istore_n (lv' := [(3, .int (nI (tg_rd f9 n9 6))), (2, .int (nI 0)), (0, .ref o), (1, .int (nI n9))]) hx hb dX12_inside_45 rfl hl (by decide) rfl (fun ls hl => ?_)
  refine lv_iload_n hx hb dX12_inside_46 rfl (lv_at hl 0 rfl) ?_
  refine nv_bipush (k := 58) hx hb dX12_inside_47 (by decide) ?_
  have J57 : ∀ ls : Array Slot, lv_has ls 15 [(3, .int (nI (tg_rd f9 n9 6))), (2, .int (nI 0)), (0, .ref o), (1, .int (nI n9))] → W p l e (rmw 6 0 0 141) s m args below meth c H locs 0 0 Q (F0 m 57 ls [.int (nI q)]) := by
    intro ls hl
    refine lv_istore (lv' := [(4, .int (nI q)), (3, .int (nI (tg_rd f9 n9 6))), (2, .int (nI 0)), (0, .ref o), (1, .int (nI n9))]) hx hb dX12_inside_57 hl (by decide) rfl (fun ls hl => ?_)
    refine lv_aload_n hx hb dX12_inside_59 rfl (lv_at hl 3 rfl) ?_
    refine va_get (ci := 9) (C := RX12) (T := TX12) (N := 28) hx hb ht iFX12 hown hK hP 0 rfl rfl 4 (by decide) (ht _ kw4_114) (fun _ h9 => h9) rfl dX12_inside_60 ?_
    refine nv_bipush (k := 8) hx hb dX12_inside_63 (by decide) ?_
    refine ro_S S (c_X12_eight (AR_of (ws := mW cy o ad 0 os n9 bits F G u nb ns T M id ft fo f9 g pt ih il ip pn op so fa fp st en dr ++ tl) (kr := 3) (N := 1600) (n := n9) rfl (by omega) (by omega)) (i := 8) (by omega)) kw5_69 yv_X12_eight ⟨Nat.le_of_ble_eq_true rfl, Nat.le_of_ble_eq_true rfl⟩ hK hP rfl hl.1 rfl (Nat.le_of_ble_eq_true rfl) dX12_inside_65 ⟨(Nat.zero_le _), (Nat.zero_le _)⟩ ?_
    have hq65 := tg_ei_lt f9 n9 8
    rw [← ehi]
    refine lv_lstore (lv' := [(5, .long (lN (hi))), (4, .int (nI q)), (3, .int (nI (tg_rd f9 n9 6))), (2, .int (nI 0)), (0, .ref o), (1, .int (nI n9))]) hx hb dX12_inside_68 hl (by decide) rfl (fun ls hl => ?_)
    refine lv_aload_n hx hb dX12_inside_70 rfl (lv_at hl 4 rfl) ?_
    refine va_get (ci := 9) (C := RX12) (T := TX12) (N := 28) hx hb ht iFX12 hown hK hP 0 rfl rfl 4 (by decide) (ht _ kw4_114) (fun _ h9 => h9) rfl dX12_inside_71 ?_
    refine nv_bipush (k := 16) hx hb dX12_inside_74 (by decide) ?_
    refine ro_S S (c_X12_eight (AR_of (ws := mW cy o ad 0 os n9 bits F G u nb ns T M id ft fo f9 g pt ih il ip pn op so fa fp st en dr ++ tl) (kr := 3) (N := 1600) (n := n9) rfl (by omega) (by omega)) (i := 16) (by omega)) kw5_69 yv_X12_eight ⟨Nat.le_of_ble_eq_true rfl, Nat.le_of_ble_eq_true rfl⟩ hK hP rfl hl.1 rfl (Nat.le_of_ble_eq_true rfl) dX12_inside_76 ⟨(Nat.zero_le _), (Nat.zero_le _)⟩ ?_
    have hq76 := tg_ei_lt f9 n9 16
    rw [← elo]
    refine lv_lstore (lv' := [(7, .long (lN (lo))), (5, .long (lN (hi))), (4, .int (nI q)), (3, .int (nI (tg_rd f9 n9 6))), (2, .int (nI 0)), (0, .ref o), (1, .int (nI n9))]) hx hb dX12_inside_79 hl (by decide) rfl (fun ls hl => ?_)
    refine lv_iload hx hb dX12_inside_81 (lv_at hl 2 rfl) ?_
    refine nv_iconst (k := 1) hx hb dX12_inside_83 rfl ?_
    have J108 : ∀ ls : Array Slot, lv_has ls 15 [(7, .long (lN (lo))), (5, .long (lN (hi))), (4, .int (nI q)), (3, .int (nI (tg_rd f9 n9 6))), (2, .int (nI 0)), (0, .ref o), (1, .int (nI n9))] → W p l e (rmw 6 0 0 141) s m args below meth c H locs 0 0 Q (F0 m 108 ls [.int (nI port)]) := by
      intro ls hl
      refine lv_istore (lv' := [(9, .int (nI port)), (7, .long (lN (lo))), (5, .long (lN (hi))), (4, .int (nI q)), (3, .int (nI (tg_rd f9 n9 6))), (2, .int (nI 0)), (0, .ref o), (1, .int (nI n9))]) hx hb dX12_inside_108 hl (by decide) rfl (fun ls hl => ?_)
      refine lv_aload_n hx hb dX12_inside_110 rfl (lv_at hl 6 rfl) ?_
      refine lv_aload_n hx hb dX12_inside_111 rfl (lv_at hl 6 rfl) ?_
      refine va_get (ci := 9) (C := RX12) (T := TX12) (N := 28) hx hb ht iFX12 hown hK hP 0 rfl rfl 4 (by decide) (ht _ kw4_114) (fun _ h9 => h9) rfl dX12_inside_112 ?_
      refine nv_bipush (k := 24) hx hb dX12_inside_115 (by decide) ?_
      refine ro_S S (c_X12_eight (AR_of (ws := mW cy o ad 0 os n9 bits F G u nb ns T M id ft fo f9 g pt ih il ip pn op so fa fp st en dr ++ tl) (kr := 3) (N := 1600) (n := n9) rfl (by omega) (by omega)) (i := 24) (by omega)) kw5_69 yv_X12_eight ⟨Nat.le_of_ble_eq_true rfl, Nat.le_of_ble_eq_true rfl⟩ hK hP rfl hl.1 rfl (Nat.le_of_ble_eq_true rfl) dX12_inside_117 ⟨(Nat.zero_le _), (Nat.zero_le _)⟩ ?_
      have hq117 := tg_ei_lt f9 n9 24
      refine lv_aload_n hx hb dX12_inside_120 rfl (lv_at hl 6 rfl) ?_
      refine va_get (ci := 9) (C := RX12) (T := TX12) (N := 28) hx hb ht iFX12 hown hK hP 0 rfl rfl 4 (by decide) (ht _ kw4_114) (fun _ h9 => h9) rfl dX12_inside_121 ?_
      refine nv_bipush (k := 32) hx hb dX12_inside_124 (by decide) ?_
      refine ro_S S (c_X12_eight (AR_of (ws := mW cy o ad 0 os n9 bits F G u nb ns T M id ft fo f9 g pt ih il ip pn op so fa fp st en dr ++ tl) (kr := 3) (N := 1600) (n := n9) rfl (by omega) (by omega)) (i := 32) (by omega)) kw5_69 yv_X12_eight ⟨Nat.le_of_ble_eq_true rfl, Nat.le_of_ble_eq_true rfl⟩ hK hP rfl hl.1 rfl (Nat.le_of_ble_eq_true rfl) dX12_inside_126 ⟨(Nat.zero_le _), (Nat.zero_le _)⟩ ?_
      have hq126 := tg_ei_lt f9 n9 32
      refine ro_V S (c_X12_drawnOf (ws := mW cy o ad 0 os n9 bits F G u nb ns T M id ft fo f9 g pt ih il ip pn op so fa fp st en dr ++ tl) (km := 0) rfl rfl (by omega) (hi := tg_ei (tg_rd f9 n9) 24) (lo := tg_ei (tg_rd f9 n9) 32) (by omega) (by omega)) kw4_237 yv_X12_drawnOf ⟨Nat.le_of_ble_eq_true rfl, Nat.le_of_ble_eq_true rfl⟩ hK hP (va_recv hK hP (ci := 9) (q0 := 0) rfl rfl) rfl hl.1 rfl (Nat.le_of_ble_eq_true rfl) dX12_inside_129 ⟨(Nat.zero_le _), (Nat.zero_le _)⟩ ?_
      have hq129 := tg_dr_lt (bits := bits) (hi := tg_ei (tg_rd f9 n9) 24) (lo := tg_ei (tg_rd f9 n9) 32) (by omega)
      rw [← efar]
      refine lv_istore (lv' := [(10, .int (nI far)), (9, .int (nI port)), (7, .long (lN (lo))), (5, .long (lN (hi))), (4, .int (nI q)), (3, .int (nI (tg_rd f9 n9 6))), (2, .int (nI 0)), (0, .ref o), (1, .int (nI n9))]) hx hb dX12_inside_132 hl (by decide) rfl (fun ls hl => ?_)
      refine lv_iload hx hb dX12_inside_134 (lv_at hl 4 rfl) ?_
      refine nv_iconst (k := 1) hx hb dX12_inside_136 rfl ?_
      have J153 : ∀ ls : Array Slot, lv_has ls 15 [(10, .int (nI far)), (9, .int (nI port)), (7, .long (lN (lo))), (5, .long (lN (hi))), (4, .int (nI q)), (3, .int (nI (tg_rd f9 n9 6))), (2, .int (nI 0)), (0, .ref o), (1, .int (nI n9))] → W p l e (rmw 6 0 0 141) s m args below meth c H locs 0 0 Q (F0 m 153 ls [.int (nI fpt)]) := by
        intro ls hl
        refine lv_istore (lv' := [(11, .int (nI fpt)), (10, .int (nI far)), (9, .int (nI port)), (7, .long (lN (lo))), (5, .long (lN (hi))), (4, .int (nI q)), (3, .int (nI (tg_rd f9 n9 6))), (2, .int (nI 0)), (0, .ref o), (1, .int (nI n9))]) hx hb dX12_inside_153 hl (by decide) rfl (fun ls hl => ?_)
        refine lv_iload hx hb dX12_inside_155 (lv_at hl 5 rfl) ?_
        refine nv_bipush (k := 6) hx hb dX12_inside_157 (by decide) ?_
        have J175 : ∀ ls : Array Slot, lv_has ls 15 [(11, .int (nI fpt)), (10, .int (nI far)), (9, .int (nI port)), (7, .long (lN (lo))), (5, .long (lN (hi))), (4, .int (nI q)), (3, .int (nI (tg_rd f9 n9 6))), (2, .int (nI 0)), (0, .ref o), (1, .int (nI n9))] → W p l e (rmw 6 0 0 141) s m args below meth c H locs 0 0 Q (F0 m 175 ls [.int (nI (3 - ev))]) := by
          intro ls hl
          refine lv_istore (lv' := [(12, .int (nI (3 - ev))), (11, .int (nI fpt)), (10, .int (nI far)), (9, .int (nI port)), (7, .long (lN (lo))), (5, .long (lN (hi))), (4, .int (nI q)), (3, .int (nI (tg_rd f9 n9 6))), (2, .int (nI 0)), (0, .ref o), (1, .int (nI n9))]) hx hb dX12_inside_175 hl (by decide) rfl (fun ls hl => ?_)
          refine lv_aload_n hx hb dX12_inside_177 rfl (lv_at hl 9 rfl) ?_
          refine lv_iload hx hb dX12_inside_178 (lv_at hl 6 rfl) ?_
          refine lv_lload hx hb dX12_inside_180 (lv_at hl 5 rfl) ?_
          refine lv_lload hx hb dX12_inside_182 (lv_at hl 4 rfl) ?_
          refine lv_iload hx hb dX12_inside_184 (lv_at hl 3 rfl) ?_
          refine ro_V S (c_X12_findInner (ws := mW cy o ad 0 os n9 bits F G u nb ns T M id ft fo f9 g pt ih il ip pn op so fa fp st en dr ++ tl) (km := 0) rfl rfl rfl rfl rfl rfl (k_pt := 5) rfl hb_pt (k_ih := 6) rfl hb_ih (k_il := 7) rfl hb_il (k_ip := 8) rfl hb_ip hnb (q := q) (hi := hi) (lo := lo) (port := port) (by omega) (by omega) (by omega) (by omega)) kw5_82 yv_X12_findInner ⟨Nat.le_of_ble_eq_true rfl, Nat.le_of_ble_eq_true rfl⟩ hK hP (va_recv hK hP (ci := 9) (q0 := 0) rfl rfl) rfl hl.1 rfl (Nat.le_of_ble_eq_true rfl) dX12_inside_186 ⟨(Nat.zero_le _), (Nat.zero_le _)⟩ ?_
          rw [fb_no hfb]
          refine lv_istore (lv' := [(13, .int (-1)), (12, .int (nI (3 - ev))), (11, .int (nI fpt)), (10, .int (nI far)), (9, .int (nI port)), (7, .long (lN (lo))), (5, .long (lN (hi))), (4, .int (nI q)), (3, .int (nI (tg_rd f9 n9 6))), (2, .int (nI 0)), (0, .ref o), (1, .int (nI n9))]) hx hb dX12_inside_189 hl (by decide) rfl (fun ls hl => ?_)
          refine lv_iload hx hb dX12_inside_191 (lv_at hl 0 rfl) ?_
          refine lv_if_ge (tgt := 200) hx hb dX12_inside_193 (by decide) (fun h9 => absurd h9 (by decide)) (fun _ => ?_)
          refine lv_iconst (v := -1) hx hb dX12_inside_196 (by decide) ?_
          refine lv_goto (tgt := 210) hx hb dX12_inside_197 (by decide) ?_
          refine lv_istore (lv' := [(14, .int (-1)), (13, .int (-1)), (12, .int (nI (3 - ev))), (11, .int (nI fpt)), (10, .int (nI far)), (9, .int (nI port)), (7, .long (lN (lo))), (5, .long (lN (hi))), (4, .int (nI q)), (3, .int (nI (tg_rd f9 n9 6))), (2, .int (nI 0)), (0, .ref o), (1, .int (nI n9))]) hx hb dX12_inside_210 hl (by decide) rfl (fun ls hl => ?_)
          refine lv_iload hx hb dX12_inside_212 (lv_at hl 0 rfl) ?_
          refine lv_if_ge (tgt := 261) hx hb dX12_inside_214 (by decide) (fun h9 => absurd h9 (by decide)) (fun _ => ?_)
          refine lv_iload hx hb dX12_inside_217 (lv_at hl 8 rfl) ?_
          refine nv_bipush (k := 6) hx hb dX12_inside_219 (by decide) ?_
          refine nv_icmp_ne (tgt := 230) hx hb dX12_inside_221 (by decide) (by omega) (by omega) (fun h221 => ?_) (fun h221 => ?_)
          · skip
            refine lv_aload_n hx hb dX12_inside_230 rfl (lv_at hl 11 rfl) ?_
            refine va_get (ci := 9) (C := RX12) (T := TX12) (N := 28) hx hb ht iFX12 hown hK hP 0 rfl rfl 18 (by decide) (ht _ kw4_128) (fun _ h9 => h9) rfl dX12_inside_231 ?_
            refine nv_sipush (k := 128) hx hb dX12_inside_234 (by decide) ?_
            refine nv_icmp_eq (tgt := 254) hx hb dX12_inside_237 (by decide) (by omega) (by omega) (fun h237 => ?_) (fun h237 => ?_)
            · skip
              exfalso; omega
            refine lv_iload hx hb dX12_inside_240 (lv_at hl 1 rfl) ?_
            refine lv_if_ge (tgt := 261) hx hb dX12_inside_242 (by decide) (fun h9 => absurd h9 (by decide)) (fun _ => ?_)
            refine lv_aload_n hx hb dX12_inside_245 rfl (lv_at hl 11 rfl) ?_
            refine va_get (ci := 9) (C := RX12) (T := TX12) (N := 28) hx hb ht iFX12 hown hK hP 0 rfl rfl 11 (by decide) (ht _ kw4_121) (fun _ h9 => h9) rfl dX12_inside_246 ?_
            refine nv_bipush (k := 64) hx hb dX12_inside_249 (by decide) ?_
            refine nv_icmp_ne (tgt := 261) hx hb dX12_inside_251 (by decide) (by omega) (by omega) (fun h251 => ?_) (fun h251 => ?_)
            · skip
              refine lv_iload hx hb dX12_inside_261 (lv_at hl 1 rfl) ?_
              refine lv_if_ge (tgt := 280) hx hb dX12_inside_263 (by decide) (fun h9 => absurd h9 (by decide)) (fun _ => ?_)
              refine lv_aload_n hx hb dX12_inside_266 rfl (lv_at hl 11 rfl) ?_
              refine lv_iload hx hb dX12_inside_267 (lv_at hl 8 rfl) ?_
              refine lv_lload hx hb dX12_inside_269 (lv_at hl 7 rfl) ?_
              refine lv_lload hx hb dX12_inside_271 (lv_at hl 6 rfl) ?_
              refine lv_iload hx hb dX12_inside_273 (lv_at hl 5 rfl) ?_
              refine wr_V S (c_X12_makeBinding hb_pt hb_ih hb_il hb_ip hb_pn4 hb_op hb_pn (q := q) (hi := hi) (lo := lo) (port := port) hq3 hhi hlo hport (by omega) hu4 hu0) kw5_90 yv_X12_makeBinding ⟨Nat.le_of_ble_eq_true rfl, Nat.le_of_ble_eq_true rfl⟩ hK hP hD hS hA (va_recv hK hP (ci := 9) (q0 := 0) rfl rfl) rfl hl.1 rfl (Nat.le_of_ble_eq_true rfl) dX12_inside_275 ⟨Nat.zero_le _, Nat.zero_le _⟩ (fun u3 H locs hu3 hP hD hS => ?_)
              have hP : va_P D vwCl (mW cy o ad 0 os n9 bits F G u (nb + 1) ns T M id ft fo f9 g (va_up pt nb q) (va_up ih nb hi) (va_up il nb lo) (va_up ip nb port) (va_up pn nb (tg_best ih il pn nb u hi lo)) (va_up op nb (tg_port pt pn op nb q (tg_best ih il pn nb u hi lo) port)) so fa fp st en dr ++ tl) H := hP
              have hD : va_D A (mW cy o ad 0 os n9 bits F G u (nb + 1) ns T M id ft fo f9 g (va_up pt nb q) (va_up ih nb hi) (va_up il nb lo) (va_up ip nb port) (va_up pn nb (tg_best ih il pn nb u hi lo)) (va_up op nb (tg_port pt pn op nb q (tg_best ih il pn nb u hi lo) port)) so fa fp st en dr ++ tl) := hD
              refine W.eq (g2 := F0 m 278 ls [.int (nI nb)]) rfl ?_
              refine lv_istore (lv' := [(13, .int (nI nb)), (14, .int (-1)), (12, .int (nI (3 - ev))), (11, .int (nI fpt)), (10, .int (nI far)), (9, .int (nI port)), (7, .long (lN (lo))), (5, .long (lN (hi))), (4, .int (nI q)), (3, .int (nI (tg_rd f9 n9 6))), (2, .int (nI 0)), (0, .ref o), (1, .int (nI n9))]) hx hb dX12_inside_278 hl (by decide) rfl (fun ls hl => ?_)
              refine lv_iload hx hb dX12_inside_280 (lv_at hl 1 rfl) ?_
              refine lv_if_ge (tgt := 301) hx hb dX12_inside_282 (by decide) (fun h9 => absurd h9 (by decide)) (fun _ => ?_)
              refine lv_aload_n hx hb dX12_inside_285 rfl (lv_at hl 11 rfl) ?_
              refine lv_iload hx hb dX12_inside_286 (lv_at hl 0 rfl) ?_
              refine lv_iload hx hb dX12_inside_288 (lv_at hl 4 rfl) ?_
              refine lv_iload hx hb dX12_inside_290 (lv_at hl 3 rfl) ?_
              refine nv_iconst (k := 1) hx hb dX12_inside_292 rfl ?_
              refine wr_V S (c_X12_makeSession (b := nb) (x := far) (port := fpt) (ins := true) (by omega) (by omega) hfar (by omega) (by rw [va_up_self]; omega)) kw5_102 yv_X12_makeSession ⟨Nat.le_of_ble_eq_true rfl, Nat.le_of_ble_eq_true rfl⟩ hK hP hD hS hA (va_recv hK hP (ci := 9) (q0 := 0) rfl rfl) rfl hl.1 rfl (Nat.le_of_ble_eq_true rfl) dX12_inside_293 ⟨Nat.zero_le _, Nat.zero_le _⟩ (fun u4 H locs hu4 hP hD hS => ?_)
              rw [va_up_self] at hP hD
              have hP : va_P D vwCl (mW cy o ad 0 os n9 bits F G u (nb + 1) (ns + 1) T M id ft fo f9 g (va_up pt nb q) (va_up ih nb hi) (va_up il nb lo) (va_up ip nb port) (va_up pn nb (tg_best ih il pn nb u hi lo)) (va_up op nb (tg_port pt pn op nb q (tg_best ih il pn nb u hi lo) port)) (va_up so ns nb) (va_up fa ns far) (va_up fp ns fpt) (va_up st ns (tg_first_st q true)) (va_up en ns (T + tg_life (tg_first_st q true) q)) dr ++ tl) H := hP
              have hD : va_D A (mW cy o ad 0 os n9 bits F G u (nb + 1) (ns + 1) T M id ft fo f9 g (va_up pt nb q) (va_up ih nb hi) (va_up il nb lo) (va_up ip nb port) (va_up pn nb (tg_best ih il pn nb u hi lo)) (va_up op nb (tg_port pt pn op nb q (tg_best ih il pn nb u hi lo) port)) (va_up so ns nb) (va_up fa ns far) (va_up fp ns fpt) (va_up st ns (tg_first_st q true)) (va_up en ns (T + tg_life (tg_first_st q true) q)) dr ++ tl) := hD
              refine W.eq (g2 := F0 m 296 ls [.int (nI ns)]) rfl ?_
              refine lv_istore (lv' := [(14, .int (nI ns)), (13, .int (nI nb)), (12, .int (nI (3 - ev))), (11, .int (nI fpt)), (10, .int (nI far)), (9, .int (nI port)), (7, .long (lN (lo))), (5, .long (lN (hi))), (4, .int (nI q)), (3, .int (nI (tg_rd f9 n9 6))), (2, .int (nI 0)), (0, .ref o), (1, .int (nI n9))]) hx hb dX12_inside_296 hl (by decide) rfl (fun ls hl => ?_)
              refine lv_goto (tgt := 310) hx hb dX12_inside_298 (by decide) ?_
              refine lv_aload_n hx hb dX12_inside_310 rfl (lv_at hl 11 rfl) ?_
              refine lv_iload hx hb dX12_inside_311 (lv_at hl 8 rfl) ?_
              refine lv_iload hx hb dX12_inside_313 (lv_at hl 1 rfl) ?_
              refine lv_iload hx hb dX12_inside_315 (lv_at hl 4 rfl) ?_
              refine wr_V S (c_X12_makeInner (q := q) (b := nb) (ta := far) (sa := sa9) hq3 (by omega) (by rw [va_up_self]; omega) (by rw [va_up_self]; exact hga) hsa9 hfar (by rw [va_up_self]; exact hop9) (by omega) (by omega) hsum hin.1.2.2.2.2 hid) kw5_118 yv_X12_makeInner ⟨Nat.le_of_ble_eq_true rfl, Nat.le_of_ble_eq_true rfl⟩ hK hP hD hS hA (va_recv hK hP (ci := 9) (q0 := 0) rfl rfl) rfl hl.1 rfl (Nat.le_of_ble_eq_true rfl) dX12_inside_317 ⟨Nat.zero_le _, Nat.zero_le _⟩ (fun u6 H locs hu6 hP hD hS => ?_)
              have hP : va_P D vwCl (mW cy o ad 0 (n9 - 20) n9 bits F G u (nb + 1) (ns + 1) T M (tg_id n9 id) ft u6 f9 g (va_up pt nb q) (va_up ih nb hi) (va_up il nb lo) (va_up ip nb port) (va_up pn nb (tg_best ih il pn nb u hi lo)) (va_up op nb (tg_port pt pn op nb q (tg_best ih il pn nb u hi lo) port)) (va_up so ns nb) (va_up fa ns far) (va_up fp ns fpt) (va_up st ns (tg_first_st q true)) (va_up en ns (T + tg_life (tg_first_st q true) q)) dr ++ tl) H := hP
              have hD : va_D A (mW cy o ad 0 (n9 - 20) n9 bits F G u (nb + 1) (ns + 1) T M (tg_id n9 id) ft u6 f9 g (va_up pt nb q) (va_up ih nb hi) (va_up il nb lo) (va_up ip nb port) (va_up pn nb (tg_best ih il pn nb u hi lo)) (va_up op nb (tg_port pt pn op nb q (tg_best ih il pn nb u hi lo) port)) (va_up so ns nb) (va_up fa ns far) (va_up fp ns fpt) (va_up st ns (tg_first_st q true)) (va_up en ns (T + tg_life (tg_first_st q true) q)) dr ++ tl) := hD
              refine W.eq (g2 := F0 m 320 ls []) rfl ?_
              refine lv_aload_n hx hb dX12_inside_320 rfl (lv_at hl 11 rfl) ?_
              refine lv_dup hx hb dX12_inside_321 rfl ?_
              refine va_get (ci := 9) (C := RX12) (T := TX12) (N := 28) hx hb ht iFX12 hown hK hP 0 rfl rfl 25 (by decide) (ht _ kw4_135) (fun _ h9 => h9) rfl dX12_inside_322 ?_
              refine nv_iconst (k := 1) hx hb dX12_inside_325 rfl ?_
              refine nv_iadd hx hb dX12_inside_326 ?_
              refine va_put (ci := 9) (C := RX12) (T := TX12) (N := 28) (ty := tyX12 25) hx hb ht iFX12 tyX12 tyX12_ok nmX12 hown hK hP hD hS 0 rfl rfl 25 (by decide) (ht _ kw4_135) (fun _ h9 => h9) rfl (by decide +kernel) (by first | rfl | decide) (by first | rfl | decide) (Nat.le_of_ble_eq_true rfl) dX12_inside_327 (fun H locs hP hD hS => ?_)
              have hP : va_P D vwCl (mW cy o ad 0 (n9 - 20) n9 bits F G u (nb + 1) (ns + 1) T (M + 1) (tg_id n9 id) ft u6 f9 g (va_up pt nb q) (va_up ih nb hi) (va_up il nb lo) (va_up ip nb port) (va_up pn nb (tg_best ih il pn nb u hi lo)) (va_up op nb (tg_port pt pn op nb q (tg_best ih il pn nb u hi lo) port)) (va_up so ns nb) (va_up fa ns far) (va_up fp ns fpt) (va_up st ns (tg_first_st q true)) (va_up en ns (T + tg_life (tg_first_st q true) q)) dr ++ tl) H := hP
              have hD : va_D A (mW cy o ad 0 (n9 - 20) n9 bits F G u (nb + 1) (ns + 1) T (M + 1) (tg_id n9 id) ft u6 f9 g (va_up pt nb q) (va_up ih nb hi) (va_up il nb lo) (va_up ip nb port) (va_up pn nb (tg_best ih il pn nb u hi lo)) (va_up op nb (tg_port pt pn op nb q (tg_best ih il pn nb u hi lo) port)) (va_up so ns nb) (va_up fa ns far) (va_up fp ns fpt) (va_up st ns (tg_first_st q true)) (va_up en ns (T + tg_life (tg_first_st q true) q)) dr ++ tl) := hD
              refine lv_aload_n hx hb dX12_inside_330 rfl (lv_at hl 11 rfl) ?_
              refine va_get (ci := 9) (C := RX12) (T := TX12) (N := 28) hx hb ht iFX12 hown hK hP 0 rfl rfl 3 (by decide) (ht _ kw4_113) (fun _ h9 => h9) rfl dX12_inside_331 ?_
              exact hend (f9, u6) rfl ⟨hf8, by rw [va_up_self] at hu6; exact hu6⟩ hP hD hS dX12_inside_334
            exfalso; omega
          refine lv_iload hx hb dX12_inside_224 (lv_at hl 2 rfl) ?_
          refine nv_iconst (k := 1) hx hb dX12_inside_226 rfl ?_
          refine nv_icmp_ne (tgt := 254) hx hb dX12_inside_227 (by decide) (by omega) (by omega) (fun h227 => ?_) (fun h227 => ?_)
          · skip
            exfalso; omega
          refine lv_aload_n hx hb dX12_inside_230 rfl (lv_at hl 11 rfl) ?_
          refine va_get (ci := 9) (C := RX12) (T := TX12) (N := 28) hx hb ht iFX12 hown hK hP 0 rfl rfl 18 (by decide) (ht _ kw4_128) (fun _ h9 => h9) rfl dX12_inside_231 ?_
          refine nv_sipush (k := 128) hx hb dX12_inside_234 (by decide) ?_
          refine nv_icmp_eq (tgt := 254) hx hb dX12_inside_237 (by decide) (by omega) (by omega) (fun h237 => ?_) (fun h237 => ?_)
          · skip
            exfalso; omega
          refine lv_iload hx hb dX12_inside_240 (lv_at hl 1 rfl) ?_
          refine lv_if_ge (tgt := 261) hx hb dX12_inside_242 (by decide) (fun h9 => absurd h9 (by decide)) (fun _ => ?_)
          refine lv_aload_n hx hb dX12_inside_245 rfl (lv_at hl 11 rfl) ?_
          refine va_get (ci := 9) (C := RX12) (T := TX12) (N := 28) hx hb ht iFX12 hown hK hP 0 rfl rfl 11 (by decide) (ht _ kw4_121) (fun _ h9 => h9) rfl dX12_inside_246 ?_
          refine nv_bipush (k := 64) hx hb dX12_inside_249 (by decide) ?_
          refine nv_icmp_ne (tgt := 261) hx hb dX12_inside_251 (by decide) (by omega) (by omega) (fun h251 => ?_) (fun h251 => ?_)
          · skip
            refine lv_iload hx hb dX12_inside_261 (lv_at hl 1 rfl) ?_
            refine lv_if_ge (tgt := 280) hx hb dX12_inside_263 (by decide) (fun h9 => absurd h9 (by decide)) (fun _ => ?_)
            refine lv_aload_n hx hb dX12_inside_266 rfl (lv_at hl 11 rfl) ?_
            refine lv_iload hx hb dX12_inside_267 (lv_at hl 8 rfl) ?_
            refine lv_lload hx hb dX12_inside_269 (lv_at hl 7 rfl) ?_
            refine lv_lload hx hb dX12_inside_271 (lv_at hl 6 rfl) ?_
            refine lv_iload hx hb dX12_inside_273 (lv_at hl 5 rfl) ?_
            refine wr_V S (c_X12_makeBinding hb_pt hb_ih hb_il hb_ip hb_pn4 hb_op hb_pn (q := q) (hi := hi) (lo := lo) (port := port) hq3 hhi hlo hport (by omega) hu4 hu0) kw5_90 yv_X12_makeBinding ⟨Nat.le_of_ble_eq_true rfl, Nat.le_of_ble_eq_true rfl⟩ hK hP hD hS hA (va_recv hK hP (ci := 9) (q0 := 0) rfl rfl) rfl hl.1 rfl (Nat.le_of_ble_eq_true rfl) dX12_inside_275 ⟨Nat.zero_le _, Nat.zero_le _⟩ (fun u3 H locs hu3 hP hD hS => ?_)
            have hP : va_P D vwCl (mW cy o ad 0 os n9 bits F G u (nb + 1) ns T M id ft fo f9 g (va_up pt nb q) (va_up ih nb hi) (va_up il nb lo) (va_up ip nb port) (va_up pn nb (tg_best ih il pn nb u hi lo)) (va_up op nb (tg_port pt pn op nb q (tg_best ih il pn nb u hi lo) port)) so fa fp st en dr ++ tl) H := hP
            have hD : va_D A (mW cy o ad 0 os n9 bits F G u (nb + 1) ns T M id ft fo f9 g (va_up pt nb q) (va_up ih nb hi) (va_up il nb lo) (va_up ip nb port) (va_up pn nb (tg_best ih il pn nb u hi lo)) (va_up op nb (tg_port pt pn op nb q (tg_best ih il pn nb u hi lo) port)) so fa fp st en dr ++ tl) := hD
            refine W.eq (g2 := F0 m 278 ls [.int (nI nb)]) rfl ?_
            refine lv_istore (lv' := [(13, .int (nI nb)), (14, .int (-1)), (12, .int (nI (3 - ev))), (11, .int (nI fpt)), (10, .int (nI far)), (9, .int (nI port)), (7, .long (lN (lo))), (5, .long (lN (hi))), (4, .int (nI q)), (3, .int (nI (tg_rd f9 n9 6))), (2, .int (nI 0)), (0, .ref o), (1, .int (nI n9))]) hx hb dX12_inside_278 hl (by decide) rfl (fun ls hl => ?_)
            refine lv_iload hx hb dX12_inside_280 (lv_at hl 1 rfl) ?_
            refine lv_if_ge (tgt := 301) hx hb dX12_inside_282 (by decide) (fun h9 => absurd h9 (by decide)) (fun _ => ?_)
            refine lv_aload_n hx hb dX12_inside_285 rfl (lv_at hl 11 rfl) ?_
            refine lv_iload hx hb dX12_inside_286 (lv_at hl 0 rfl) ?_
            refine lv_iload hx hb dX12_inside_288 (lv_at hl 4 rfl) ?_
            refine lv_iload hx hb dX12_inside_290 (lv_at hl 3 rfl) ?_
            refine nv_iconst (k := 1) hx hb dX12_inside_292 rfl ?_
            refine wr_V S (c_X12_makeSession (b := nb) (x := far) (port := fpt) (ins := true) (by omega) (by omega) hfar (by omega) (by rw [va_up_self]; omega)) kw5_102 yv_X12_makeSession ⟨Nat.le_of_ble_eq_true rfl, Nat.le_of_ble_eq_true rfl⟩ hK hP hD hS hA (va_recv hK hP (ci := 9) (q0 := 0) rfl rfl) rfl hl.1 rfl (Nat.le_of_ble_eq_true rfl) dX12_inside_293 ⟨Nat.zero_le _, Nat.zero_le _⟩ (fun u4 H locs hu4 hP hD hS => ?_)
            rw [va_up_self] at hP hD
            have hP : va_P D vwCl (mW cy o ad 0 os n9 bits F G u (nb + 1) (ns + 1) T M id ft fo f9 g (va_up pt nb q) (va_up ih nb hi) (va_up il nb lo) (va_up ip nb port) (va_up pn nb (tg_best ih il pn nb u hi lo)) (va_up op nb (tg_port pt pn op nb q (tg_best ih il pn nb u hi lo) port)) (va_up so ns nb) (va_up fa ns far) (va_up fp ns fpt) (va_up st ns (tg_first_st q true)) (va_up en ns (T + tg_life (tg_first_st q true) q)) dr ++ tl) H := hP
            have hD : va_D A (mW cy o ad 0 os n9 bits F G u (nb + 1) (ns + 1) T M id ft fo f9 g (va_up pt nb q) (va_up ih nb hi) (va_up il nb lo) (va_up ip nb port) (va_up pn nb (tg_best ih il pn nb u hi lo)) (va_up op nb (tg_port pt pn op nb q (tg_best ih il pn nb u hi lo) port)) (va_up so ns nb) (va_up fa ns far) (va_up fp ns fpt) (va_up st ns (tg_first_st q true)) (va_up en ns (T + tg_life (tg_first_st q true) q)) dr ++ tl) := hD
            refine W.eq (g2 := F0 m 296 ls [.int (nI ns)]) rfl ?_
            refine lv_istore (lv' := [(14, .int (nI ns)), (13, .int (nI nb)), (12, .int (nI (3 - ev))), (11, .int (nI fpt)), (10, .int (nI far)), (9, .int (nI port)), (7, .long (lN (lo))), (5, .long (lN (hi))), (4, .int (nI q)), (3, .int (nI (tg_rd f9 n9 6))), (2, .int (nI 0)), (0, .ref o), (1, .int (nI n9))]) hx hb dX12_inside_296 hl (by decide) rfl (fun ls hl => ?_)
            refine lv_goto (tgt := 310) hx hb dX12_inside_298 (by decide) ?_
            refine lv_aload_n hx hb dX12_inside_310 rfl (lv_at hl 11 rfl) ?_
            refine lv_iload hx hb dX12_inside_311 (lv_at hl 8 rfl) ?_
            refine lv_iload hx hb dX12_inside_313 (lv_at hl 1 rfl) ?_
            refine lv_iload hx hb dX12_inside_315 (lv_at hl 4 rfl) ?_
            refine wr_V S (c_X12_makeInner (q := q) (b := nb) (ta := far) (sa := sa9) hq3 (by omega) (by rw [va_up_self]; omega) (by rw [va_up_self]; exact hga) hsa9 hfar (by rw [va_up_self]; exact hop9) (by omega) (by omega) hsum hin.1.2.2.2.2 hid) kw5_118 yv_X12_makeInner ⟨Nat.le_of_ble_eq_true rfl, Nat.le_of_ble_eq_true rfl⟩ hK hP hD hS hA (va_recv hK hP (ci := 9) (q0 := 0) rfl rfl) rfl hl.1 rfl (Nat.le_of_ble_eq_true rfl) dX12_inside_317 ⟨Nat.zero_le _, Nat.zero_le _⟩ (fun u6 H locs hu6 hP hD hS => ?_)
            have hP : va_P D vwCl (mW cy o ad 0 (n9 - 20) n9 bits F G u (nb + 1) (ns + 1) T M (tg_id n9 id) ft u6 f9 g (va_up pt nb q) (va_up ih nb hi) (va_up il nb lo) (va_up ip nb port) (va_up pn nb (tg_best ih il pn nb u hi lo)) (va_up op nb (tg_port pt pn op nb q (tg_best ih il pn nb u hi lo) port)) (va_up so ns nb) (va_up fa ns far) (va_up fp ns fpt) (va_up st ns (tg_first_st q true)) (va_up en ns (T + tg_life (tg_first_st q true) q)) dr ++ tl) H := hP
            have hD : va_D A (mW cy o ad 0 (n9 - 20) n9 bits F G u (nb + 1) (ns + 1) T M (tg_id n9 id) ft u6 f9 g (va_up pt nb q) (va_up ih nb hi) (va_up il nb lo) (va_up ip nb port) (va_up pn nb (tg_best ih il pn nb u hi lo)) (va_up op nb (tg_port pt pn op nb q (tg_best ih il pn nb u hi lo) port)) (va_up so ns nb) (va_up fa ns far) (va_up fp ns fpt) (va_up st ns (tg_first_st q true)) (va_up en ns (T + tg_life (tg_first_st q true) q)) dr ++ tl) := hD
            refine W.eq (g2 := F0 m 320 ls []) rfl ?_
            refine lv_aload_n hx hb dX12_inside_320 rfl (lv_at hl 11 rfl) ?_
            refine lv_dup hx hb dX12_inside_321 rfl ?_
            refine va_get (ci := 9) (C := RX12) (T := TX12) (N := 28) hx hb ht iFX12 hown hK hP 0 rfl rfl 25 (by decide) (ht _ kw4_135) (fun _ h9 => h9) rfl dX12_inside_322 ?_
            refine nv_iconst (k := 1) hx hb dX12_inside_325 rfl ?_
            refine nv_iadd hx hb dX12_inside_326 ?_
            refine va_put (ci := 9) (C := RX12) (T := TX12) (N := 28) (ty := tyX12 25) hx hb ht iFX12 tyX12 tyX12_ok nmX12 hown hK hP hD hS 0 rfl rfl 25 (by decide) (ht _ kw4_135) (fun _ h9 => h9) rfl (by decide +kernel) (by first | rfl | decide) (by first | rfl | decide) (Nat.le_of_ble_eq_true rfl) dX12_inside_327 (fun H locs hP hD hS => ?_)
            have hP : va_P D vwCl (mW cy o ad 0 (n9 - 20) n9 bits F G u (nb + 1) (ns + 1) T (M + 1) (tg_id n9 id) ft u6 f9 g (va_up pt nb q) (va_up ih nb hi) (va_up il nb lo) (va_up ip nb port) (va_up pn nb (tg_best ih il pn nb u hi lo)) (va_up op nb (tg_port pt pn op nb q (tg_best ih il pn nb u hi lo) port)) (va_up so ns nb) (va_up fa ns far) (va_up fp ns fpt) (va_up st ns (tg_first_st q true)) (va_up en ns (T + tg_life (tg_first_st q true) q)) dr ++ tl) H := hP
            have hD : va_D A (mW cy o ad 0 (n9 - 20) n9 bits F G u (nb + 1) (ns + 1) T (M + 1) (tg_id n9 id) ft u6 f9 g (va_up pt nb q) (va_up ih nb hi) (va_up il nb lo) (va_up ip nb port) (va_up pn nb (tg_best ih il pn nb u hi lo)) (va_up op nb (tg_port pt pn op nb q (tg_best ih il pn nb u hi lo) port)) (va_up so ns nb) (va_up fa ns far) (va_up fp ns fpt) (va_up st ns (tg_first_st q true)) (va_up en ns (T + tg_life (tg_first_st q true) q)) dr ++ tl) := hD
            refine lv_aload_n hx hb dX12_inside_330 rfl (lv_at hl 11 rfl) ?_
            refine va_get (ci := 9) (C := RX12) (T := TX12) (N := 28) hx hb ht iFX12 hown hK hP 0 rfl rfl 3 (by decide) (ht _ kw4_113) (fun _ h9 => h9) rfl dX12_inside_331 ?_
            exact hend (f9, u6) rfl ⟨hf8, by rw [va_up_self] at hu6; exact hu6⟩ hP hD hS dX12_inside_334
          exfalso; omega
        refine nv_icmp_ne (tgt := 174) hx hb dX12_inside_159 (by decide) (by omega) (by omega) (fun h159 => ?_) (fun h159 => ?_)
        · skip
          refine nv_iconst (k := 3) hx hb dX12_inside_174 rfl ?_
          refine W.eq (g2 := F0 m 175 ls [.int (nI (3 - ev))]) (congrArg (fun z9 => F0 m 175 ls [.int (nI z9)]) (show 3 = 3 - ev from (by rw [eev, ev_k (q := q)]; split <;> first | rfl | (exfalso; omega)))) ?_
          exact J175 ls (lv_sub hl [0, 1, 2, 3, 4, 5, 6, 7, 8, 9] rfl)
        refine lv_aload_n hx hb dX12_inside_162 rfl (lv_at hl 8 rfl) ?_
        refine va_get (ci := 9) (C := RX12) (T := TX12) (N := 28) hx hb ht iFX12 hown hK hP 0 rfl rfl 4 (by decide) (ht _ kw4_114) (fun _ h9 => h9) rfl dX12_inside_163 ?_
        refine nv_bipush (k := 40) hx hb dX12_inside_166 (by decide) ?_
        refine ro_S S (c_X12_kindOf (AR_of (ws := mW cy o ad 0 os n9 bits F G u nb ns T M id ft fo f9 g pt ih il ip pn op so fa fp st en dr ++ tl) (kr := 3) (N := 1600) (n := n9) rfl (by omega) (by omega)) (hd := 40) (by omega)) kw5_79 yv_X12_kindOf ⟨Nat.le_of_ble_eq_true rfl, Nat.le_of_ble_eq_true rfl⟩ hK hP rfl hl.1 rfl (Nat.le_of_ble_eq_true rfl) dX12_inside_168 ⟨(Nat.zero_le _), (Nat.zero_le _)⟩ ?_
        refine lv_goto (tgt := 175) hx hb dX12_inside_171 (by decide) ?_
        refine W.eq (g2 := F0 m 175 ls [.int (nI (3 - ev))]) (congrArg (fun z9 => F0 m 175 ls [.int (nI z9)]) (show 3 - tg_event (tg_rd f9 n9) 40 6 = 3 - ev from (by rw [eev, ev_k (q := q)]; split <;> first | rfl | (exfalso; omega)))) ?_
        exact J175 ls (lv_sub hl [0, 1, 2, 3, 4, 5, 6, 7, 8, 9] rfl)
      refine nv_icmp_ne (tgt := 144) hx hb dX12_inside_137 (by decide) (by omega) (by omega) (fun h137 => ?_) (fun h137 => ?_)
      · skip
        refine lv_aload_n hx hb dX12_inside_144 rfl (lv_at hl 7 rfl) ?_
        refine va_get (ci := 9) (C := RX12) (T := TX12) (N := 28) hx hb ht iFX12 hown hK hP 0 rfl rfl 4 (by decide) (ht _ kw4_114) (fun _ h9 => h9) rfl dX12_inside_145 ?_
        refine nv_bipush (k := 42) hx hb dX12_inside_148 (by decide) ?_
        refine ro_S S (c_X12_two (AR_of (ws := mW cy o ad 0 os n9 bits F G u nb ns T M id ft fo f9 g pt ih il ip pn op so fa fp st en dr ++ tl) (kr := 3) (N := 1600) (n := n9) rfl (by omega) (by omega)) (i := 42) (by omega)) kw5_44 yv_X12_two ⟨Nat.le_of_ble_eq_true rfl, Nat.le_of_ble_eq_true rfl⟩ hK hP rfl hl.1 rfl (Nat.le_of_ble_eq_true rfl) dX12_inside_150 ⟨(Nat.zero_le _), (Nat.zero_le _)⟩ ?_
        have hq150 := tg_pr_lt f9 n9 42
        refine W.eq (g2 := F0 m 153 ls [.int (nI fpt)]) (congrArg (fun z9 => F0 m 153 ls [.int (nI z9)]) (show tg_pr (tg_rd f9 n9) 42 = fpt from (by rw [efpt]; unfold tg_dpa; (repeat' split) <;> first | rfl | (exfalso; omega)))) ?_
        exact J153 ls (lv_sub hl [0, 1, 2, 3, 4, 5, 6, 7, 8] rfl)
      refine nv_iconst (k := 0) hx hb dX12_inside_140 rfl ?_
      refine lv_goto (tgt := 153) hx hb dX12_inside_141 (by decide) ?_
      refine W.eq (g2 := F0 m 153 ls [.int (nI fpt)]) (congrArg (fun z9 => F0 m 153 ls [.int (nI z9)]) (show 0 = fpt from (by rw [efpt]; unfold tg_dpa; (repeat' split) <;> first | rfl | (exfalso; omega)))) ?_
      exact J153 ls (lv_sub hl [0, 1, 2, 3, 4, 5, 6, 7, 8] rfl)
    refine nv_icmp_ne (tgt := 99) hx hb dX12_inside_84 (by decide) (by omega) (by omega) (fun h84 => ?_) (fun h84 => ?_)
    · skip
      refine lv_aload_n hx hb dX12_inside_99 rfl (lv_at hl 5 rfl) ?_
      refine va_get (ci := 9) (C := RX12) (T := TX12) (N := 28) hx hb ht iFX12 hown hK hP 0 rfl rfl 4 (by decide) (ht _ kw4_114) (fun _ h9 => h9) rfl dX12_inside_100 ?_
      refine nv_bipush (k := 40) hx hb dX12_inside_103 (by decide) ?_
      refine ro_S S (c_X12_two (AR_of (ws := mW cy o ad 0 os n9 bits F G u nb ns T M id ft fo f9 g pt ih il ip pn op so fa fp st en dr ++ tl) (kr := 3) (N := 1600) (n := n9) rfl (by omega) (by omega)) (i := 40) (by omega)) kw5_44 yv_X12_two ⟨Nat.le_of_ble_eq_true rfl, Nat.le_of_ble_eq_true rfl⟩ hK hP rfl hl.1 rfl (Nat.le_of_ble_eq_true rfl) dX12_inside_105 ⟨(Nat.zero_le _), (Nat.zero_le _)⟩ ?_
      have hq105 := tg_pr_lt f9 n9 40
      refine W.eq (g2 := F0 m 108 ls [.int (nI port)]) (congrArg (fun z9 => F0 m 108 ls [.int (nI z9)]) (show tg_pr (tg_rd f9 n9) 40 = port from (by rw [eport]; unfold tg_spa; split <;> first | rfl | (exfalso; omega)))) ?_
      exact J108 ls (lv_sub hl [0, 1, 2, 3, 4, 5, 6] rfl)
    refine lv_aload_n hx hb dX12_inside_87 rfl (lv_at hl 5 rfl) ?_
    refine va_get (ci := 9) (C := RX12) (T := TX12) (N := 28) hx hb ht iFX12 hown hK hP 0 rfl rfl 4 (by decide) (ht _ kw4_114) (fun _ h9 => h9) rfl dX12_inside_88 ?_
    refine nv_bipush (k := 44) hx hb dX12_inside_91 (by decide) ?_
    refine ro_S S (c_X12_two (AR_of (ws := mW cy o ad 0 os n9 bits F G u nb ns T M id ft fo f9 g pt ih il ip pn op so fa fp st en dr ++ tl) (kr := 3) (N := 1600) (n := n9) rfl (by omega) (by omega)) (i := 44) (by omega)) kw5_44 yv_X12_two ⟨Nat.le_of_ble_eq_true rfl, Nat.le_of_ble_eq_true rfl⟩ hK hP rfl hl.1 rfl (Nat.le_of_ble_eq_true rfl) dX12_inside_93 ⟨(Nat.zero_le _), (Nat.zero_le _)⟩ ?_
    have hq93 := tg_pr_lt f9 n9 44
    refine lv_goto (tgt := 108) hx hb dX12_inside_96 (by decide) ?_
    refine W.eq (g2 := F0 m 108 ls [.int (nI port)]) (congrArg (fun z9 => F0 m 108 ls [.int (nI z9)]) (show tg_pr (tg_rd f9 n9) 44 = port from (by rw [eport]; unfold tg_spa; split <;> first | rfl | (exfalso; omega)))) ?_
    exact J108 ls (lv_sub hl [0, 1, 2, 3, 4, 5, 6] rfl)
  refine nv_icmp_ne (tgt := 56) hx hb dX12_inside_49 (by decide) (by omega) (by omega) (fun h49 => ?_) (fun h49 => ?_)
  · skip
    refine lv_iload_n hx hb dX12_inside_56 rfl (lv_at hl 0 rfl) ?_
    refine W.eq (g2 := F0 m 57 ls [.int (nI q)]) (congrArg (fun z9 => F0 m 57 ls [.int (nI z9)]) (show tg_rd f9 n9 6 = q from (by rw [eq0]; split <;> omega))) ?_
    exact J57 ls (lv_sub hl [0, 1, 2, 3] rfl)
  refine nv_iconst (k := 1) hx hb dX12_inside_52 rfl ?_
  refine lv_goto (tgt := 57) hx hb dX12_inside_53 (by decide) ?_
  refine W.eq (g2 := F0 m 57 ls [.int (nI q)]) (congrArg (fun z9 => F0 m 57 ls [.int (nI z9)]) (show 1 = q from (by rw [eq0]; split <;> omega))) ?_
  exact J57 ls (lv_sub hl [0, 1, 2, 3] rfl)
set_option maxHeartbeats 4000000 in
set_option maxRecDepth 100000 in
theorem c_X12_insidea {l : Launch} {D : va_G} {cy : Nat → ClassId} {o : Nat} {ad : Nat → Nat} {tl : va_W} {tp os sz bits F G u nb ns T M id : Nat} {ft fo fi : Nat → UInt8} {g : Nat → Int32} {pt ih il ip pn op so fa fp st en dr : Nat → Nat} (hb_pt : ∀ i, pt i < 2 ^ 31) (hb_ih : ∀ i, ih i < 2 ^ 64) (hb_il : ∀ i, il i < 2 ^ 64) (hb_ip : ∀ i, ip i < 2 ^ 31) (hb_pn : ∀ i, pn i < 2 ^ 31) (hb_op : ∀ i, op i < 2 ^ 31) (hb_pn4 : ∀ i, pn i < 4) (hb_so : ∀ i, so i < 2 ^ 31) (hb_fa : ∀ i, fa i < 2 ^ 32) (hb_fp : ∀ i, fp i < 2 ^ 31) (hb_st : ∀ i, st i ≤ 7) (htp : tp ≤ 1600) (hos : os ≤ 1640) (hsi : SI bits F G) (hu4 : u ≤ 4) (hnb : nb ≤ 64) (hns : ns ≤ 128) {n9 : Nat} (hn9 : n9 ≤ tp) {q port far fpt ev hi lo : Nat} (eq0 : q = if tg_rd ft n9 6 = 58 then 1 else tg_rd ft n9 6) (eport : port = tg_pr (tg_rd ft n9) (40 + tg_spa q)) (efar : far = tg_dr bits (tg_ei (tg_rd ft n9) 24) (tg_ei (tg_rd ft n9) 32)) (efpt : fpt = if q = 1 then 0 else tg_pr (tg_rd ft n9) (40 + tg_dpa q)) (eev : ev = tg_event (tg_rd ft n9) 40 q) (ehi : hi = tg_ei (tg_rd ft n9) 8) (elo : lo = tg_ei (tg_rd ft n9) 16) (hz0 : tg_in (tg_rd ft n9) n9 bits F G u = 0) {b : Nat} (hb9 : b < nb) (hfb : tg_first (fun k => decide (pt k = q ∧ ih k = hi ∧ il k = lo ∧ ip k = port)) nb = b) (hfj : ¬ tg_first (fun k => decide (so k = b ∧ fa k = far ∧ fp k = fpt)) ns < ns) (hmay : ¬ ((q ≠ 6 ∨ ev = 2) ∧ ns < 128)) : WR (S := (Nat → UInt8)) l yX12_inside cX12_inside 15 (some .int) 6 0 0 141 [.ref o, .int (nI n9)] D cy (mW cy o ad tp os sz bits F G u nb ns T M id ft fo fi g pt ih il ip pn op so fa fp st en dr ++ tl) (fun u_ => some (.int (- nI 15))) (fun z9 => (∀ k, k < n9 → z9 k = ft k)) (fun z9 => mW cy o ad 0 os n9 bits F G u nb ns T M id ft fo z9 g pt ih il ip pn op so fa fp st en (va_up dr 15 (dr 15 + 1)) ++ tl) := by
  refine WRi (by decide) (lv0 := [(0, .ref o), (1, .int (nI n9))]) rfl (Nat.le_of_ble_eq_true rfl) ?_
  intro p e s m args below meth c ls A Q S hnm hP hK hD hS hA hend hl
  have hx := S.1
  have hb := S.2.1
  have hown : s.vm.findClass RX12 = some m.cls := S.2.2.2.1
  have ht : ∀ w ∈ lw_g, w.before args s = true := fun w h => S.2.2.2.2 w (List.mem_cons_of_mem _ h)
  have hP : va_P D vwCl (mW cy o ad tp os sz bits F G u nb ns T M id ft fo fi g pt ih il ip pn op so fa fp st en dr ++ tl) s.heap := hP
  have hu : u ≤ 4 := hu4
  refine lv_iload_n hx hb dX12_inside_0 rfl (lv_at hl 1 rfl) ?_
  refine nv_i2l hx hb (by omega) dX12_inside_1 ?_
  refine lv_lconst (v := lN 0) hx hb dX12_inside_2 (by decide) ?_
  refine lv_aload_n hx hb dX12_inside_3 rfl (lv_at hl 0 rfl) ?_
  refine va_get (ci := 9) (C := RX12) (T := TX12) (N := 28) hx hb ht iFX12 hown hK hP 0 rfl rfl 1 (by decide) (ht _ kw4_111) (fun _ h9 => h9) rfl dX12_inside_4 ?_
  refine nv_i2l hx hb (by omega) dX12_inside_7 ?_
  refine ro_S S (c_X12_isIn (v := lN (n9)) (lo := lN (0)) (hi := lN (tp))) kw5_14 yv_X12_isIn ⟨Nat.le_of_ble_eq_true rfl, Nat.le_of_ble_eq_true rfl⟩ hK hP rfl hl.1 rfl (Nat.le_of_ble_eq_true rfl) dX12_inside_8 ⟨(Nat.zero_le _), (Nat.zero_le _)⟩ ?_
  rw [show tg_isIn (lN (n9)) (lN (0)) (lN (tp)) = true from (by rw [isIn_nat (by omega) (by omega) (by omega)]; exact decide_eq_true (by omega))]
  refine nv_if_neb (tgt := 16) hx hb dX12_inside_11 (by decide) (fun _ => ?_) (fun h => absurd h (by decide))
  refine lv_aload_n hx hb dX12_inside_16 rfl (lv_at hl 0 rfl) ?_
  refine lv_iload_n hx hb dX12_inside_17 rfl (lv_at hl 1 rfl) ?_
  refine wr_V S (c_X12_begin (x := n9) (by omega)) kw5_33 yv_X12_begin ⟨Nat.le_of_ble_eq_true rfl, Nat.le_of_ble_eq_true rfl⟩ hK hP hD hS hA (va_recv hK hP (ci := 9) (q0 := 0) rfl rfl) rfl hl.1 rfl (Nat.le_of_ble_eq_true rfl) dX12_inside_18 ⟨Nat.zero_le _, Nat.zero_le _⟩ (fun u1 H locs hu1 hP hD hS => ?_)
  obtain ⟨f9, hf9⟩ : ∃ z, z = (fun k => if k < n9 then ft k else fi k) := ⟨_, rfl⟩
  rw [← hf9] at hP hD
  have hP : va_P D vwCl (mW cy o ad 0 os n9 bits F G u nb ns T M id ft fo f9 g pt ih il ip pn op so fa fp st en dr ++ tl) H := hP
  have hD : va_D A (mW cy o ad 0 os n9 bits F G u nb ns T M id ft fo f9 g pt ih il ip pn op so fa fp st en dr ++ tl) := hD
  have hf8 : ∀ k, k < n9 → f9 k = ft k := fun k hk => by rw [hf9]; exact if_pos hk
  have erd : tg_rd f9 n9 = tg_rd ft n9 := rd_cong hf8
  rw [← erd] at eq0 eport efar efpt eev ehi elo hz0
  have hin := in0 hz0
  have hq3 : q = 1 ∨ q = 6 ∨ q = 17 := by rw [eq0]; split <;> omega
  have hsum : tg_sumAt q + 2 ≤ n9 - 40 := by have h6 : q = 6 → tg_rd f9 n9 6 = 6 := (by rw [eq0]; split <;> omega); unfold tg_sumAt; (repeat' split) <;> omega
  have h620 : q = 6 → 20 ≤ n9 - 40 := by have h6 : q = 6 → tg_rd f9 n9 6 = 6 := (by rw [eq0]; split <;> omega); exact fun z => hin.1.2.2.2.1 (h6 z)
  have hport : port < 65536 := by rw [eport]; exact tg_pr_lt _ _ _
  have hfar : far < 2 ^ 32 := by rw [efar]; exact tg_dr_lt (by have := hsi.b; omega)
  have hfpt : fpt < 65536 := by rw [efpt]; split; omega; exact tg_pr_lt _ _ _
  have hev : ev ≤ 3 := by rw [eev]; exact tg_event_le _ _ _
  have hhi : hi < 2 ^ 64 := by rw [ehi]; exact tg_ei_lt _ _ _
  have hlo : lo < 2 ^ 64 := by rw [elo]; exact tg_ei_lt _ _ _
  have hu0 : 1 ≤ u := by omega
  have hbs : bits = 32 ∨ bits = 40 ∨ bits = 48 ∨ bits = 56 ∨ bits = 64 ∨ bits = 96 := by have := hsi.b; omega
  refine W.eq (g2 := F0 m 21 ls []) rfl ?_
  refine lv_aload_n hx hb dX12_inside_21 rfl (lv_at hl 0 rfl) ?_
  refine ro_V S (c_X12_lackOfInside (ws := mW cy o ad 0 os n9 bits F G u nb ns T M id ft fo f9 g pt ih il ip pn op so fa fp st en dr ++ tl) (km := 0) rfl rfl rfl rfl rfl rfl rfl (AR_of (ws := mW cy o ad 0 os n9 bits F G u nb ns T M id ft fo f9 g pt ih il ip pn op so fa fp st en dr ++ tl) (kr := 3) (N := 1600) rfl (by omega) (by omega)) hsi hu) kw5_37 yv_X12_lackOfInside ⟨Nat.le_of_ble_eq_true rfl, Nat.le_of_ble_eq_true rfl⟩ hK hP (va_recv hK hP (ci := 9) (q0 := 0) rfl rfl) rfl hl.1 rfl (Nat.le_of_ble_eq_true rfl) dX12_inside_22 ⟨(Nat.zero_le _), (Nat.zero_le _)⟩ ?_
  rw [hz0]
  refine lv_istore_n (lv' := [(2, .int (nI 0)), (0, .ref o), (1, .int (nI n9))]) hx hb dX12_inside_25 rfl hl (by decide) rfl (fun ls hl => ?_)
  refine lv_iload_n hx hb dX12_inside_26 rfl (lv_at hl 0 rfl) ?_
  refine nv_if_le (tgt := 36) hx hb dX12_inside_27 (by decide) (by omega) (fun _ => ?_) (fun h => absurd h (by decide))
  refine lv_aload_n hx hb dX12_inside_36 rfl (lv_at hl 1 rfl) ?_
  refine va_get (ci := 9) (C := RX12) (T := TX12) (N := 28) hx hb ht iFX12 hown hK hP 0 rfl rfl 4 (by decide) (ht _ kw4_114) (fun _ h9 => h9) rfl dX12_inside_37 ?_
  refine nv_bipush (k := 6) hx hb dX12_inside_40 (by decide) ?_
  refine ro_S S (c_X12_at (AR_of (ws := mW cy o ad 0 os n9 bits F G u nb ns T M id ft fo f9 g pt ih il ip pn op so fa fp st en dr ++ tl) (kr := 3) (N := 1600) (n := n9) rfl (by omega) (by omega)) (i := 6) (by omega)) kw5_41 yv_X12_at ⟨Nat.le_of_ble_eq_true rfl, Nat.le_of_ble_eq_true rfl⟩ hK hP rfl hl.1 rfl (Nat.le_of_ble_eq_true rfl) dX12_inside_42 ⟨(Nat.zero_le _), (Nat.zero_le _)⟩ ?_
  have hq42 := tg_rd_lt f9 n9 6
  refine lv_istore_n (lv' := [(3, .int (nI (tg_rd f9 n9 6))), (2, .int (nI 0)), (0, .ref o), (1, .int (nI n9))]) hx hb dX12_inside_45 rfl hl (by decide) rfl (fun ls hl => ?_)
  refine lv_iload_n hx hb dX12_inside_46 rfl (lv_at hl 0 rfl) ?_
  refine nv_bipush (k := 58) hx hb dX12_inside_47 (by decide) ?_
  have J57 : ∀ ls : Array Slot, lv_has ls 15 [(3, .int (nI (tg_rd f9 n9 6))), (2, .int (nI 0)), (0, .ref o), (1, .int (nI n9))] → W p l e (rmw 6 0 0 141) s m args below meth c H locs 0 0 Q (F0 m 57 ls [.int (nI q)]) := by
    intro ls hl
    refine lv_istore (lv' := [(4, .int (nI q)), (3, .int (nI (tg_rd f9 n9 6))), (2, .int (nI 0)), (0, .ref o), (1, .int (nI n9))]) hx hb dX12_inside_57 hl (by decide) rfl (fun ls hl => ?_)
    refine lv_aload_n hx hb dX12_inside_59 rfl (lv_at hl 3 rfl) ?_
    refine va_get (ci := 9) (C := RX12) (T := TX12) (N := 28) hx hb ht iFX12 hown hK hP 0 rfl rfl 4 (by decide) (ht _ kw4_114) (fun _ h9 => h9) rfl dX12_inside_60 ?_
    refine nv_bipush (k := 8) hx hb dX12_inside_63 (by decide) ?_
    refine ro_S S (c_X12_eight (AR_of (ws := mW cy o ad 0 os n9 bits F G u nb ns T M id ft fo f9 g pt ih il ip pn op so fa fp st en dr ++ tl) (kr := 3) (N := 1600) (n := n9) rfl (by omega) (by omega)) (i := 8) (by omega)) kw5_69 yv_X12_eight ⟨Nat.le_of_ble_eq_true rfl, Nat.le_of_ble_eq_true rfl⟩ hK hP rfl hl.1 rfl (Nat.le_of_ble_eq_true rfl) dX12_inside_65 ⟨(Nat.zero_le _), (Nat.zero_le _)⟩ ?_
    have hq65 := tg_ei_lt f9 n9 8
    rw [← ehi]
    refine lv_lstore (lv' := [(5, .long (lN (hi))), (4, .int (nI q)), (3, .int (nI (tg_rd f9 n9 6))), (2, .int (nI 0)), (0, .ref o), (1, .int (nI n9))]) hx hb dX12_inside_68 hl (by decide) rfl (fun ls hl => ?_)
    refine lv_aload_n hx hb dX12_inside_70 rfl (lv_at hl 4 rfl) ?_
    refine va_get (ci := 9) (C := RX12) (T := TX12) (N := 28) hx hb ht iFX12 hown hK hP 0 rfl rfl 4 (by decide) (ht _ kw4_114) (fun _ h9 => h9) rfl dX12_inside_71 ?_
    refine nv_bipush (k := 16) hx hb dX12_inside_74 (by decide) ?_
    refine ro_S S (c_X12_eight (AR_of (ws := mW cy o ad 0 os n9 bits F G u nb ns T M id ft fo f9 g pt ih il ip pn op so fa fp st en dr ++ tl) (kr := 3) (N := 1600) (n := n9) rfl (by omega) (by omega)) (i := 16) (by omega)) kw5_69 yv_X12_eight ⟨Nat.le_of_ble_eq_true rfl, Nat.le_of_ble_eq_true rfl⟩ hK hP rfl hl.1 rfl (Nat.le_of_ble_eq_true rfl) dX12_inside_76 ⟨(Nat.zero_le _), (Nat.zero_le _)⟩ ?_
    have hq76 := tg_ei_lt f9 n9 16
    rw [← elo]
    refine lv_lstore (lv' := [(7, .long (lN (lo))), (5, .long (lN (hi))), (4, .int (nI q)), (3, .int (nI (tg_rd f9 n9 6))), (2, .int (nI 0)), (0, .ref o), (1, .int (nI n9))]) hx hb dX12_inside_79 hl (by decide) rfl (fun ls hl => ?_)
    refine lv_iload hx hb dX12_inside_81 (lv_at hl 2 rfl) ?_
    refine nv_iconst (k := 1) hx hb dX12_inside_83 rfl ?_
    have J108 : ∀ ls : Array Slot, lv_has ls 15 [(7, .long (lN (lo))), (5, .long (lN (hi))), (4, .int (nI q)), (3, .int (nI (tg_rd f9 n9 6))), (2, .int (nI 0)), (0, .ref o), (1, .int (nI n9))] → W p l e (rmw 6 0 0 141) s m args below meth c H locs 0 0 Q (F0 m 108 ls [.int (nI port)]) := by
      intro ls hl
      refine lv_istore (lv' := [(9, .int (nI port)), (7, .long (lN (lo))), (5, .long (lN (hi))), (4, .int (nI q)), (3, .int (nI (tg_rd f9 n9 6))), (2, .int (nI 0)), (0, .ref o), (1, .int (nI n9))]) hx hb dX12_inside_108 hl (by decide) rfl (fun ls hl => ?_)
      refine lv_aload_n hx hb dX12_inside_110 rfl (lv_at hl 6 rfl) ?_
      refine lv_aload_n hx hb dX12_inside_111 rfl (lv_at hl 6 rfl) ?_
      refine va_get (ci := 9) (C := RX12) (T := TX12) (N := 28) hx hb ht iFX12 hown hK hP 0 rfl rfl 4 (by decide) (ht _ kw4_114) (fun _ h9 => h9) rfl dX12_inside_112 ?_
      refine nv_bipush (k := 24) hx hb dX12_inside_115 (by decide) ?_
      refine ro_S S (c_X12_eight (AR_of (ws := mW cy o ad 0 os n9 bits F G u nb ns T M id ft fo f9 g pt ih il ip pn op so fa fp st en dr ++ tl) (kr := 3) (N := 1600) (n := n9) rfl (by omega) (by omega)) (i := 24) (by omega)) kw5_69 yv_X12_eight ⟨Nat.le_of_ble_eq_true rfl, Nat.le_of_ble_eq_true rfl⟩ hK hP rfl hl.1 rfl (Nat.le_of_ble_eq_true rfl) dX12_inside_117 ⟨(Nat.zero_le _), (Nat.zero_le _)⟩ ?_
      have hq117 := tg_ei_lt f9 n9 24
      refine lv_aload_n hx hb dX12_inside_120 rfl (lv_at hl 6 rfl) ?_
      refine va_get (ci := 9) (C := RX12) (T := TX12) (N := 28) hx hb ht iFX12 hown hK hP 0 rfl rfl 4 (by decide) (ht _ kw4_114) (fun _ h9 => h9) rfl dX12_inside_121 ?_
      refine nv_bipush (k := 32) hx hb dX12_inside_124 (by decide) ?_
      refine ro_S S (c_X12_eight (AR_of (ws := mW cy o ad 0 os n9 bits F G u nb ns T M id ft fo f9 g pt ih il ip pn op so fa fp st en dr ++ tl) (kr := 3) (N := 1600) (n := n9) rfl (by omega) (by omega)) (i := 32) (by omega)) kw5_69 yv_X12_eight ⟨Nat.le_of_ble_eq_true rfl, Nat.le_of_ble_eq_true rfl⟩ hK hP rfl hl.1 rfl (Nat.le_of_ble_eq_true rfl) dX12_inside_126 ⟨(Nat.zero_le _), (Nat.zero_le _)⟩ ?_
      have hq126 := tg_ei_lt f9 n9 32
      refine ro_V S (c_X12_drawnOf (ws := mW cy o ad 0 os n9 bits F G u nb ns T M id ft fo f9 g pt ih il ip pn op so fa fp st en dr ++ tl) (km := 0) rfl rfl (by omega) (hi := tg_ei (tg_rd f9 n9) 24) (lo := tg_ei (tg_rd f9 n9) 32) (by omega) (by omega)) kw4_237 yv_X12_drawnOf ⟨Nat.le_of_ble_eq_true rfl, Nat.le_of_ble_eq_true rfl⟩ hK hP (va_recv hK hP (ci := 9) (q0 := 0) rfl rfl) rfl hl.1 rfl (Nat.le_of_ble_eq_true rfl) dX12_inside_129 ⟨(Nat.zero_le _), (Nat.zero_le _)⟩ ?_
      have hq129 := tg_dr_lt (bits := bits) (hi := tg_ei (tg_rd f9 n9) 24) (lo := tg_ei (tg_rd f9 n9) 32) (by omega)
      rw [← efar]
      refine lv_istore (lv' := [(10, .int (nI far)), (9, .int (nI port)), (7, .long (lN (lo))), (5, .long (lN (hi))), (4, .int (nI q)), (3, .int (nI (tg_rd f9 n9 6))), (2, .int (nI 0)), (0, .ref o), (1, .int (nI n9))]) hx hb dX12_inside_132 hl (by decide) rfl (fun ls hl => ?_)
      refine lv_iload hx hb dX12_inside_134 (lv_at hl 4 rfl) ?_
      refine nv_iconst (k := 1) hx hb dX12_inside_136 rfl ?_
      have J153 : ∀ ls : Array Slot, lv_has ls 15 [(10, .int (nI far)), (9, .int (nI port)), (7, .long (lN (lo))), (5, .long (lN (hi))), (4, .int (nI q)), (3, .int (nI (tg_rd f9 n9 6))), (2, .int (nI 0)), (0, .ref o), (1, .int (nI n9))] → W p l e (rmw 6 0 0 141) s m args below meth c H locs 0 0 Q (F0 m 153 ls [.int (nI fpt)]) := by
        intro ls hl
        refine lv_istore (lv' := [(11, .int (nI fpt)), (10, .int (nI far)), (9, .int (nI port)), (7, .long (lN (lo))), (5, .long (lN (hi))), (4, .int (nI q)), (3, .int (nI (tg_rd f9 n9 6))), (2, .int (nI 0)), (0, .ref o), (1, .int (nI n9))]) hx hb dX12_inside_153 hl (by decide) rfl (fun ls hl => ?_)
        refine lv_iload hx hb dX12_inside_155 (lv_at hl 5 rfl) ?_
        refine nv_bipush (k := 6) hx hb dX12_inside_157 (by decide) ?_
        have J175 : ∀ ls : Array Slot, lv_has ls 15 [(11, .int (nI fpt)), (10, .int (nI far)), (9, .int (nI port)), (7, .long (lN (lo))), (5, .long (lN (hi))), (4, .int (nI q)), (3, .int (nI (tg_rd f9 n9 6))), (2, .int (nI 0)), (0, .ref o), (1, .int (nI n9))] → W p l e (rmw 6 0 0 141) s m args below meth c H locs 0 0 Q (F0 m 175 ls [.int (nI (3 - ev))]) := by
          intro ls hl
          refine lv_istore (lv' := [(12, .int (nI (3 - ev))), (11, .int (nI fpt)), (10, .int (nI far)), (9, .int (nI port)), (7, .long (lN (lo))), (5, .long (lN (hi))), (4, .int (nI q)), (3, .int (nI (tg_rd f9 n9 6))), (2, .int (nI 0)), (0, .ref o), (1, .int (nI n9))]) hx hb dX12_inside_175 hl (by decide) rfl (fun ls hl => ?_)
          refine lv_aload_n hx hb dX12_inside_177 rfl (lv_at hl 9 rfl) ?_
          refine lv_iload hx hb dX12_inside_178 (lv_at hl 6 rfl) ?_
          refine lv_lload hx hb dX12_inside_180 (lv_at hl 5 rfl) ?_
          refine lv_lload hx hb dX12_inside_182 (lv_at hl 4 rfl) ?_
          refine lv_iload hx hb dX12_inside_184 (lv_at hl 3 rfl) ?_
          refine ro_V S (c_X12_findInner (ws := mW cy o ad 0 os n9 bits F G u nb ns T M id ft fo f9 g pt ih il ip pn op so fa fp st en dr ++ tl) (km := 0) rfl rfl rfl rfl rfl rfl (k_pt := 5) rfl hb_pt (k_ih := 6) rfl hb_ih (k_il := 7) rfl hb_il (k_ip := 8) rfl hb_ip hnb (q := q) (hi := hi) (lo := lo) (port := port) (by omega) (by omega) (by omega) (by omega)) kw5_82 yv_X12_findInner ⟨Nat.le_of_ble_eq_true rfl, Nat.le_of_ble_eq_true rfl⟩ hK hP (va_recv hK hP (ci := 9) (q0 := 0) rfl rfl) rfl hl.1 rfl (Nat.le_of_ble_eq_true rfl) dX12_inside_186 ⟨(Nat.zero_le _), (Nat.zero_le _)⟩ ?_
          rw [fb_at (ws := 0) hfb hb9]
          refine lv_istore (lv' := [(13, .int (nI b)), (12, .int (nI (3 - ev))), (11, .int (nI fpt)), (10, .int (nI far)), (9, .int (nI port)), (7, .long (lN (lo))), (5, .long (lN (hi))), (4, .int (nI q)), (3, .int (nI (tg_rd f9 n9 6))), (2, .int (nI 0)), (0, .ref o), (1, .int (nI n9))]) hx hb dX12_inside_189 hl (by decide) rfl (fun ls hl => ?_)
          refine lv_iload hx hb dX12_inside_191 (lv_at hl 0 rfl) ?_
          refine nv_if_ge (tgt := 200) hx hb dX12_inside_193 (by decide) (by omega) ?_
          refine lv_aload_n hx hb dX12_inside_200 rfl (lv_at hl 10 rfl) ?_
          refine lv_iload hx hb dX12_inside_201 (lv_at hl 0 rfl) ?_
          refine lv_iload hx hb dX12_inside_203 (lv_at hl 3 rfl) ?_
          refine lv_iload hx hb dX12_inside_205 (lv_at hl 2 rfl) ?_
          refine ro_V S (c_X12_findSession (ws := mW cy o ad 0 os n9 bits F G u nb ns T M id ft fo f9 g pt ih il ip pn op so fa fp st en dr ++ tl) (km := 0) rfl rfl rfl rfl rfl (k_so := 11) rfl hb_so (k_fa := 12) rfl hb_fa (k_fp := 13) rfl hb_fp hns (b := b) (x := far) (port := fpt) (by omega) (by omega) (by omega)) kw5_86 yv_X12_findSession ⟨Nat.le_of_ble_eq_true rfl, Nat.le_of_ble_eq_true rfl⟩ hK hP (va_recv hK hP (ci := 9) (q0 := 0) rfl rfl) rfl hl.1 rfl (Nat.le_of_ble_eq_true rfl) dX12_inside_207 ⟨(Nat.zero_le _), (Nat.zero_le _)⟩ ?_
          rw [fb_no hfj]
          refine lv_istore (lv' := [(14, .int (-1)), (13, .int (nI b)), (12, .int (nI (3 - ev))), (11, .int (nI fpt)), (10, .int (nI far)), (9, .int (nI port)), (7, .long (lN (lo))), (5, .long (lN (hi))), (4, .int (nI q)), (3, .int (nI (tg_rd f9 n9 6))), (2, .int (nI 0)), (0, .ref o), (1, .int (nI n9))]) hx hb dX12_inside_210 hl (by decide) rfl (fun ls hl => ?_)
          refine lv_iload hx hb dX12_inside_212 (lv_at hl 0 rfl) ?_
          refine lv_if_ge (tgt := 261) hx hb dX12_inside_214 (by decide) (fun h9 => absurd h9 (by decide)) (fun _ => ?_)
          refine lv_iload hx hb dX12_inside_217 (lv_at hl 8 rfl) ?_
          refine nv_bipush (k := 6) hx hb dX12_inside_219 (by decide) ?_
          refine nv_icmp_ne (tgt := 230) hx hb dX12_inside_221 (by decide) (by omega) (by omega) (fun h221 => ?_) (fun h221 => ?_)
          · skip
            refine lv_aload_n hx hb dX12_inside_230 rfl (lv_at hl 11 rfl) ?_
            refine va_get (ci := 9) (C := RX12) (T := TX12) (N := 28) hx hb ht iFX12 hown hK hP 0 rfl rfl 18 (by decide) (ht _ kw4_128) (fun _ h9 => h9) rfl dX12_inside_231 ?_
            refine nv_sipush (k := 128) hx hb dX12_inside_234 (by decide) ?_
            refine nv_icmp_eq (tgt := 254) hx hb dX12_inside_237 (by decide) (by omega) (by omega) (fun h237 => ?_) (fun h237 => ?_)
            · skip
              refine lv_aload_n hx hb dX12_inside_254 rfl (lv_at hl 11 rfl) ?_
              refine nv_bipush (k := 15) hx hb dX12_inside_255 (by decide) ?_
              refine wr_V S (c_X12_drops (x := 15) (by omega)) kw5_75 yv_X12_drops ⟨Nat.le_of_ble_eq_true rfl, Nat.le_of_ble_eq_true rfl⟩ hK hP hD hS hA (va_recv hK hP (ci := 9) (q0 := 0) rfl rfl) rfl hl.1 rfl (Nat.le_of_ble_eq_true rfl) dX12_inside_257 ⟨Nat.zero_le _, Nat.zero_le _⟩ (fun u2 H locs hu2 hP hD hS => ?_)
              have hP : va_P D vwCl (mW cy o ad 0 os n9 bits F G u nb ns T M id ft fo f9 g pt ih il ip pn op so fa fp st en (va_up dr 15 (dr 15 + 1)) ++ tl) H := hP
              have hD : va_D A (mW cy o ad 0 os n9 bits F G u nb ns T M id ft fo f9 g pt ih il ip pn op so fa fp st en (va_up dr 15 (dr 15 + 1)) ++ tl) := hD
              refine W.eq (g2 := F0 m 260 ls [.int (- nI 15)]) rfl ?_
              exact hend f9 rfl hf8 hP hD hS dX12_inside_260
            refine lv_iload hx hb dX12_inside_240 (lv_at hl 1 rfl) ?_
            refine nv_if_ge (tgt := 261) hx hb dX12_inside_242 (by decide) (by omega) ?_
            exfalso; omega
          refine lv_iload hx hb dX12_inside_224 (lv_at hl 2 rfl) ?_
          refine nv_iconst (k := 1) hx hb dX12_inside_226 rfl ?_
          refine nv_icmp_ne (tgt := 254) hx hb dX12_inside_227 (by decide) (by omega) (by omega) (fun h227 => ?_) (fun h227 => ?_)
          · skip
            refine lv_aload_n hx hb dX12_inside_254 rfl (lv_at hl 11 rfl) ?_
            refine nv_bipush (k := 15) hx hb dX12_inside_255 (by decide) ?_
            refine wr_V S (c_X12_drops (x := 15) (by omega)) kw5_75 yv_X12_drops ⟨Nat.le_of_ble_eq_true rfl, Nat.le_of_ble_eq_true rfl⟩ hK hP hD hS hA (va_recv hK hP (ci := 9) (q0 := 0) rfl rfl) rfl hl.1 rfl (Nat.le_of_ble_eq_true rfl) dX12_inside_257 ⟨Nat.zero_le _, Nat.zero_le _⟩ (fun u2 H locs hu2 hP hD hS => ?_)
            have hP : va_P D vwCl (mW cy o ad 0 os n9 bits F G u nb ns T M id ft fo f9 g pt ih il ip pn op so fa fp st en (va_up dr 15 (dr 15 + 1)) ++ tl) H := hP
            have hD : va_D A (mW cy o ad 0 os n9 bits F G u nb ns T M id ft fo f9 g pt ih il ip pn op so fa fp st en (va_up dr 15 (dr 15 + 1)) ++ tl) := hD
            refine W.eq (g2 := F0 m 260 ls [.int (- nI 15)]) rfl ?_
            exact hend f9 rfl hf8 hP hD hS dX12_inside_260
          refine lv_aload_n hx hb dX12_inside_230 rfl (lv_at hl 11 rfl) ?_
          refine va_get (ci := 9) (C := RX12) (T := TX12) (N := 28) hx hb ht iFX12 hown hK hP 0 rfl rfl 18 (by decide) (ht _ kw4_128) (fun _ h9 => h9) rfl dX12_inside_231 ?_
          refine nv_sipush (k := 128) hx hb dX12_inside_234 (by decide) ?_
          refine nv_icmp_eq (tgt := 254) hx hb dX12_inside_237 (by decide) (by omega) (by omega) (fun h237 => ?_) (fun h237 => ?_)
          · skip
            refine lv_aload_n hx hb dX12_inside_254 rfl (lv_at hl 11 rfl) ?_
            refine nv_bipush (k := 15) hx hb dX12_inside_255 (by decide) ?_
            refine wr_V S (c_X12_drops (x := 15) (by omega)) kw5_75 yv_X12_drops ⟨Nat.le_of_ble_eq_true rfl, Nat.le_of_ble_eq_true rfl⟩ hK hP hD hS hA (va_recv hK hP (ci := 9) (q0 := 0) rfl rfl) rfl hl.1 rfl (Nat.le_of_ble_eq_true rfl) dX12_inside_257 ⟨Nat.zero_le _, Nat.zero_le _⟩ (fun u2 H locs hu2 hP hD hS => ?_)
            have hP : va_P D vwCl (mW cy o ad 0 os n9 bits F G u nb ns T M id ft fo f9 g pt ih il ip pn op so fa fp st en (va_up dr 15 (dr 15 + 1)) ++ tl) H := hP
            have hD : va_D A (mW cy o ad 0 os n9 bits F G u nb ns T M id ft fo f9 g pt ih il ip pn op so fa fp st en (va_up dr 15 (dr 15 + 1)) ++ tl) := hD
            refine W.eq (g2 := F0 m 260 ls [.int (- nI 15)]) rfl ?_
            exact hend f9 rfl hf8 hP hD hS dX12_inside_260
          refine lv_iload hx hb dX12_inside_240 (lv_at hl 1 rfl) ?_
          refine nv_if_ge (tgt := 261) hx hb dX12_inside_242 (by decide) (by omega) ?_
          exfalso; omega
        refine nv_icmp_ne (tgt := 174) hx hb dX12_inside_159 (by decide) (by omega) (by omega) (fun h159 => ?_) (fun h159 => ?_)
        · skip
          refine nv_iconst (k := 3) hx hb dX12_inside_174 rfl ?_
          refine W.eq (g2 := F0 m 175 ls [.int (nI (3 - ev))]) (congrArg (fun z9 => F0 m 175 ls [.int (nI z9)]) (show 3 = 3 - ev from (by rw [eev, ev_k (q := q)]; split <;> first | rfl | (exfalso; omega)))) ?_
          exact J175 ls (lv_sub hl [0, 1, 2, 3, 4, 5, 6, 7, 8, 9] rfl)
        refine lv_aload_n hx hb dX12_inside_162 rfl (lv_at hl 8 rfl) ?_
        refine va_get (ci := 9) (C := RX12) (T := TX12) (N := 28) hx hb ht iFX12 hown hK hP 0 rfl rfl 4 (by decide) (ht _ kw4_114) (fun _ h9 => h9) rfl dX12_inside_163 ?_
        refine nv_bipush (k := 40) hx hb dX12_inside_166 (by decide) ?_
        refine ro_S S (c_X12_kindOf (AR_of (ws := mW cy o ad 0 os n9 bits F G u nb ns T M id ft fo f9 g pt ih il ip pn op so fa fp st en dr ++ tl) (kr := 3) (N := 1600) (n := n9) rfl (by omega) (by omega)) (hd := 40) (by omega)) kw5_79 yv_X12_kindOf ⟨Nat.le_of_ble_eq_true rfl, Nat.le_of_ble_eq_true rfl⟩ hK hP rfl hl.1 rfl (Nat.le_of_ble_eq_true rfl) dX12_inside_168 ⟨(Nat.zero_le _), (Nat.zero_le _)⟩ ?_
        refine lv_goto (tgt := 175) hx hb dX12_inside_171 (by decide) ?_
        refine W.eq (g2 := F0 m 175 ls [.int (nI (3 - ev))]) (congrArg (fun z9 => F0 m 175 ls [.int (nI z9)]) (show 3 - tg_event (tg_rd f9 n9) 40 6 = 3 - ev from (by rw [eev, ev_k (q := q)]; split <;> first | rfl | (exfalso; omega)))) ?_
        exact J175 ls (lv_sub hl [0, 1, 2, 3, 4, 5, 6, 7, 8, 9] rfl)
      refine nv_icmp_ne (tgt := 144) hx hb dX12_inside_137 (by decide) (by omega) (by omega) (fun h137 => ?_) (fun h137 => ?_)
      · skip
        refine lv_aload_n hx hb dX12_inside_144 rfl (lv_at hl 7 rfl) ?_
        refine va_get (ci := 9) (C := RX12) (T := TX12) (N := 28) hx hb ht iFX12 hown hK hP 0 rfl rfl 4 (by decide) (ht _ kw4_114) (fun _ h9 => h9) rfl dX12_inside_145 ?_
        refine nv_bipush (k := 42) hx hb dX12_inside_148 (by decide) ?_
        refine ro_S S (c_X12_two (AR_of (ws := mW cy o ad 0 os n9 bits F G u nb ns T M id ft fo f9 g pt ih il ip pn op so fa fp st en dr ++ tl) (kr := 3) (N := 1600) (n := n9) rfl (by omega) (by omega)) (i := 42) (by omega)) kw5_44 yv_X12_two ⟨Nat.le_of_ble_eq_true rfl, Nat.le_of_ble_eq_true rfl⟩ hK hP rfl hl.1 rfl (Nat.le_of_ble_eq_true rfl) dX12_inside_150 ⟨(Nat.zero_le _), (Nat.zero_le _)⟩ ?_
        have hq150 := tg_pr_lt f9 n9 42
        refine W.eq (g2 := F0 m 153 ls [.int (nI fpt)]) (congrArg (fun z9 => F0 m 153 ls [.int (nI z9)]) (show tg_pr (tg_rd f9 n9) 42 = fpt from (by rw [efpt]; unfold tg_dpa; (repeat' split) <;> first | rfl | (exfalso; omega)))) ?_
        exact J153 ls (lv_sub hl [0, 1, 2, 3, 4, 5, 6, 7, 8] rfl)
      refine nv_iconst (k := 0) hx hb dX12_inside_140 rfl ?_
      refine lv_goto (tgt := 153) hx hb dX12_inside_141 (by decide) ?_
      refine W.eq (g2 := F0 m 153 ls [.int (nI fpt)]) (congrArg (fun z9 => F0 m 153 ls [.int (nI z9)]) (show 0 = fpt from (by rw [efpt]; unfold tg_dpa; (repeat' split) <;> first | rfl | (exfalso; omega)))) ?_
      exact J153 ls (lv_sub hl [0, 1, 2, 3, 4, 5, 6, 7, 8] rfl)
    refine nv_icmp_ne (tgt := 99) hx hb dX12_inside_84 (by decide) (by omega) (by omega) (fun h84 => ?_) (fun h84 => ?_)
    · skip
      refine lv_aload_n hx hb dX12_inside_99 rfl (lv_at hl 5 rfl) ?_
      refine va_get (ci := 9) (C := RX12) (T := TX12) (N := 28) hx hb ht iFX12 hown hK hP 0 rfl rfl 4 (by decide) (ht _ kw4_114) (fun _ h9 => h9) rfl dX12_inside_100 ?_
      refine nv_bipush (k := 40) hx hb dX12_inside_103 (by decide) ?_
      refine ro_S S (c_X12_two (AR_of (ws := mW cy o ad 0 os n9 bits F G u nb ns T M id ft fo f9 g pt ih il ip pn op so fa fp st en dr ++ tl) (kr := 3) (N := 1600) (n := n9) rfl (by omega) (by omega)) (i := 40) (by omega)) kw5_44 yv_X12_two ⟨Nat.le_of_ble_eq_true rfl, Nat.le_of_ble_eq_true rfl⟩ hK hP rfl hl.1 rfl (Nat.le_of_ble_eq_true rfl) dX12_inside_105 ⟨(Nat.zero_le _), (Nat.zero_le _)⟩ ?_
      have hq105 := tg_pr_lt f9 n9 40
      refine W.eq (g2 := F0 m 108 ls [.int (nI port)]) (congrArg (fun z9 => F0 m 108 ls [.int (nI z9)]) (show tg_pr (tg_rd f9 n9) 40 = port from (by rw [eport]; unfold tg_spa; split <;> first | rfl | (exfalso; omega)))) ?_
      exact J108 ls (lv_sub hl [0, 1, 2, 3, 4, 5, 6] rfl)
    refine lv_aload_n hx hb dX12_inside_87 rfl (lv_at hl 5 rfl) ?_
    refine va_get (ci := 9) (C := RX12) (T := TX12) (N := 28) hx hb ht iFX12 hown hK hP 0 rfl rfl 4 (by decide) (ht _ kw4_114) (fun _ h9 => h9) rfl dX12_inside_88 ?_
    refine nv_bipush (k := 44) hx hb dX12_inside_91 (by decide) ?_
    refine ro_S S (c_X12_two (AR_of (ws := mW cy o ad 0 os n9 bits F G u nb ns T M id ft fo f9 g pt ih il ip pn op so fa fp st en dr ++ tl) (kr := 3) (N := 1600) (n := n9) rfl (by omega) (by omega)) (i := 44) (by omega)) kw5_44 yv_X12_two ⟨Nat.le_of_ble_eq_true rfl, Nat.le_of_ble_eq_true rfl⟩ hK hP rfl hl.1 rfl (Nat.le_of_ble_eq_true rfl) dX12_inside_93 ⟨(Nat.zero_le _), (Nat.zero_le _)⟩ ?_
    have hq93 := tg_pr_lt f9 n9 44
    refine lv_goto (tgt := 108) hx hb dX12_inside_96 (by decide) ?_
    refine W.eq (g2 := F0 m 108 ls [.int (nI port)]) (congrArg (fun z9 => F0 m 108 ls [.int (nI z9)]) (show tg_pr (tg_rd f9 n9) 44 = port from (by rw [eport]; unfold tg_spa; split <;> first | rfl | (exfalso; omega)))) ?_
    exact J108 ls (lv_sub hl [0, 1, 2, 3, 4, 5, 6] rfl)
  refine nv_icmp_ne (tgt := 56) hx hb dX12_inside_49 (by decide) (by omega) (by omega) (fun h49 => ?_) (fun h49 => ?_)
  · skip
    refine lv_iload_n hx hb dX12_inside_56 rfl (lv_at hl 0 rfl) ?_
    refine W.eq (g2 := F0 m 57 ls [.int (nI q)]) (congrArg (fun z9 => F0 m 57 ls [.int (nI z9)]) (show tg_rd f9 n9 6 = q from (by rw [eq0]; split <;> omega))) ?_
    exact J57 ls (lv_sub hl [0, 1, 2, 3] rfl)
  refine nv_iconst (k := 1) hx hb dX12_inside_52 rfl ?_
  refine lv_goto (tgt := 57) hx hb dX12_inside_53 (by decide) ?_
  refine W.eq (g2 := F0 m 57 ls [.int (nI q)]) (congrArg (fun z9 => F0 m 57 ls [.int (nI z9)]) (show 1 = q from (by rw [eq0]; split <;> omega))) ?_
  exact J57 ls (lv_sub hl [0, 1, 2, 3] rfl)
set_option maxHeartbeats 4000000 in
set_option maxRecDepth 100000 in
theorem c_X12_insideb {l : Launch} {D : va_G} {cy : Nat → ClassId} {o : Nat} {ad : Nat → Nat} {tl : va_W} {tp os sz bits F G u nb ns T M id : Nat} {ft fo fi : Nat → UInt8} {g : Nat → Int32} {pt ih il ip pn op so fa fp st en dr : Nat → Nat} (hb_pt : ∀ i, pt i < 2 ^ 31) (hb_ih : ∀ i, ih i < 2 ^ 64) (hb_il : ∀ i, il i < 2 ^ 64) (hb_ip : ∀ i, ip i < 2 ^ 31) (hb_pn : ∀ i, pn i < 2 ^ 31) (hb_op : ∀ i, op i < 2 ^ 31) (hb_pn4 : ∀ i, pn i < 4) (hb_so : ∀ i, so i < 2 ^ 31) (hb_fa : ∀ i, fa i < 2 ^ 32) (hb_fp : ∀ i, fp i < 2 ^ 31) (hb_st : ∀ i, st i ≤ 7) (htp : tp ≤ 1600) (hos : os ≤ 1640) (hsi : SI bits F G) (hu4 : u ≤ 4) (hnb : nb ≤ 64) (hns : ns ≤ 128) {n9 : Nat} (hn9 : n9 ≤ tp) {q port far fpt ev hi lo : Nat} (eq0 : q = if tg_rd ft n9 6 = 58 then 1 else tg_rd ft n9 6) (eport : port = tg_pr (tg_rd ft n9) (40 + tg_spa q)) (efar : far = tg_dr bits (tg_ei (tg_rd ft n9) 24) (tg_ei (tg_rd ft n9) 32)) (efpt : fpt = if q = 1 then 0 else tg_pr (tg_rd ft n9) (40 + tg_dpa q)) (eev : ev = tg_event (tg_rd ft n9) 40 q) (ehi : hi = tg_ei (tg_rd ft n9) 8) (elo : lo = tg_ei (tg_rd ft n9) 16) (hz0 : tg_in (tg_rd ft n9) n9 bits F G u = 0) (hfb : ¬ tg_first (fun k => decide (pt k = q ∧ ih k = hi ∧ il k = lo ∧ ip k = port)) nb < nb) (hno9 : 64 ≤ nb ∨ ¬ ((q ≠ 6 ∨ ev = 2) ∧ ns < 128)) : WR (S := (Nat → UInt8)) l yX12_inside cX12_inside 15 (some .int) 6 0 0 141 [.ref o, .int (nI n9)] D cy (mW cy o ad tp os sz bits F G u nb ns T M id ft fo fi g pt ih il ip pn op so fa fp st en dr ++ tl) (fun u_ => some (.int (- nI 15))) (fun z9 => (∀ k, k < n9 → z9 k = ft k)) (fun z9 => mW cy o ad 0 os n9 bits F G u nb ns T M id ft fo z9 g pt ih il ip pn op so fa fp st en (va_up dr 15 (dr 15 + 1)) ++ tl) := by
  refine WRi (by decide) (lv0 := [(0, .ref o), (1, .int (nI n9))]) rfl (Nat.le_of_ble_eq_true rfl) ?_
  intro p e s m args below meth c ls A Q S hnm hP hK hD hS hA hend hl
  have hx := S.1
  have hb := S.2.1
  have hown : s.vm.findClass RX12 = some m.cls := S.2.2.2.1
  have ht : ∀ w ∈ lw_g, w.before args s = true := fun w h => S.2.2.2.2 w (List.mem_cons_of_mem _ h)
  have hP : va_P D vwCl (mW cy o ad tp os sz bits F G u nb ns T M id ft fo fi g pt ih il ip pn op so fa fp st en dr ++ tl) s.heap := hP
  have hu : u ≤ 4 := hu4
  refine lv_iload_n hx hb dX12_inside_0 rfl (lv_at hl 1 rfl) ?_
  refine nv_i2l hx hb (by omega) dX12_inside_1 ?_
  refine lv_lconst (v := lN 0) hx hb dX12_inside_2 (by decide) ?_
  refine lv_aload_n hx hb dX12_inside_3 rfl (lv_at hl 0 rfl) ?_
  refine va_get (ci := 9) (C := RX12) (T := TX12) (N := 28) hx hb ht iFX12 hown hK hP 0 rfl rfl 1 (by decide) (ht _ kw4_111) (fun _ h9 => h9) rfl dX12_inside_4 ?_
  refine nv_i2l hx hb (by omega) dX12_inside_7 ?_
  refine ro_S S (c_X12_isIn (v := lN (n9)) (lo := lN (0)) (hi := lN (tp))) kw5_14 yv_X12_isIn ⟨Nat.le_of_ble_eq_true rfl, Nat.le_of_ble_eq_true rfl⟩ hK hP rfl hl.1 rfl (Nat.le_of_ble_eq_true rfl) dX12_inside_8 ⟨(Nat.zero_le _), (Nat.zero_le _)⟩ ?_
  rw [show tg_isIn (lN (n9)) (lN (0)) (lN (tp)) = true from (by rw [isIn_nat (by omega) (by omega) (by omega)]; exact decide_eq_true (by omega))]
  refine nv_if_neb (tgt := 16) hx hb dX12_inside_11 (by decide) (fun _ => ?_) (fun h => absurd h (by decide))
  refine lv_aload_n hx hb dX12_inside_16 rfl (lv_at hl 0 rfl) ?_
  refine lv_iload_n hx hb dX12_inside_17 rfl (lv_at hl 1 rfl) ?_
  refine wr_V S (c_X12_begin (x := n9) (by omega)) kw5_33 yv_X12_begin ⟨Nat.le_of_ble_eq_true rfl, Nat.le_of_ble_eq_true rfl⟩ hK hP hD hS hA (va_recv hK hP (ci := 9) (q0 := 0) rfl rfl) rfl hl.1 rfl (Nat.le_of_ble_eq_true rfl) dX12_inside_18 ⟨Nat.zero_le _, Nat.zero_le _⟩ (fun u1 H locs hu1 hP hD hS => ?_)
  obtain ⟨f9, hf9⟩ : ∃ z, z = (fun k => if k < n9 then ft k else fi k) := ⟨_, rfl⟩
  rw [← hf9] at hP hD
  have hP : va_P D vwCl (mW cy o ad 0 os n9 bits F G u nb ns T M id ft fo f9 g pt ih il ip pn op so fa fp st en dr ++ tl) H := hP
  have hD : va_D A (mW cy o ad 0 os n9 bits F G u nb ns T M id ft fo f9 g pt ih il ip pn op so fa fp st en dr ++ tl) := hD
  have hf8 : ∀ k, k < n9 → f9 k = ft k := fun k hk => by rw [hf9]; exact if_pos hk
  have erd : tg_rd f9 n9 = tg_rd ft n9 := rd_cong hf8
  rw [← erd] at eq0 eport efar efpt eev ehi elo hz0
  have hin := in0 hz0
  have hq3 : q = 1 ∨ q = 6 ∨ q = 17 := by rw [eq0]; split <;> omega
  have hsum : tg_sumAt q + 2 ≤ n9 - 40 := by have h6 : q = 6 → tg_rd f9 n9 6 = 6 := (by rw [eq0]; split <;> omega); unfold tg_sumAt; (repeat' split) <;> omega
  have h620 : q = 6 → 20 ≤ n9 - 40 := by have h6 : q = 6 → tg_rd f9 n9 6 = 6 := (by rw [eq0]; split <;> omega); exact fun z => hin.1.2.2.2.1 (h6 z)
  have hport : port < 65536 := by rw [eport]; exact tg_pr_lt _ _ _
  have hfar : far < 2 ^ 32 := by rw [efar]; exact tg_dr_lt (by have := hsi.b; omega)
  have hfpt : fpt < 65536 := by rw [efpt]; split; omega; exact tg_pr_lt _ _ _
  have hev : ev ≤ 3 := by rw [eev]; exact tg_event_le _ _ _
  have hhi : hi < 2 ^ 64 := by rw [ehi]; exact tg_ei_lt _ _ _
  have hlo : lo < 2 ^ 64 := by rw [elo]; exact tg_ei_lt _ _ _
  have hu0 : 1 ≤ u := by omega
  have hbs : bits = 32 ∨ bits = 40 ∨ bits = 48 ∨ bits = 56 ∨ bits = 64 ∨ bits = 96 := by have := hsi.b; omega
  refine W.eq (g2 := F0 m 21 ls []) rfl ?_
  refine lv_aload_n hx hb dX12_inside_21 rfl (lv_at hl 0 rfl) ?_
  refine ro_V S (c_X12_lackOfInside (ws := mW cy o ad 0 os n9 bits F G u nb ns T M id ft fo f9 g pt ih il ip pn op so fa fp st en dr ++ tl) (km := 0) rfl rfl rfl rfl rfl rfl rfl (AR_of (ws := mW cy o ad 0 os n9 bits F G u nb ns T M id ft fo f9 g pt ih il ip pn op so fa fp st en dr ++ tl) (kr := 3) (N := 1600) rfl (by omega) (by omega)) hsi hu) kw5_37 yv_X12_lackOfInside ⟨Nat.le_of_ble_eq_true rfl, Nat.le_of_ble_eq_true rfl⟩ hK hP (va_recv hK hP (ci := 9) (q0 := 0) rfl rfl) rfl hl.1 rfl (Nat.le_of_ble_eq_true rfl) dX12_inside_22 ⟨(Nat.zero_le _), (Nat.zero_le _)⟩ ?_
  rw [hz0]
  refine lv_istore_n (lv' := [(2, .int (nI 0)), (0, .ref o), (1, .int (nI n9))]) hx hb dX12_inside_25 rfl hl (by decide) rfl (fun ls hl => ?_)
  refine lv_iload_n hx hb dX12_inside_26 rfl (lv_at hl 0 rfl) ?_
  refine nv_if_le (tgt := 36) hx hb dX12_inside_27 (by decide) (by omega) (fun _ => ?_) (fun h => absurd h (by decide))
  refine lv_aload_n hx hb dX12_inside_36 rfl (lv_at hl 1 rfl) ?_
  refine va_get (ci := 9) (C := RX12) (T := TX12) (N := 28) hx hb ht iFX12 hown hK hP 0 rfl rfl 4 (by decide) (ht _ kw4_114) (fun _ h9 => h9) rfl dX12_inside_37 ?_
  refine nv_bipush (k := 6) hx hb dX12_inside_40 (by decide) ?_
  refine ro_S S (c_X12_at (AR_of (ws := mW cy o ad 0 os n9 bits F G u nb ns T M id ft fo f9 g pt ih il ip pn op so fa fp st en dr ++ tl) (kr := 3) (N := 1600) (n := n9) rfl (by omega) (by omega)) (i := 6) (by omega)) kw5_41 yv_X12_at ⟨Nat.le_of_ble_eq_true rfl, Nat.le_of_ble_eq_true rfl⟩ hK hP rfl hl.1 rfl (Nat.le_of_ble_eq_true rfl) dX12_inside_42 ⟨(Nat.zero_le _), (Nat.zero_le _)⟩ ?_
  have hq42 := tg_rd_lt f9 n9 6
  refine lv_istore_n (lv' := [(3, .int (nI (tg_rd f9 n9 6))), (2, .int (nI 0)), (0, .ref o), (1, .int (nI n9))]) hx hb dX12_inside_45 rfl hl (by decide) rfl (fun ls hl => ?_)
  refine lv_iload_n hx hb dX12_inside_46 rfl (lv_at hl 0 rfl) ?_
  refine nv_bipush (k := 58) hx hb dX12_inside_47 (by decide) ?_
  have J57 : ∀ ls : Array Slot, lv_has ls 15 [(3, .int (nI (tg_rd f9 n9 6))), (2, .int (nI 0)), (0, .ref o), (1, .int (nI n9))] → W p l e (rmw 6 0 0 141) s m args below meth c H locs 0 0 Q (F0 m 57 ls [.int (nI q)]) := by
    intro ls hl
    refine lv_istore (lv' := [(4, .int (nI q)), (3, .int (nI (tg_rd f9 n9 6))), (2, .int (nI 0)), (0, .ref o), (1, .int (nI n9))]) hx hb dX12_inside_57 hl (by decide) rfl (fun ls hl => ?_)
    refine lv_aload_n hx hb dX12_inside_59 rfl (lv_at hl 3 rfl) ?_
    refine va_get (ci := 9) (C := RX12) (T := TX12) (N := 28) hx hb ht iFX12 hown hK hP 0 rfl rfl 4 (by decide) (ht _ kw4_114) (fun _ h9 => h9) rfl dX12_inside_60 ?_
    refine nv_bipush (k := 8) hx hb dX12_inside_63 (by decide) ?_
    refine ro_S S (c_X12_eight (AR_of (ws := mW cy o ad 0 os n9 bits F G u nb ns T M id ft fo f9 g pt ih il ip pn op so fa fp st en dr ++ tl) (kr := 3) (N := 1600) (n := n9) rfl (by omega) (by omega)) (i := 8) (by omega)) kw5_69 yv_X12_eight ⟨Nat.le_of_ble_eq_true rfl, Nat.le_of_ble_eq_true rfl⟩ hK hP rfl hl.1 rfl (Nat.le_of_ble_eq_true rfl) dX12_inside_65 ⟨(Nat.zero_le _), (Nat.zero_le _)⟩ ?_
    have hq65 := tg_ei_lt f9 n9 8
    rw [← ehi]
    refine lv_lstore (lv' := [(5, .long (lN (hi))), (4, .int (nI q)), (3, .int (nI (tg_rd f9 n9 6))), (2, .int (nI 0)), (0, .ref o), (1, .int (nI n9))]) hx hb dX12_inside_68 hl (by decide) rfl (fun ls hl => ?_)
    refine lv_aload_n hx hb dX12_inside_70 rfl (lv_at hl 4 rfl) ?_
    refine va_get (ci := 9) (C := RX12) (T := TX12) (N := 28) hx hb ht iFX12 hown hK hP 0 rfl rfl 4 (by decide) (ht _ kw4_114) (fun _ h9 => h9) rfl dX12_inside_71 ?_
    refine nv_bipush (k := 16) hx hb dX12_inside_74 (by decide) ?_
    refine ro_S S (c_X12_eight (AR_of (ws := mW cy o ad 0 os n9 bits F G u nb ns T M id ft fo f9 g pt ih il ip pn op so fa fp st en dr ++ tl) (kr := 3) (N := 1600) (n := n9) rfl (by omega) (by omega)) (i := 16) (by omega)) kw5_69 yv_X12_eight ⟨Nat.le_of_ble_eq_true rfl, Nat.le_of_ble_eq_true rfl⟩ hK hP rfl hl.1 rfl (Nat.le_of_ble_eq_true rfl) dX12_inside_76 ⟨(Nat.zero_le _), (Nat.zero_le _)⟩ ?_
    have hq76 := tg_ei_lt f9 n9 16
    rw [← elo]
    refine lv_lstore (lv' := [(7, .long (lN (lo))), (5, .long (lN (hi))), (4, .int (nI q)), (3, .int (nI (tg_rd f9 n9 6))), (2, .int (nI 0)), (0, .ref o), (1, .int (nI n9))]) hx hb dX12_inside_79 hl (by decide) rfl (fun ls hl => ?_)
    refine lv_iload hx hb dX12_inside_81 (lv_at hl 2 rfl) ?_
    refine nv_iconst (k := 1) hx hb dX12_inside_83 rfl ?_
    have J108 : ∀ ls : Array Slot, lv_has ls 15 [(7, .long (lN (lo))), (5, .long (lN (hi))), (4, .int (nI q)), (3, .int (nI (tg_rd f9 n9 6))), (2, .int (nI 0)), (0, .ref o), (1, .int (nI n9))] → W p l e (rmw 6 0 0 141) s m args below meth c H locs 0 0 Q (F0 m 108 ls [.int (nI port)]) := by
      intro ls hl
      refine lv_istore (lv' := [(9, .int (nI port)), (7, .long (lN (lo))), (5, .long (lN (hi))), (4, .int (nI q)), (3, .int (nI (tg_rd f9 n9 6))), (2, .int (nI 0)), (0, .ref o), (1, .int (nI n9))]) hx hb dX12_inside_108 hl (by decide) rfl (fun ls hl => ?_)
      refine lv_aload_n hx hb dX12_inside_110 rfl (lv_at hl 6 rfl) ?_
      refine lv_aload_n hx hb dX12_inside_111 rfl (lv_at hl 6 rfl) ?_
      refine va_get (ci := 9) (C := RX12) (T := TX12) (N := 28) hx hb ht iFX12 hown hK hP 0 rfl rfl 4 (by decide) (ht _ kw4_114) (fun _ h9 => h9) rfl dX12_inside_112 ?_
      refine nv_bipush (k := 24) hx hb dX12_inside_115 (by decide) ?_
      refine ro_S S (c_X12_eight (AR_of (ws := mW cy o ad 0 os n9 bits F G u nb ns T M id ft fo f9 g pt ih il ip pn op so fa fp st en dr ++ tl) (kr := 3) (N := 1600) (n := n9) rfl (by omega) (by omega)) (i := 24) (by omega)) kw5_69 yv_X12_eight ⟨Nat.le_of_ble_eq_true rfl, Nat.le_of_ble_eq_true rfl⟩ hK hP rfl hl.1 rfl (Nat.le_of_ble_eq_true rfl) dX12_inside_117 ⟨(Nat.zero_le _), (Nat.zero_le _)⟩ ?_
      have hq117 := tg_ei_lt f9 n9 24
      refine lv_aload_n hx hb dX12_inside_120 rfl (lv_at hl 6 rfl) ?_
      refine va_get (ci := 9) (C := RX12) (T := TX12) (N := 28) hx hb ht iFX12 hown hK hP 0 rfl rfl 4 (by decide) (ht _ kw4_114) (fun _ h9 => h9) rfl dX12_inside_121 ?_
      refine nv_bipush (k := 32) hx hb dX12_inside_124 (by decide) ?_
      refine ro_S S (c_X12_eight (AR_of (ws := mW cy o ad 0 os n9 bits F G u nb ns T M id ft fo f9 g pt ih il ip pn op so fa fp st en dr ++ tl) (kr := 3) (N := 1600) (n := n9) rfl (by omega) (by omega)) (i := 32) (by omega)) kw5_69 yv_X12_eight ⟨Nat.le_of_ble_eq_true rfl, Nat.le_of_ble_eq_true rfl⟩ hK hP rfl hl.1 rfl (Nat.le_of_ble_eq_true rfl) dX12_inside_126 ⟨(Nat.zero_le _), (Nat.zero_le _)⟩ ?_
      have hq126 := tg_ei_lt f9 n9 32
      refine ro_V S (c_X12_drawnOf (ws := mW cy o ad 0 os n9 bits F G u nb ns T M id ft fo f9 g pt ih il ip pn op so fa fp st en dr ++ tl) (km := 0) rfl rfl (by omega) (hi := tg_ei (tg_rd f9 n9) 24) (lo := tg_ei (tg_rd f9 n9) 32) (by omega) (by omega)) kw4_237 yv_X12_drawnOf ⟨Nat.le_of_ble_eq_true rfl, Nat.le_of_ble_eq_true rfl⟩ hK hP (va_recv hK hP (ci := 9) (q0 := 0) rfl rfl) rfl hl.1 rfl (Nat.le_of_ble_eq_true rfl) dX12_inside_129 ⟨(Nat.zero_le _), (Nat.zero_le _)⟩ ?_
      have hq129 := tg_dr_lt (bits := bits) (hi := tg_ei (tg_rd f9 n9) 24) (lo := tg_ei (tg_rd f9 n9) 32) (by omega)
      rw [← efar]
      refine lv_istore (lv' := [(10, .int (nI far)), (9, .int (nI port)), (7, .long (lN (lo))), (5, .long (lN (hi))), (4, .int (nI q)), (3, .int (nI (tg_rd f9 n9 6))), (2, .int (nI 0)), (0, .ref o), (1, .int (nI n9))]) hx hb dX12_inside_132 hl (by decide) rfl (fun ls hl => ?_)
      refine lv_iload hx hb dX12_inside_134 (lv_at hl 4 rfl) ?_
      refine nv_iconst (k := 1) hx hb dX12_inside_136 rfl ?_
      have J153 : ∀ ls : Array Slot, lv_has ls 15 [(10, .int (nI far)), (9, .int (nI port)), (7, .long (lN (lo))), (5, .long (lN (hi))), (4, .int (nI q)), (3, .int (nI (tg_rd f9 n9 6))), (2, .int (nI 0)), (0, .ref o), (1, .int (nI n9))] → W p l e (rmw 6 0 0 141) s m args below meth c H locs 0 0 Q (F0 m 153 ls [.int (nI fpt)]) := by
        intro ls hl
        refine lv_istore (lv' := [(11, .int (nI fpt)), (10, .int (nI far)), (9, .int (nI port)), (7, .long (lN (lo))), (5, .long (lN (hi))), (4, .int (nI q)), (3, .int (nI (tg_rd f9 n9 6))), (2, .int (nI 0)), (0, .ref o), (1, .int (nI n9))]) hx hb dX12_inside_153 hl (by decide) rfl (fun ls hl => ?_)
        refine lv_iload hx hb dX12_inside_155 (lv_at hl 5 rfl) ?_
        refine nv_bipush (k := 6) hx hb dX12_inside_157 (by decide) ?_
        have J175 : ∀ ls : Array Slot, lv_has ls 15 [(11, .int (nI fpt)), (10, .int (nI far)), (9, .int (nI port)), (7, .long (lN (lo))), (5, .long (lN (hi))), (4, .int (nI q)), (3, .int (nI (tg_rd f9 n9 6))), (2, .int (nI 0)), (0, .ref o), (1, .int (nI n9))] → W p l e (rmw 6 0 0 141) s m args below meth c H locs 0 0 Q (F0 m 175 ls [.int (nI (3 - ev))]) := by
          intro ls hl
          refine lv_istore (lv' := [(12, .int (nI (3 - ev))), (11, .int (nI fpt)), (10, .int (nI far)), (9, .int (nI port)), (7, .long (lN (lo))), (5, .long (lN (hi))), (4, .int (nI q)), (3, .int (nI (tg_rd f9 n9 6))), (2, .int (nI 0)), (0, .ref o), (1, .int (nI n9))]) hx hb dX12_inside_175 hl (by decide) rfl (fun ls hl => ?_)
          refine lv_aload_n hx hb dX12_inside_177 rfl (lv_at hl 9 rfl) ?_
          refine lv_iload hx hb dX12_inside_178 (lv_at hl 6 rfl) ?_
          refine lv_lload hx hb dX12_inside_180 (lv_at hl 5 rfl) ?_
          refine lv_lload hx hb dX12_inside_182 (lv_at hl 4 rfl) ?_
          refine lv_iload hx hb dX12_inside_184 (lv_at hl 3 rfl) ?_
          refine ro_V S (c_X12_findInner (ws := mW cy o ad 0 os n9 bits F G u nb ns T M id ft fo f9 g pt ih il ip pn op so fa fp st en dr ++ tl) (km := 0) rfl rfl rfl rfl rfl rfl (k_pt := 5) rfl hb_pt (k_ih := 6) rfl hb_ih (k_il := 7) rfl hb_il (k_ip := 8) rfl hb_ip hnb (q := q) (hi := hi) (lo := lo) (port := port) (by omega) (by omega) (by omega) (by omega)) kw5_82 yv_X12_findInner ⟨Nat.le_of_ble_eq_true rfl, Nat.le_of_ble_eq_true rfl⟩ hK hP (va_recv hK hP (ci := 9) (q0 := 0) rfl rfl) rfl hl.1 rfl (Nat.le_of_ble_eq_true rfl) dX12_inside_186 ⟨(Nat.zero_le _), (Nat.zero_le _)⟩ ?_
          rw [fb_no hfb]
          refine lv_istore (lv' := [(13, .int (-1)), (12, .int (nI (3 - ev))), (11, .int (nI fpt)), (10, .int (nI far)), (9, .int (nI port)), (7, .long (lN (lo))), (5, .long (lN (hi))), (4, .int (nI q)), (3, .int (nI (tg_rd f9 n9 6))), (2, .int (nI 0)), (0, .ref o), (1, .int (nI n9))]) hx hb dX12_inside_189 hl (by decide) rfl (fun ls hl => ?_)
          refine lv_iload hx hb dX12_inside_191 (lv_at hl 0 rfl) ?_
          refine lv_if_ge (tgt := 200) hx hb dX12_inside_193 (by decide) (fun h9 => absurd h9 (by decide)) (fun _ => ?_)
          refine lv_iconst (v := -1) hx hb dX12_inside_196 (by decide) ?_
          refine lv_goto (tgt := 210) hx hb dX12_inside_197 (by decide) ?_
          refine lv_istore (lv' := [(14, .int (-1)), (13, .int (-1)), (12, .int (nI (3 - ev))), (11, .int (nI fpt)), (10, .int (nI far)), (9, .int (nI port)), (7, .long (lN (lo))), (5, .long (lN (hi))), (4, .int (nI q)), (3, .int (nI (tg_rd f9 n9 6))), (2, .int (nI 0)), (0, .ref o), (1, .int (nI n9))]) hx hb dX12_inside_210 hl (by decide) rfl (fun ls hl => ?_)
          refine lv_iload hx hb dX12_inside_212 (lv_at hl 0 rfl) ?_
          refine lv_if_ge (tgt := 261) hx hb dX12_inside_214 (by decide) (fun h9 => absurd h9 (by decide)) (fun _ => ?_)
          refine lv_iload hx hb dX12_inside_217 (lv_at hl 8 rfl) ?_
          refine nv_bipush (k := 6) hx hb dX12_inside_219 (by decide) ?_
          refine nv_icmp_ne (tgt := 230) hx hb dX12_inside_221 (by decide) (by omega) (by omega) (fun h221 => ?_) (fun h221 => ?_)
          · skip
            refine lv_aload_n hx hb dX12_inside_230 rfl (lv_at hl 11 rfl) ?_
            refine va_get (ci := 9) (C := RX12) (T := TX12) (N := 28) hx hb ht iFX12 hown hK hP 0 rfl rfl 18 (by decide) (ht _ kw4_128) (fun _ h9 => h9) rfl dX12_inside_231 ?_
            refine nv_sipush (k := 128) hx hb dX12_inside_234 (by decide) ?_
            refine nv_icmp_eq (tgt := 254) hx hb dX12_inside_237 (by decide) (by omega) (by omega) (fun h237 => ?_) (fun h237 => ?_)
            · skip
              refine lv_aload_n hx hb dX12_inside_254 rfl (lv_at hl 11 rfl) ?_
              refine nv_bipush (k := 15) hx hb dX12_inside_255 (by decide) ?_
              refine wr_V S (c_X12_drops (x := 15) (by omega)) kw5_75 yv_X12_drops ⟨Nat.le_of_ble_eq_true rfl, Nat.le_of_ble_eq_true rfl⟩ hK hP hD hS hA (va_recv hK hP (ci := 9) (q0 := 0) rfl rfl) rfl hl.1 rfl (Nat.le_of_ble_eq_true rfl) dX12_inside_257 ⟨Nat.zero_le _, Nat.zero_le _⟩ (fun u2 H locs hu2 hP hD hS => ?_)
              have hP : va_P D vwCl (mW cy o ad 0 os n9 bits F G u nb ns T M id ft fo f9 g pt ih il ip pn op so fa fp st en (va_up dr 15 (dr 15 + 1)) ++ tl) H := hP
              have hD : va_D A (mW cy o ad 0 os n9 bits F G u nb ns T M id ft fo f9 g pt ih il ip pn op so fa fp st en (va_up dr 15 (dr 15 + 1)) ++ tl) := hD
              refine W.eq (g2 := F0 m 260 ls [.int (- nI 15)]) rfl ?_
              exact hend f9 rfl hf8 hP hD hS dX12_inside_260
            refine lv_iload hx hb dX12_inside_240 (lv_at hl 1 rfl) ?_
            refine lv_if_ge (tgt := 261) hx hb dX12_inside_242 (by decide) (fun h9 => absurd h9 (by decide)) (fun _ => ?_)
            refine lv_aload_n hx hb dX12_inside_245 rfl (lv_at hl 11 rfl) ?_
            refine va_get (ci := 9) (C := RX12) (T := TX12) (N := 28) hx hb ht iFX12 hown hK hP 0 rfl rfl 11 (by decide) (ht _ kw4_121) (fun _ h9 => h9) rfl dX12_inside_246 ?_
            refine nv_bipush (k := 64) hx hb dX12_inside_249 (by decide) ?_
            refine nv_icmp_ne (tgt := 261) hx hb dX12_inside_251 (by decide) (by omega) (by omega) (fun h251 => ?_) (fun h251 => ?_)
            · skip
              exfalso; omega
            refine lv_aload_n hx hb dX12_inside_254 rfl (lv_at hl 11 rfl) ?_
            refine nv_bipush (k := 15) hx hb dX12_inside_255 (by decide) ?_
            refine wr_V S (c_X12_drops (x := 15) (by omega)) kw5_75 yv_X12_drops ⟨Nat.le_of_ble_eq_true rfl, Nat.le_of_ble_eq_true rfl⟩ hK hP hD hS hA (va_recv hK hP (ci := 9) (q0 := 0) rfl rfl) rfl hl.1 rfl (Nat.le_of_ble_eq_true rfl) dX12_inside_257 ⟨Nat.zero_le _, Nat.zero_le _⟩ (fun u2 H locs hu2 hP hD hS => ?_)
            have hP : va_P D vwCl (mW cy o ad 0 os n9 bits F G u nb ns T M id ft fo f9 g pt ih il ip pn op so fa fp st en (va_up dr 15 (dr 15 + 1)) ++ tl) H := hP
            have hD : va_D A (mW cy o ad 0 os n9 bits F G u nb ns T M id ft fo f9 g pt ih il ip pn op so fa fp st en (va_up dr 15 (dr 15 + 1)) ++ tl) := hD
            refine W.eq (g2 := F0 m 260 ls [.int (- nI 15)]) rfl ?_
            exact hend f9 rfl hf8 hP hD hS dX12_inside_260
          refine lv_iload hx hb dX12_inside_224 (lv_at hl 2 rfl) ?_
          refine nv_iconst (k := 1) hx hb dX12_inside_226 rfl ?_
          refine nv_icmp_ne (tgt := 254) hx hb dX12_inside_227 (by decide) (by omega) (by omega) (fun h227 => ?_) (fun h227 => ?_)
          · skip
            refine lv_aload_n hx hb dX12_inside_254 rfl (lv_at hl 11 rfl) ?_
            refine nv_bipush (k := 15) hx hb dX12_inside_255 (by decide) ?_
            refine wr_V S (c_X12_drops (x := 15) (by omega)) kw5_75 yv_X12_drops ⟨Nat.le_of_ble_eq_true rfl, Nat.le_of_ble_eq_true rfl⟩ hK hP hD hS hA (va_recv hK hP (ci := 9) (q0 := 0) rfl rfl) rfl hl.1 rfl (Nat.le_of_ble_eq_true rfl) dX12_inside_257 ⟨Nat.zero_le _, Nat.zero_le _⟩ (fun u2 H locs hu2 hP hD hS => ?_)
            have hP : va_P D vwCl (mW cy o ad 0 os n9 bits F G u nb ns T M id ft fo f9 g pt ih il ip pn op so fa fp st en (va_up dr 15 (dr 15 + 1)) ++ tl) H := hP
            have hD : va_D A (mW cy o ad 0 os n9 bits F G u nb ns T M id ft fo f9 g pt ih il ip pn op so fa fp st en (va_up dr 15 (dr 15 + 1)) ++ tl) := hD
            refine W.eq (g2 := F0 m 260 ls [.int (- nI 15)]) rfl ?_
            exact hend f9 rfl hf8 hP hD hS dX12_inside_260
          refine lv_aload_n hx hb dX12_inside_230 rfl (lv_at hl 11 rfl) ?_
          refine va_get (ci := 9) (C := RX12) (T := TX12) (N := 28) hx hb ht iFX12 hown hK hP 0 rfl rfl 18 (by decide) (ht _ kw4_128) (fun _ h9 => h9) rfl dX12_inside_231 ?_
          refine nv_sipush (k := 128) hx hb dX12_inside_234 (by decide) ?_
          refine nv_icmp_eq (tgt := 254) hx hb dX12_inside_237 (by decide) (by omega) (by omega) (fun h237 => ?_) (fun h237 => ?_)
          · skip
            refine lv_aload_n hx hb dX12_inside_254 rfl (lv_at hl 11 rfl) ?_
            refine nv_bipush (k := 15) hx hb dX12_inside_255 (by decide) ?_
            refine wr_V S (c_X12_drops (x := 15) (by omega)) kw5_75 yv_X12_drops ⟨Nat.le_of_ble_eq_true rfl, Nat.le_of_ble_eq_true rfl⟩ hK hP hD hS hA (va_recv hK hP (ci := 9) (q0 := 0) rfl rfl) rfl hl.1 rfl (Nat.le_of_ble_eq_true rfl) dX12_inside_257 ⟨Nat.zero_le _, Nat.zero_le _⟩ (fun u2 H locs hu2 hP hD hS => ?_)
            have hP : va_P D vwCl (mW cy o ad 0 os n9 bits F G u nb ns T M id ft fo f9 g pt ih il ip pn op so fa fp st en (va_up dr 15 (dr 15 + 1)) ++ tl) H := hP
            have hD : va_D A (mW cy o ad 0 os n9 bits F G u nb ns T M id ft fo f9 g pt ih il ip pn op so fa fp st en (va_up dr 15 (dr 15 + 1)) ++ tl) := hD
            refine W.eq (g2 := F0 m 260 ls [.int (- nI 15)]) rfl ?_
            exact hend f9 rfl hf8 hP hD hS dX12_inside_260
          refine lv_iload hx hb dX12_inside_240 (lv_at hl 1 rfl) ?_
          refine lv_if_ge (tgt := 261) hx hb dX12_inside_242 (by decide) (fun h9 => absurd h9 (by decide)) (fun _ => ?_)
          refine lv_aload_n hx hb dX12_inside_245 rfl (lv_at hl 11 rfl) ?_
          refine va_get (ci := 9) (C := RX12) (T := TX12) (N := 28) hx hb ht iFX12 hown hK hP 0 rfl rfl 11 (by decide) (ht _ kw4_121) (fun _ h9 => h9) rfl dX12_inside_246 ?_
          refine nv_bipush (k := 64) hx hb dX12_inside_249 (by decide) ?_
          refine nv_icmp_ne (tgt := 261) hx hb dX12_inside_251 (by decide) (by omega) (by omega) (fun h251 => ?_) (fun h251 => ?_)
          · skip
            exfalso; omega
          refine lv_aload_n hx hb dX12_inside_254 rfl (lv_at hl 11 rfl) ?_
          refine nv_bipush (k := 15) hx hb dX12_inside_255 (by decide) ?_
          refine wr_V S (c_X12_drops (x := 15) (by omega)) kw5_75 yv_X12_drops ⟨Nat.le_of_ble_eq_true rfl, Nat.le_of_ble_eq_true rfl⟩ hK hP hD hS hA (va_recv hK hP (ci := 9) (q0 := 0) rfl rfl) rfl hl.1 rfl (Nat.le_of_ble_eq_true rfl) dX12_inside_257 ⟨Nat.zero_le _, Nat.zero_le _⟩ (fun u2 H locs hu2 hP hD hS => ?_)
          have hP : va_P D vwCl (mW cy o ad 0 os n9 bits F G u nb ns T M id ft fo f9 g pt ih il ip pn op so fa fp st en (va_up dr 15 (dr 15 + 1)) ++ tl) H := hP
          have hD : va_D A (mW cy o ad 0 os n9 bits F G u nb ns T M id ft fo f9 g pt ih il ip pn op so fa fp st en (va_up dr 15 (dr 15 + 1)) ++ tl) := hD
          refine W.eq (g2 := F0 m 260 ls [.int (- nI 15)]) rfl ?_
          exact hend f9 rfl hf8 hP hD hS dX12_inside_260
        refine nv_icmp_ne (tgt := 174) hx hb dX12_inside_159 (by decide) (by omega) (by omega) (fun h159 => ?_) (fun h159 => ?_)
        · skip
          refine nv_iconst (k := 3) hx hb dX12_inside_174 rfl ?_
          refine W.eq (g2 := F0 m 175 ls [.int (nI (3 - ev))]) (congrArg (fun z9 => F0 m 175 ls [.int (nI z9)]) (show 3 = 3 - ev from (by rw [eev, ev_k (q := q)]; split <;> first | rfl | (exfalso; omega)))) ?_
          exact J175 ls (lv_sub hl [0, 1, 2, 3, 4, 5, 6, 7, 8, 9] rfl)
        refine lv_aload_n hx hb dX12_inside_162 rfl (lv_at hl 8 rfl) ?_
        refine va_get (ci := 9) (C := RX12) (T := TX12) (N := 28) hx hb ht iFX12 hown hK hP 0 rfl rfl 4 (by decide) (ht _ kw4_114) (fun _ h9 => h9) rfl dX12_inside_163 ?_
        refine nv_bipush (k := 40) hx hb dX12_inside_166 (by decide) ?_
        refine ro_S S (c_X12_kindOf (AR_of (ws := mW cy o ad 0 os n9 bits F G u nb ns T M id ft fo f9 g pt ih il ip pn op so fa fp st en dr ++ tl) (kr := 3) (N := 1600) (n := n9) rfl (by omega) (by omega)) (hd := 40) (by omega)) kw5_79 yv_X12_kindOf ⟨Nat.le_of_ble_eq_true rfl, Nat.le_of_ble_eq_true rfl⟩ hK hP rfl hl.1 rfl (Nat.le_of_ble_eq_true rfl) dX12_inside_168 ⟨(Nat.zero_le _), (Nat.zero_le _)⟩ ?_
        refine lv_goto (tgt := 175) hx hb dX12_inside_171 (by decide) ?_
        refine W.eq (g2 := F0 m 175 ls [.int (nI (3 - ev))]) (congrArg (fun z9 => F0 m 175 ls [.int (nI z9)]) (show 3 - tg_event (tg_rd f9 n9) 40 6 = 3 - ev from (by rw [eev, ev_k (q := q)]; split <;> first | rfl | (exfalso; omega)))) ?_
        exact J175 ls (lv_sub hl [0, 1, 2, 3, 4, 5, 6, 7, 8, 9] rfl)
      refine nv_icmp_ne (tgt := 144) hx hb dX12_inside_137 (by decide) (by omega) (by omega) (fun h137 => ?_) (fun h137 => ?_)
      · skip
        refine lv_aload_n hx hb dX12_inside_144 rfl (lv_at hl 7 rfl) ?_
        refine va_get (ci := 9) (C := RX12) (T := TX12) (N := 28) hx hb ht iFX12 hown hK hP 0 rfl rfl 4 (by decide) (ht _ kw4_114) (fun _ h9 => h9) rfl dX12_inside_145 ?_
        refine nv_bipush (k := 42) hx hb dX12_inside_148 (by decide) ?_
        refine ro_S S (c_X12_two (AR_of (ws := mW cy o ad 0 os n9 bits F G u nb ns T M id ft fo f9 g pt ih il ip pn op so fa fp st en dr ++ tl) (kr := 3) (N := 1600) (n := n9) rfl (by omega) (by omega)) (i := 42) (by omega)) kw5_44 yv_X12_two ⟨Nat.le_of_ble_eq_true rfl, Nat.le_of_ble_eq_true rfl⟩ hK hP rfl hl.1 rfl (Nat.le_of_ble_eq_true rfl) dX12_inside_150 ⟨(Nat.zero_le _), (Nat.zero_le _)⟩ ?_
        have hq150 := tg_pr_lt f9 n9 42
        refine W.eq (g2 := F0 m 153 ls [.int (nI fpt)]) (congrArg (fun z9 => F0 m 153 ls [.int (nI z9)]) (show tg_pr (tg_rd f9 n9) 42 = fpt from (by rw [efpt]; unfold tg_dpa; (repeat' split) <;> first | rfl | (exfalso; omega)))) ?_
        exact J153 ls (lv_sub hl [0, 1, 2, 3, 4, 5, 6, 7, 8] rfl)
      refine nv_iconst (k := 0) hx hb dX12_inside_140 rfl ?_
      refine lv_goto (tgt := 153) hx hb dX12_inside_141 (by decide) ?_
      refine W.eq (g2 := F0 m 153 ls [.int (nI fpt)]) (congrArg (fun z9 => F0 m 153 ls [.int (nI z9)]) (show 0 = fpt from (by rw [efpt]; unfold tg_dpa; (repeat' split) <;> first | rfl | (exfalso; omega)))) ?_
      exact J153 ls (lv_sub hl [0, 1, 2, 3, 4, 5, 6, 7, 8] rfl)
    refine nv_icmp_ne (tgt := 99) hx hb dX12_inside_84 (by decide) (by omega) (by omega) (fun h84 => ?_) (fun h84 => ?_)
    · skip
      refine lv_aload_n hx hb dX12_inside_99 rfl (lv_at hl 5 rfl) ?_
      refine va_get (ci := 9) (C := RX12) (T := TX12) (N := 28) hx hb ht iFX12 hown hK hP 0 rfl rfl 4 (by decide) (ht _ kw4_114) (fun _ h9 => h9) rfl dX12_inside_100 ?_
      refine nv_bipush (k := 40) hx hb dX12_inside_103 (by decide) ?_
      refine ro_S S (c_X12_two (AR_of (ws := mW cy o ad 0 os n9 bits F G u nb ns T M id ft fo f9 g pt ih il ip pn op so fa fp st en dr ++ tl) (kr := 3) (N := 1600) (n := n9) rfl (by omega) (by omega)) (i := 40) (by omega)) kw5_44 yv_X12_two ⟨Nat.le_of_ble_eq_true rfl, Nat.le_of_ble_eq_true rfl⟩ hK hP rfl hl.1 rfl (Nat.le_of_ble_eq_true rfl) dX12_inside_105 ⟨(Nat.zero_le _), (Nat.zero_le _)⟩ ?_
      have hq105 := tg_pr_lt f9 n9 40
      refine W.eq (g2 := F0 m 108 ls [.int (nI port)]) (congrArg (fun z9 => F0 m 108 ls [.int (nI z9)]) (show tg_pr (tg_rd f9 n9) 40 = port from (by rw [eport]; unfold tg_spa; split <;> first | rfl | (exfalso; omega)))) ?_
      exact J108 ls (lv_sub hl [0, 1, 2, 3, 4, 5, 6] rfl)
    refine lv_aload_n hx hb dX12_inside_87 rfl (lv_at hl 5 rfl) ?_
    refine va_get (ci := 9) (C := RX12) (T := TX12) (N := 28) hx hb ht iFX12 hown hK hP 0 rfl rfl 4 (by decide) (ht _ kw4_114) (fun _ h9 => h9) rfl dX12_inside_88 ?_
    refine nv_bipush (k := 44) hx hb dX12_inside_91 (by decide) ?_
    refine ro_S S (c_X12_two (AR_of (ws := mW cy o ad 0 os n9 bits F G u nb ns T M id ft fo f9 g pt ih il ip pn op so fa fp st en dr ++ tl) (kr := 3) (N := 1600) (n := n9) rfl (by omega) (by omega)) (i := 44) (by omega)) kw5_44 yv_X12_two ⟨Nat.le_of_ble_eq_true rfl, Nat.le_of_ble_eq_true rfl⟩ hK hP rfl hl.1 rfl (Nat.le_of_ble_eq_true rfl) dX12_inside_93 ⟨(Nat.zero_le _), (Nat.zero_le _)⟩ ?_
    have hq93 := tg_pr_lt f9 n9 44
    refine lv_goto (tgt := 108) hx hb dX12_inside_96 (by decide) ?_
    refine W.eq (g2 := F0 m 108 ls [.int (nI port)]) (congrArg (fun z9 => F0 m 108 ls [.int (nI z9)]) (show tg_pr (tg_rd f9 n9) 44 = port from (by rw [eport]; unfold tg_spa; split <;> first | rfl | (exfalso; omega)))) ?_
    exact J108 ls (lv_sub hl [0, 1, 2, 3, 4, 5, 6] rfl)
  refine nv_icmp_ne (tgt := 56) hx hb dX12_inside_49 (by decide) (by omega) (by omega) (fun h49 => ?_) (fun h49 => ?_)
  · skip
    refine lv_iload_n hx hb dX12_inside_56 rfl (lv_at hl 0 rfl) ?_
    refine W.eq (g2 := F0 m 57 ls [.int (nI q)]) (congrArg (fun z9 => F0 m 57 ls [.int (nI z9)]) (show tg_rd f9 n9 6 = q from (by rw [eq0]; split <;> omega))) ?_
    exact J57 ls (lv_sub hl [0, 1, 2, 3] rfl)
  refine nv_iconst (k := 1) hx hb dX12_inside_52 rfl ?_
  refine lv_goto (tgt := 57) hx hb dX12_inside_53 (by decide) ?_
  refine W.eq (g2 := F0 m 57 ls [.int (nI q)]) (congrArg (fun z9 => F0 m 57 ls [.int (nI z9)]) (show 1 = q from (by rw [eq0]; split <;> omega))) ?_
  exact J57 ls (lv_sub hl [0, 1, 2, 3] rfl)
