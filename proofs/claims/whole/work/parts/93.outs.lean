theorem op_outside {l : Launch} {D : va_G} {cy : Nat → ClassId} {ad am : Nat → Nat} {mo N : Nat} {e0 : Nat × Nat} {ws : va_W} (hJ : J cy ad mo am e0 N ws) (hN : N ≤ 1000) (z : Int32) : PAIR Value.int l yX11_outside cX11_outside 2 yX12_outside cX12_outside 10 (some .int) (ad 0) mo [.int z] D cy e0 ws (J cy ad mo am e0 (N + 1)) := by
  have hJ1 := hJ.up
  obtain ⟨eb, es, tp, os, sz, bits, F, G, u, nb, ns, T, M, id, mb, mz, ft, fo, f2, o2, fi, g, dq, ba, sa, pt, ih, il, ip, pn, op, so, fa, fp, st, en, dr, dy, rfl, htp, hos, hsz, hsi, hu4, hT, hid1, hid2, hDY, hJT, hft, hfo, hdr⟩ := hJ
  have hJT2 := hJT
  obtain ⟨b_pt, b_ih, b_il, b_ip, b_pn, b_op, b_so, b_fa, b_fp, b_st, b_en, b_pu, b_ow, b_T⟩ := hJT2
  have hb_ip : ∀ i, ip i < 2 ^ 31 := fun i => Nat.lt_trans (b_ip i) (by decide)
  have hb_pn : ∀ i, pn i < 2 ^ 31 := fun i => Nat.lt_trans (b_pn i) (by decide)
  have hb_op : ∀ i, op i < 2 ^ 31 := fun i => Nat.lt_trans (b_op i) (by decide)
  have hb_fp : ∀ i, fp i < 2 ^ 31 := fun i => Nat.lt_trans (b_fp i) (by decide)
  have hb_en : ∀ i, en i < 2 ^ 62 := fun i => Nat.lt_trans (b_en i) (by decide)
  have hnb : nb ≤ 64 := by
    obtain ⟨⟨_, _, _, h, _⟩, _⟩ := hDY
    exact h
  have hns : ns ≤ 128 := by
    obtain ⟨_, ⟨_, _, _, h, _⟩, _⟩ := hDY
    exact h
  rcases int_case z with hz | ⟨n, hn, rfl⟩
  · exact PAIR.er (c_X11_outsideN htp hos hsi hu4 hz) (by decide) (OPX.mr (c_X12_outsideN (isInr_f (by decide) (by omega) (Or.inl hz)) htp) (by decide) hJ1)
  by_cases hb : tp < n
  · exact PAIR.er (c_X11_outsideG htp hos hsi hu4 hn hb) (by decide) (OPX.mr (c_X12_outsideN (isInr_f (by decide) (by omega) (Or.inr ⟨n, hn, rfl, Or.inl hb⟩)) htp) (by decide) hJ1)
  have hnt : n ≤ tp := by omega
  have er : tg_rd f2 n = tg_rd ft n := (hft.mono hnt).rd
  by_cases hz0 : tg_out (tg_rd ft n) n bits g u = 0
  case neg =>
    refine PAIR.w (c_X11_outside0 htp hos hsi hu4 hnt hz0) (by decide) (fun _ _ => OPX.cr (OPX.mw (c_X12_outside0 b_pt b_ih b_il hb_ip hb_pn hb_op b_pn b_so b_fa hb_fp b_st htp (by omega) hsi hu4 hnb hns hnt (by rw [er]; exact hz0)) (by decide) (fun f9 hf9 => ?_)) (by rw [er]))
    rw [er]
    exact J.mk (Nat.zero_le _) hos (by omega) hsi hu4 (by omega) hid1 hid2 hDY hJT (fun i hi => absurd hi (Nat.not_lt_zero _)) hfo (drop_eq hdr (out_rng hz0))
  obtain ⟨⟨h28, hp9, -, -⟩, hb0, -, herr9⟩ := out0 hz0
  have hft9 : ∀ f9 : Nat → UInt8, (∀ k, k < n → f9 k = f2 k) → ∀ k, k < n → f9 k = ft k := fun f9 h k hk => (h k hk).trans (hft k (by omega)).symm
  by_cases herr : tg_isErr (tg_rd ft n) = true
  · have h56 := (herr9 herr).1
    obtain ⟨q, eq0⟩ : ∃ q : Nat, q = tg_rd ft n 37 := ⟨_, rfl⟩
    have hq : q = 1 ∨ q = 6 ∨ q = 17 := by
      have := (herr9 herr).2
      rw [eq0]
      omega
    obtain ⟨port, eport⟩ : ∃ q1 : Nat, q1 = tg_pr (tg_rd ft n) (48 + tg_spa q) := ⟨_, rfl⟩
    obtain ⟨num, enum⟩ : ∃ q1 : Nat, q1 = tg_first (fun k => decide (g k = nI (tg_qd (tg_rd ft n) 40))) u := ⟨_, rfl⟩
    obtain ⟨b, hfb⟩ : ∃ b : Nat, tg_first (fun k => decide (pt k = q ∧ pn k = num ∧ op k = port)) nb = b := ⟨_, rfl⟩
    by_cases hb9 : b < nb
    · refine PAIR.w (c_X11_outsidee htp hos hsi hu4 hDY b_pt b_ih b_il hb_ip hb_pn hb_op b_fa hb_fp b_st hb_en hnt eq0 eport enum hz0 herr hb9 hfb (b_ip b)) (by decide) (fun _ _ => OPX.mw (c_X12_outsidee (q := q) (port := port) (num := num) b_pt b_ih b_il hb_ip hb_pn hb_op b_pn b_so b_fa hb_fp b_st htp (by omega) hsi hu4 hnb hns hnt (by rw [er]; exact eq0) (by rw [er]; exact eport) (by rw [er]; exact enum) (by rw [er]; exact hz0) (by rw [er]; exact herr) hb9 hfb (b_ip b)) (by decide) (fun w hw => ?_))
      exact J.mk (Nat.zero_le _) (by omega) (by omega) hsi hu4 (by omega) hid1 hid2 hDY hJT (fun i hi => absurd hi (Nat.not_lt_zero _)) (fun i hi => by rw [hw.2]; exact (err_eq h56 hq (hft9 _ hw.1) i hi).symm) hdr
    · refine PAIR.w (c_X11_outsidec htp hos hsi hu4 hDY b_pt b_ih b_il hb_ip hb_pn hb_op b_fa hb_fp b_st hb_en hnt eq0 eport enum hz0 herr (by rw [hfb]; exact hb9)) (by decide) (fun _ _ => OPX.mw (c_X12_outsidec (q := q) (port := port) (num := num) b_pt b_ih b_il hb_ip hb_pn hb_op b_pn b_so b_fa hb_fp b_st htp (by omega) hsi hu4 hnb hns hnt (by rw [er]; exact eq0) (by rw [er]; exact eport) (by rw [er]; exact enum) (by rw [er]; exact hz0) (by rw [er]; exact herr) (by rw [hfb]; exact hb9)) (by decide) (fun w hw => ?_))
      exact J.mk (Nat.zero_le _) hos (by omega) hsi hu4 (by omega) hid1 hid2 hDY hJT (fun i hi => absurd hi (Nat.not_lt_zero _)) hfo (drop15 hdr)
  have herr : tg_isErr (tg_rd ft n) = false := Bool.eq_false_iff.mpr herr
  obtain ⟨q, eq0⟩ : ∃ q : Nat, q = tg_rd ft n 9 := ⟨_, rfl⟩
  obtain ⟨port, eport⟩ : ∃ q1 : Nat, q1 = tg_pr (tg_rd ft n) (20 + tg_dpa q) := ⟨_, rfl⟩
  obtain ⟨far, efar⟩ : ∃ q1 : Nat, q1 = tg_qd (tg_rd ft n) 12 := ⟨_, rfl⟩
  obtain ⟨fpt, efpt⟩ : ∃ q1 : Nat, q1 = if q = 1 then 0 else tg_pr (tg_rd ft n) (20 + tg_spa q) := ⟨_, rfl⟩
  obtain ⟨ev, eev⟩ : ∃ q1 : Nat, q1 = tg_event (tg_rd ft n) 20 q := ⟨_, rfl⟩
  obtain ⟨num, enum⟩ : ∃ q1 : Nat, q1 = tg_first (fun k => decide (g k = nI (tg_qd (tg_rd ft n) 16))) u := ⟨_, rfl⟩
  have hq : q = 1 ∨ q = 6 ∨ q = 17 := by rw [eq0]; omega
  have hfl : far < 2 ^ 32 := by rw [efar]; exact tg_qd_lt _ _ _
  have hfpl : fpt < 65536 := by
    rw [efpt]
    split
    · decide
    · exact tg_pr_lt _ _ _
  have hlife : ∀ s : Nat, T + tg_life s q < 2 ^ 31 := fun s => by have := tg_life_le s q; omega
  obtain ⟨b, hfb⟩ : ∃ b : Nat, tg_first (fun k => decide (pt k = q ∧ pn k = num ∧ op k = port)) nb = b := ⟨_, rfl⟩
  by_cases hb9 : b < nb
  · obtain ⟨j, hfj⟩ : ∃ j : Nat, tg_first (fun k => decide (so k = b ∧ fa k = far ∧ fp k = fpt)) ns = j := ⟨_, rfl⟩
    by_cases hj9 : j < ns
    · refine PAIR.w (c_X11_outside1 htp hos hsi hu4 hDY b_pt b_ih b_il hb_ip hb_pn hb_op b_fa hb_fp b_st hb_en hnt eq0 eport efar efpt eev enum hz0 herr hb9 hfb hj9 hfj (b_ip b)) (by decide) (fun dz hdz => OPX.mw (c_X12_outside1 (q := q) (port := port) (far := far) (fpt := fpt) (ev := ev) (num := num) b_pt b_ih b_il hb_ip hb_pn hb_op b_pn b_so b_fa hb_fp b_st htp (by omega) hsi hu4 hnb hns hnt (by rw [er]; exact eq0) (by rw [er]; exact eport) (by rw [er]; exact efar) (by rw [er]; exact efpt) (by rw [er]; exact eev) (by rw [er]; exact enum) (by rw [er]; exact hz0) (by rw [er]; exact herr) hb9 hfb hj9 hfj (b_ip b)) (by decide) (fun w hw => ?_))
      exact J.mk (Nat.zero_le _) (by omega) (by omega) hsi hu4 (by omega) hid1 hid2 hdz (hJT.go (fun h => by have := nxt_le (st j) ev false; omega) (life_ge _ _) (hlife _)) (fun i hi => absurd hi (Nat.not_lt_zero _)) (fun i hi => by rw [hw.2]; exact (sx_eq (by omega) hq (hft9 _ hw.1) i hi).symm) hdr
    · by_cases hmay : (q ≠ 6 ∨ ev = 2) ∧ ns < 128
      · refine PAIR.ex (c_X11_outside2 htp hos hsi hu4 hDY b_pt b_ih b_il hb_ip hb_pn hb_op b_fa hb_fp b_st hb_en hnt eq0 eport efar efpt eev enum hz0 herr hb9 hfb (by rw [hfj]; exact hj9) hmay (b_ip b)) (by decide) (fun dz hdz => OPX.mw (c_X12_outside2 (q := q) (port := port) (far := far) (fpt := fpt) (ev := ev) (num := num) b_pt b_ih b_il hb_ip hb_pn hb_op b_pn b_so b_fa hb_fp b_st htp (by omega) hsi hu4 hnb hns hnt (by rw [er]; exact eq0) (by rw [er]; exact eport) (by rw [er]; exact efar) (by rw [er]; exact efpt) (by rw [er]; exact eev) (by rw [er]; exact enum) (by rw [er]; exact hz0) (by rw [er]; exact herr) hb9 hfb (by rw [hfj]; exact hj9) hmay (b_ip b)) (by decide) (fun w hw => ?_))
        exact J.mk (Nat.zero_le _) (by omega) (by omega) hsi hu4 (by omega) hid1 hid2 hdz (hJT.add (by omega) hfl hfpl (fst_le _ _) (life_ge _ _) (hlife _)) (fun i hi => absurd hi (Nat.not_lt_zero _)) (fun i hi => by rw [hw.2]; exact (sx_eq (by omega) hq (hft9 _ hw.1) i hi).symm) hdr
      · refine PAIR.w (c_X11_outsidea htp hos hsi hu4 hDY b_pt b_ih b_il hb_ip hb_pn hb_op b_fa hb_fp b_st hb_en hnt eq0 eport efar efpt eev enum hz0 herr hb9 hfb (by rw [hfj]; exact hj9) hmay) (by decide) (fun dz hdz => OPX.mw (c_X12_outsidea (q := q) (port := port) (far := far) (fpt := fpt) (ev := ev) (num := num) b_pt b_ih b_il hb_ip hb_pn hb_op b_pn b_so b_fa hb_fp b_st htp (by omega) hsi hu4 hnb hns hnt (by rw [er]; exact eq0) (by rw [er]; exact eport) (by rw [er]; exact efar) (by rw [er]; exact efpt) (by rw [er]; exact eev) (by rw [er]; exact enum) (by rw [er]; exact hz0) (by rw [er]; exact herr) hb9 hfb (by rw [hfj]; exact hj9) hmay) (by decide) (fun w hw => ?_))
        exact J.mk (Nat.zero_le _) hos (by omega) hsi hu4 (by omega) hid1 hid2 hdz hJT (fun i hi => absurd hi (Nat.not_lt_zero _)) hfo (drop15 hdr)
  · refine PAIR.w (c_X11_outsideb htp hos hsi hu4 hDY b_pt b_ih b_il hb_ip hb_pn hb_op b_fa hb_fp b_st hb_en hnt eq0 eport efar efpt eev enum hz0 herr (by rw [hfb]; exact hb9)) (by decide) (fun dz hdz => OPX.mw (c_X12_outsideb (q := q) (port := port) (far := far) (fpt := fpt) (ev := ev) (num := num) b_pt b_ih b_il hb_ip hb_pn hb_op b_pn b_so b_fa hb_fp b_st htp (by omega) hsi hu4 hnb hns hnt (by rw [er]; exact eq0) (by rw [er]; exact eport) (by rw [er]; exact efar) (by rw [er]; exact efpt) (by rw [er]; exact eev) (by rw [er]; exact enum) (by rw [er]; exact hz0) (by rw [er]; exact herr) (by rw [hfb]; exact hb9)) (by decide) (fun w hw => ?_))
    exact J.mk (Nat.zero_le _) hos (by omega) hsi hu4 (by omega) hid1 hid2 hdz hJT (fun i hi => absurd hi (Nat.not_lt_zero _)) hfo (drop15 hdr)
