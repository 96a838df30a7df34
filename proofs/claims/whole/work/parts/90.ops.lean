theorem op_prefix {l : Launch} {D : va_G} {cy : Nat → ClassId} {ad am : Nat → Nat} {mo N : Nat} {e0 : Nat × Nat} {ws : va_W} (hJ : J cy ad mo am e0 N ws) (hN : N ≤ 1000) (x y : Int64) (z : Int32) : PAIR Value.int l yX11_prefix cX11_prefix 6 yX12_prefix cX12_prefix 6 (some .boolean) (ad 0) mo [.long x, .long y, .int z] D cy e0 ws (J cy ad mo am e0 (N + 1)) := by
  have hJ1 := hJ.up
  obtain ⟨eb, es, tp, os, sz, bits, F, G, u, nb, ns, T, M, id, mb, mz, ft, fo, f2, o2, fi, g, dq, ba, sa, pt, ih, il, ip, pn, op, so, fa, fp, st, en, dr, dy, rfl, htp, hos, hsz, hsi, hu4, hT, hid1, hid2, hDY, hJT, hft, hfo, hdr⟩ := hJ
  have hJT2 := hJT
  obtain ⟨b_pt, b_ih, b_il, b_ip, b_pn, b_op, b_so, b_fa, b_fp, b_st, b_en, b_pu, b_ow, b_T⟩ := hJT2
  have hb_ip : ∀ i, ip i < 2 ^ 31 := fun i => Nat.lt_trans (b_ip i) (by decide)
  have hb_pn : ∀ i, pn i < 2 ^ 31 := fun i => Nat.lt_trans (b_pn i) (by decide)
  have hb_op : ∀ i, op i < 2 ^ 31 := fun i => Nat.lt_trans (b_op i) (by decide)
  have hb_fp : ∀ i, fp i < 2 ^ 31 := fun i => Nat.lt_trans (b_fp i) (by decide)
  have hb_en : ∀ i, en i < 2 ^ 62 := fun i => Nat.lt_trans (b_en i) (by decide)
  have hnb : nb ≤ 64 := by
    obtain ⟨⟨_, _, _, h, _⟩, _⟩ := hDY
    exact h
  have hns : ns ≤ 128 := by
    obtain ⟨_, ⟨_, _, _, h, _⟩, _⟩ := hDY
    exact h
  obtain ⟨a, ha, rfl⟩ := lN_of x
  obtain ⟨b, hb, rfl⟩ := lN_of y
  rcases int_case z with hz | ⟨n, hn, rfl⟩
  · exact PAIR.er (c_X11_prefixN htp hos hsi hu4 hz) (by decide) (OPX.mr (c_X12_prefixN hz) (by decide) hJ1)
  by_cases hl : n = 32 ∨ n = 40 ∨ n = 48 ∨ n = 56 ∨ n = 64 ∨ n = 96
  · have hl2 : tg_isLen n = true := decide_eq_true hl
    refine PAIR.ex (c_X11_prefix htp hos hsi hu4 hDY b_pt b_ih b_il hb_ip hb_pn hb_op b_fa hb_fp b_st hb_en ha hb hl) (by decide) (fun dz hdz => OPX.cr (OPX.mw (c_X12_prefix ha hb hn) (by decide) (fun _ _ => ?_)) (by rw [hl2]))
    simp only [if_pos hl2]
    exact J.mk htp hos hsz (SI_pre ha hb hl) hu4 (by omega) hid1 hid2 hdz ⟨b_pt, b_ih, b_il, b_ip, b_pn, b_op, b_so, b_fa, b_fp, b_st, b_en, fun _ h => by omega, fun _ h => by omega, fun _ h => by omega⟩ hft hfo hdr
  · have hl2 : ¬ tg_isLen n = true := fun h => hl (of_decide_eq_true h)
    refine PAIR.er (c_X11_prefixG htp hos hsi hu4 hn hl) (by decide) (OPX.cr (OPX.mw (c_X12_prefix ha hb hn) (by decide) (fun _ _ => ?_)) (by rw [Bool.eq_false_iff.mpr hl2]))
    simp only [if_neg hl2]
    exact hJ1
theorem op_pool {l : Launch} {D : va_G} {cy : Nat → ClassId} {ad am : Nat → Nat} {mo N : Nat} {e0 : Nat × Nat} {ws : va_W} (hJ : J cy ad mo am e0 N ws) (hN : N ≤ 1000) (z : Int32) : PAIR Value.int l yX11_pool cX11_pool 2 yX12_pool cX12_pool 2 (some .int) (ad 0) mo [.int z] D cy e0 ws (J cy ad mo am e0 (N + 1)) := by
  have hJ1 := hJ.up
  obtain ⟨eb, es, tp, os, sz, bits, F, G, u, nb, ns, T, M, id, mb, mz, ft, fo, f2, o2, fi, g, dq, ba, sa, pt, ih, il, ip, pn, op, so, fa, fp, st, en, dr, dy, rfl, htp, hos, hsz, hsi, hu4, hT, hid1, hid2, hDY, hJT, hft, hfo, hdr⟩ := hJ
  have hJT2 := hJT
  obtain ⟨b_pt, b_ih, b_il, b_ip, b_pn, b_op, b_so, b_fa, b_fp, b_st, b_en, b_pu, b_ow, b_T⟩ := hJT2
  have hb_ip : ∀ i, ip i < 2 ^ 31 := fun i => Nat.lt_trans (b_ip i) (by decide)
  have hb_pn : ∀ i, pn i < 2 ^ 31 := fun i => Nat.lt_trans (b_pn i) (by decide)
  have hb_op : ∀ i, op i < 2 ^ 31 := fun i => Nat.lt_trans (b_op i) (by decide)
  have hb_fp : ∀ i, fp i < 2 ^ 31 := fun i => Nat.lt_trans (b_fp i) (by decide)
  have hb_en : ∀ i, en i < 2 ^ 62 := fun i => Nat.lt_trans (b_en i) (by decide)
  have hnb : nb ≤ 64 := by
    obtain ⟨⟨_, _, _, h, _⟩, _⟩ := hDY
    exact h
  have hns : ns ≤ 128 := by
    obtain ⟨_, ⟨_, _, _, h, _⟩, _⟩ := hDY
    exact h
  obtain ⟨x, hx, rfl⟩ := nI_ofx z
  by_cases hO : tg_odd x = true ∨ tg_has g u x = true
  · have hc : (tg_odd x || tg_has g u x || decide (u = 4)) = true := by
      rcases hO with h | h <;> simp [h]
    refine PAIR.er (c_X11_poolO htp hos hsi hu4 hx hO) (by decide) (OPX.cr (OPX.mw (c_X12_pool hx hu4) (by decide) (fun _ _ => ?_)) (by rw [if_pos hO]))
    simp only [if_pos hc]
    exact hJ1
  have h1 : tg_odd x = false := Bool.eq_false_iff.mpr (fun h => hO (Or.inl h))
  have h2 : tg_has g u x = false := Bool.eq_false_iff.mpr (fun h => hO (Or.inr h))
  by_cases h4 : u = 4
  · have hc : (tg_odd x || tg_has g u x || decide (u = 4)) = true := by simp [h4]
    refine PAIR.er (c_X11_poolF htp hos hsi hu4 hx h1 h2 h4) (by decide) (OPX.cr (OPX.mw (c_X12_pool hx hu4) (by decide) (fun _ _ => ?_)) (by rw [if_neg hO, if_pos h4]))
    simp only [if_pos hc]
    exact hJ1
  · have hc : ¬ (tg_odd x || tg_has g u x || decide (u = 4)) = true := by simp [h1, h2, h4]
    refine PAIR.w (c_X11_pool htp hos hsi hu4 hx h1 h2 (by omega)) (by decide) (fun _ _ => OPX.cr (OPX.mw (c_X12_pool hx hu4) (by decide) (fun _ _ => ?_)) (by rw [if_neg hO, if_neg h4]))
    simp only [if_neg hc]
    exact J.mk htp hos hsz hsi (by omega) (by omega) hid1 hid2 hDY ⟨b_pt, b_ih, b_il, b_ip, b_pn, b_op, b_so, b_fa, b_fp, b_st, b_en, fun b h => by have := b_pu b h; omega, b_ow, b_T⟩ hft hfo hdr
theorem op_high {l : Launch} {D : va_G} {cy : Nat → ClassId} {ad am : Nat → Nat} {mo N : Nat} {e0 : Nat × Nat} {ws : va_W} (hJ : J cy ad mo am e0 N ws) (hN : N ≤ 1000) (z : Int32) : PAIR Value.long l yX11_high cX11_high 2 yX12_high cX12_high 6 (some .long) (ad 0) mo [.int z] D cy e0 ws (J cy ad mo am e0 (N + 1)) := by
  have hJ1 := hJ.up
  obtain ⟨eb, es, tp, os, sz, bits, F, G, u, nb, ns, T, M, id, mb, mz, ft, fo, f2, o2, fi, g, dq, ba, sa, pt, ih, il, ip, pn, op, so, fa, fp, st, en, dr, dy, rfl, htp, hos, hsz, hsi, hu4, hT, hid1, hid2, hDY, hJT, hft, hfo, hdr⟩ := hJ
  have hJT2 := hJT
  obtain ⟨b_pt, b_ih, b_il, b_ip, b_pn, b_op, b_so, b_fa, b_fp, b_st, b_en, b_pu, b_ow, b_T⟩ := hJT2
  have hb_ip : ∀ i, ip i < 2 ^ 31 := fun i => Nat.lt_trans (b_ip i) (by decide)
  have hb_pn : ∀ i, pn i < 2 ^ 31 := fun i => Nat.lt_trans (b_pn i) (by decide)
  have hb_op : ∀ i, op i < 2 ^ 31 := fun i => Nat.lt_trans (b_op i) (by decide)
  have hb_fp : ∀ i, fp i < 2 ^ 31 := fun i => Nat.lt_trans (b_fp i) (by decide)
  have hb_en : ∀ i, en i < 2 ^ 62 := fun i => Nat.lt_trans (b_en i) (by decide)
  have hnb : nb ≤ 64 := by
    obtain ⟨⟨_, _, _, h, _⟩, _⟩ := hDY
    exact h
  have hns : ns ≤ 128 := by
    obtain ⟨_, ⟨_, _, _, h, _⟩, _⟩ := hDY
    exact h
  obtain ⟨x, hx, rfl⟩ := nI_ofx z
  exact PAIR.er (c_X11_high htp hos hsi hu4 hx) (by decide) (OPX.er (c_X12_high (km := 12) (mo := mo) rfl rfl rfl hsi hx) (by decide) hJ1)
theorem op_low {l : Launch} {D : va_G} {cy : Nat → ClassId} {ad am : Nat → Nat} {mo N : Nat} {e0 : Nat × Nat} {ws : va_W} (hJ : J cy ad mo am e0 N ws) (hN : N ≤ 1000) (z : Int32) : PAIR Value.long l yX11_low cX11_low 2 yX12_low cX12_low 6 (some .long) (ad 0) mo [.int z] D cy e0 ws (J cy ad mo am e0 (N + 1)) := by
  have hJ1 := hJ.up
  obtain ⟨eb, es, tp, os, sz, bits, F, G, u, nb, ns, T, M, id, mb, mz, ft, fo, f2, o2, fi, g, dq, ba, sa, pt, ih, il, ip, pn, op, so, fa, fp, st, en, dr, dy, rfl, htp, hos, hsz, hsi, hu4, hT, hid1, hid2, hDY, hJT, hft, hfo, hdr⟩ := hJ
  have hJT2 := hJT
  obtain ⟨b_pt, b_ih, b_il, b_ip, b_pn, b_op, b_so, b_fa, b_fp, b_st, b_en, b_pu, b_ow, b_T⟩ := hJT2
  have hb_ip : ∀ i, ip i < 2 ^ 31 := fun i => Nat.lt_trans (b_ip i) (by decide)
  have hb_pn : ∀ i, pn i < 2 ^ 31 := fun i => Nat.lt_trans (b_pn i) (by decide)
  have hb_op : ∀ i, op i < 2 ^ 31 := fun i => Nat.lt_trans (b_op i) (by decide)
  have hb_fp : ∀ i, fp i < 2 ^ 31 := fun i => Nat.lt_trans (b_fp i) (by decide)
  have hb_en : ∀ i, en i < 2 ^ 62 := fun i => Nat.lt_trans (b_en i) (by decide)
  have hnb : nb ≤ 64 := by
    obtain ⟨⟨_, _, _, h, _⟩, _⟩ := hDY
    exact h
  have hns : ns ≤ 128 := by
    obtain ⟨_, ⟨_, _, _, h, _⟩, _⟩ := hDY
    exact h
  obtain ⟨x, hx, rfl⟩ := nI_ofx z
  exact PAIR.er (c_X11_low htp hos hsi hu4 hx) (by decide) (OPX.er (c_X12_low (km := 12) (mo := mo) rfl rfl rfl hsi hx) (by decide) hJ1)
theorem op_drawn {l : Launch} {D : va_G} {cy : Nat → ClassId} {ad am : Nat → Nat} {mo N : Nat} {e0 : Nat × Nat} {ws : va_W} (hJ : J cy ad mo am e0 N ws) (hN : N ≤ 1000) (x y : Int64) : PAIR Value.long l yX11_drawn cX11_drawn 5 yX12_drawn cX12_drawn 5 (some .long) (ad 0) mo [.long x, .long y] D cy e0 ws (J cy ad mo am e0 (N + 1)) := by
  have hJ1 := hJ.up
  obtain ⟨eb, es, tp, os, sz, bits, F, G, u, nb, ns, T, M, id, mb, mz, ft, fo, f2, o2, fi, g, dq, ba, sa, pt, ih, il, ip, pn, op, so, fa, fp, st, en, dr, dy, rfl, htp, hos, hsz, hsi, hu4, hT, hid1, hid2, hDY, hJT, hft, hfo, hdr⟩ := hJ
  have hJT2 := hJT
  obtain ⟨b_pt, b_ih, b_il, b_ip, b_pn, b_op, b_so, b_fa, b_fp, b_st, b_en, b_pu, b_ow, b_T⟩ := hJT2
  have hb_ip : ∀ i, ip i < 2 ^ 31 := fun i => Nat.lt_trans (b_ip i) (by decide)
  have hb_pn : ∀ i, pn i < 2 ^ 31 := fun i => Nat.lt_trans (b_pn i) (by decide)
  have hb_op : ∀ i, op i < 2 ^ 31 := fun i => Nat.lt_trans (b_op i) (by decide)
  have hb_fp : ∀ i, fp i < 2 ^ 31 := fun i => Nat.lt_trans (b_fp i) (by decide)
  have hb_en : ∀ i, en i < 2 ^ 62 := fun i => Nat.lt_trans (b_en i) (by decide)
  have hnb : nb ≤ 64 := by
    obtain ⟨⟨_, _, _, h, _⟩, _⟩ := hDY
    exact h
  have hns : ns ≤ 128 := by
    obtain ⟨_, ⟨_, _, _, h, _⟩, _⟩ := hDY
    exact h
  obtain ⟨a, ha, rfl⟩ := lN_of x
  obtain ⟨b, hb, rfl⟩ := lN_of y
  exact PAIR.er (c_X11_drawn htp hos hsi hu4 ha hb) (by decide) (OPX.er (c_X12_drawn (km := 12) (mo := mo) rfl rfl rfl rfl hsi ha hb) (by decide) hJ1)
theorem op_feed {l : Launch} {D : va_G} {cy : Nat → ClassId} {ad am : Nat → Nat} {mo N : Nat} {e0 : Nat × Nat} {ws : va_W} (hJ : J cy ad mo am e0 N ws) (hN : N ≤ 1000) (v w x y z : Int32) : PAIR Value.int l yX11_feed cX11_feed 7 yX12_feed cX12_feed 8 (some .boolean) (ad 0) mo [.int v, .int w, .int x, .int y, .int z] D cy e0 ws (J cy ad mo am e0 (N + 1)) := by
  have hJ1 := hJ.up
  obtain ⟨eb, es, tp, os, sz, bits, F, G, u, nb, ns, T, M, id, mb, mz, ft, fo, f2, o2, fi, g, dq, ba, sa, pt, ih, il, ip, pn, op, so, fa, fp, st, en, dr, dy, rfl, htp, hos, hsz, hsi, hu4, hT, hid1, hid2, hDY, hJT, hft, hfo, hdr⟩ := hJ
  have hJT2 := hJT
  obtain ⟨b_pt, b_ih, b_il, b_ip, b_pn, b_op, b_so, b_fa, b_fp, b_st, b_en, b_pu, b_ow, b_T⟩ := hJT2
  have hb_ip : ∀ i, ip i < 2 ^ 31 := fun i => Nat.lt_trans (b_ip i) (by decide)
  have hb_pn : ∀ i, pn i < 2 ^ 31 := fun i => Nat.lt_trans (b_pn i) (by decide)
  have hb_op : ∀ i, op i < 2 ^ 31 := fun i => Nat.lt_trans (b_op i) (by decide)
  have hb_fp : ∀ i, fp i < 2 ^ 31 := fun i => Nat.lt_trans (b_fp i) (by decide)
  have hb_en : ∀ i, en i < 2 ^ 62 := fun i => Nat.lt_trans (b_en i) (by decide)
  have hnb : nb ≤ 64 := by
    obtain ⟨⟨_, _, _, h, _⟩, _⟩ := hDY
    exact h
  have hns : ns ≤ 128 := by
    obtain ⟨_, ⟨_, _, _, h, _⟩, _⟩ := hDY
    exact h
  by_cases hb : 1580 < tp
  · exact PAIR.er (c_X11_feedG htp hos hsi hu4 hb) (by decide) (OPX.mr (c_X12_feedG hb htp) (by decide) hJ1)
  obtain ⟨a1, h1, rfl⟩ := nI_ofx v
  obtain ⟨a2, h2, rfl⟩ := nI_ofx w
  obtain ⟨a3, h3, rfl⟩ := nI_ofx x
  obtain ⟨a4, h4, rfl⟩ := nI_ofx y
  obtain ⟨a5, h5, rfl⟩ := nI_ofx z
  exact PAIR.w (c_X11_feed htp hos hsi hu4 h1 h2 h3 h4 h5 (by omega)) (by decide) (fun _ _ => OPX.mw (c_X12_feed h1 h2 h3 h4 h5 (by omega)) (by decide) (fun _ _ => J.mk (by omega) hos hsz hsi hu4 (by omega) hid1 hid2 hDY hJT (feed_q hft) hfo hdr))
theorem op_word {l : Launch} {D : va_G} {cy : Nat → ClassId} {ad am : Nat → Nat} {mo N : Nat} {e0 : Nat × Nat} {ws : va_W} (hJ : J cy ad mo am e0 N ws) (hN : N ≤ 1000) (z : Int32) : PAIR Value.int l yX11_word cX11_word 2 yX12_word cX12_word 5 (some .int) (ad 0) mo [.int z] D cy e0 ws (J cy ad mo am e0 (N + 1)) := by
  have hJ1 := hJ.up
  obtain ⟨eb, es, tp, os, sz, bits, F, G, u, nb, ns, T, M, id, mb, mz, ft, fo, f2, o2, fi, g, dq, ba, sa, pt, ih, il, ip, pn, op, so, fa, fp, st, en, dr, dy, rfl, htp, hos, hsz, hsi, hu4, hT, hid1, hid2, hDY, hJT, hft, hfo, hdr⟩ := hJ
  have hJT2 := hJT
  obtain ⟨b_pt, b_ih, b_il, b_ip, b_pn, b_op, b_so, b_fa, b_fp, b_st, b_en, b_pu, b_ow, b_T⟩ := hJT2
  have hb_ip : ∀ i, ip i < 2 ^ 31 := fun i => Nat.lt_trans (b_ip i) (by decide)
  have hb_pn : ∀ i, pn i < 2 ^ 31 := fun i => Nat.lt_trans (b_pn i) (by decide)
  have hb_op : ∀ i, op i < 2 ^ 31 := fun i => Nat.lt_trans (b_op i) (by decide)
  have hb_fp : ∀ i, fp i < 2 ^ 31 := fun i => Nat.lt_trans (b_fp i) (by decide)
  have hb_en : ∀ i, en i < 2 ^ 62 := fun i => Nat.lt_trans (b_en i) (by decide)
  have hnb : nb ≤ 64 := by
    obtain ⟨⟨_, _, _, h, _⟩, _⟩ := hDY
    exact h
  have hns : ns ≤ 128 := by
    obtain ⟨_, ⟨_, _, _, h, _⟩, _⟩ := hDY
    exact h
  rcases int_case z with hz | ⟨n, hn, rfl⟩
  · exact PAIR.er (c_X11_wordN htp hos hsi hu4 hz) (by decide) (OPX.er (c_X12_wordN (km := 12) (mo := mo) rfl rfl rfl hz) (by decide) hJ1)
  exact PAIR.er (c_X11_word htp hos hsi hu4 hn) (by decide) (OPX.cr (OPX.er (c_X12_word (km := 12) (mo := mo) (fo := o2) (os := os) rfl rfl rfl (AR_of (kr := 14) (N := 1640) rfl (by omega) (by decide)) (by omega) hn) (by decide) hJ1) (by rw [hfo.rd]))
theorem op_take {l : Launch} {D : va_G} {cy : Nat → ClassId} {ad am : Nat → Nat} {mo N : Nat} {e0 : Nat × Nat} {ws : va_W} (hJ : J cy ad mo am e0 N ws) (hN : N ≤ 1000)  : PAIR Value.int l yX11_take cX11_take 2 yX12_take cX12_take 2 (some .int) (ad 0) mo [] D cy e0 ws (J cy ad mo am e0 (N + 1)) := by
  have hJ1 := hJ.up
  obtain ⟨eb, es, tp, os, sz, bits, F, G, u, nb, ns, T, M, id, mb, mz, ft, fo, f2, o2, fi, g, dq, ba, sa, pt, ih, il, ip, pn, op, so, fa, fp, st, en, dr, dy, rfl, htp, hos, hsz, hsi, hu4, hT, hid1, hid2, hDY, hJT, hft, hfo, hdr⟩ := hJ
  have hJT2 := hJT
  obtain ⟨b_pt, b_ih, b_il, b_ip, b_pn, b_op, b_so, b_fa, b_fp, b_st, b_en, b_pu, b_ow, b_T⟩ := hJT2
  have hb_ip : ∀ i, ip i < 2 ^ 31 := fun i => Nat.lt_trans (b_ip i) (by decide)
  have hb_pn : ∀ i, pn i < 2 ^ 31 := fun i => Nat.lt_trans (b_pn i) (by decide)
  have hb_op : ∀ i, op i < 2 ^ 31 := fun i => Nat.lt_trans (b_op i) (by decide)
  have hb_fp : ∀ i, fp i < 2 ^ 31 := fun i => Nat.lt_trans (b_fp i) (by decide)
  have hb_en : ∀ i, en i < 2 ^ 62 := fun i => Nat.lt_trans (b_en i) (by decide)
  have hnb : nb ≤ 64 := by
    obtain ⟨⟨_, _, _, h, _⟩, _⟩ := hDY
    exact h
  have hns : ns ≤ 128 := by
    obtain ⟨_, ⟨_, _, _, h, _⟩, _⟩ := hDY
    exact h
  by_cases hb : os ≤ 1600
  · refine PAIR.w (c_X11_take htp hos hsi hu4 hb) (by decide) (fun _ _ => OPX.cr (OPX.mw (c_X12_take (by omega)) (by decide) (fun _ _ => ?_)) (by rw [if_pos hb]))
    simp only [if_pos hb]
    refine J.mk hb hos hsz hsi hu4 (by omega) hid1 hid2 hDY hJT (fun i hi => ?_) hfo hdr
    unfold va_cpy
    rw [if_pos (by omega), if_pos hi, Nat.zero_add, Nat.sub_zero]
    exact hfo i hi
  · refine PAIR.er (c_X11_takeG htp hos hsi hu4 (by omega)) (by decide) (OPX.cr (OPX.mw (c_X12_take (by omega)) (by decide) (fun _ _ => ?_)) (by rw [if_neg hb]))
    simp only [if_neg hb]
    exact hJ1
theorem op_bend {l : Launch} {D : va_G} {cy : Nat → ClassId} {ad am : Nat → Nat} {mo N : Nat} {e0 : Nat × Nat} {ws : va_W} (hJ : J cy ad mo am e0 N ws) (hN : N ≤ 1000) (z k : Int32) : PAIR Value.int l yX11_bend cX11_bend 4 yX12_bend cX12_bend 4 (some .int) (ad 0) mo [.int z, .int k] D cy e0 ws (J cy ad mo am e0 (N + 1)) := by
  have hJ1 := hJ.up
  obtain ⟨eb, es, tp, os, sz, bits, F, G, u, nb, ns, T, M, id, mb, mz, ft, fo, f2, o2, fi, g, dq, ba, sa, pt, ih, il, ip, pn, op, so, fa, fp, st, en, dr, dy, rfl, htp, hos, hsz, hsi, hu4, hT, hid1, hid2, hDY, hJT, hft, hfo, hdr⟩ := hJ
  have hJT2 := hJT
  obtain ⟨b_pt, b_ih, b_il, b_ip, b_pn, b_op, b_so, b_fa, b_fp, b_st, b_en, b_pu, b_ow, b_T⟩ := hJT2
  have hb_ip : ∀ i, ip i < 2 ^ 31 := fun i => Nat.lt_trans (b_ip i) (by decide)
  have hb_pn : ∀ i, pn i < 2 ^ 31 := fun i => Nat.lt_trans (b_pn i) (by decide)
  have hb_op : ∀ i, op i < 2 ^ 31 := fun i => Nat.lt_trans (b_op i) (by decide)
  have hb_fp : ∀ i, fp i < 2 ^ 31 := fun i => Nat.lt_trans (b_fp i) (by decide)
  have hb_en : ∀ i, en i < 2 ^ 62 := fun i => Nat.lt_trans (b_en i) (by decide)
  have hnb : nb ≤ 64 := by
    obtain ⟨⟨_, _, _, h, _⟩, _⟩ := hDY
    exact h
  have hns : ns ≤ 128 := by
    obtain ⟨_, ⟨_, _, _, h, _⟩, _⟩ := hDY
    exact h
  rcases int_case z with hz | ⟨n, hn, rfl⟩
  · exact PAIR.er (c_X11_bendN htp hos hsi hu4 hz) (by decide) (OPX.mr (c_X12_bendN (isInm_f (by omega) (Or.inl hz)) htp) (by decide) hJ1)
  by_cases hb : n < tp
  · exact PAIR.w (c_X11_bend htp hos hsi hu4 hb) (by decide) (fun _ _ => OPX.cr (OPX.mw (c_X12_bend hb htp) (by decide) (fun _ _ => J.mk htp hos hsz hsi hu4 (by omega) hid1 hid2 hDY hJT (fun i hi => by rw [hft.rd]; exact up_c (fun _ => hft i hi)) hfo hdr)) (by rw [hft.rd]))
  · exact PAIR.er (c_X11_bendG htp hos hsi hu4 hn (by omega)) (by decide) (OPX.mr (c_X12_bendN (isInm_f (by omega) (Or.inr ⟨n, hn, rfl, by omega⟩)) htp) (by decide) hJ1)
theorem op_signHead {l : Launch} {D : va_G} {cy : Nat → ClassId} {ad am : Nat → Nat} {mo N : Nat} {e0 : Nat × Nat} {ws : va_W} (hJ : J cy ad mo am e0 N ws) (hN : N ≤ 1000)  : PAIR Value.int l yX11_signHead cX11_signHead 2 yX12_signHead cX12_signHead 2 (some .int) (ad 0) mo [] D cy e0 ws (J cy ad mo am e0 (N + 1)) := by
  have hJ1 := hJ.up
  obtain ⟨eb, es, tp, os, sz, bits, F, G, u, nb, ns, T, M, id, mb, mz, ft, fo, f2, o2, fi, g, dq, ba, sa, pt, ih, il, ip, pn, op, so, fa, fp, st, en, dr, dy, rfl, htp, hos, hsz, hsi, hu4, hT, hid1, hid2, hDY, hJT, hft, hfo, hdr⟩ := hJ
  have hJT2 := hJT
  obtain ⟨b_pt, b_ih, b_il, b_ip, b_pn, b_op, b_so, b_fa, b_fp, b_st, b_en, b_pu, b_ow, b_T⟩ := hJT2
  have hb_ip : ∀ i, ip i < 2 ^ 31 := fun i => Nat.lt_trans (b_ip i) (by decide)
  have hb_pn : ∀ i, pn i < 2 ^ 31 := fun i => Nat.lt_trans (b_pn i) (by decide)
  have hb_op : ∀ i, op i < 2 ^ 31 := fun i => Nat.lt_trans (b_op i) (by decide)
  have hb_fp : ∀ i, fp i < 2 ^ 31 := fun i => Nat.lt_trans (b_fp i) (by decide)
  have hb_en : ∀ i, en i < 2 ^ 62 := fun i => Nat.lt_trans (b_en i) (by decide)
  have hnb : nb ≤ 64 := by
    obtain ⟨⟨_, _, _, h, _⟩, _⟩ := hDY
    exact h
  have hns : ns ≤ 128 := by
    obtain ⟨_, ⟨_, _, _, h, _⟩, _⟩ := hDY
    exact h
  by_cases hb : tp < 20
  · refine PAIR.er (c_X11_signHeadG htp hos hsi hu4 hb) (by decide) (OPX.cr (OPX.mw (c_X12_signHead htp) (by decide) (fun _ _ => ?_)) (by rw [if_pos hb]))
    simp only [if_pos hb]
    exact hJ1
  · refine PAIR.w (c_X11_signHead htp hos hsi hu4 (by omega)) (by decide) (fun _ _ => OPX.cr (OPX.mw (c_X12_signHead htp) (by decide) (fun _ _ => ?_)) (by rw [if_neg hb, hft.rd]))
    simp only [if_neg hb]
    rw [hft.rd]
    exact J.mk htp hos hsz hsi hu4 (by omega) hid1 hid2 hDY hJT (put_q hft) hfo hdr
theorem op_binding {l : Launch} {D : va_G} {cy : Nat → ClassId} {ad am : Nat → Nat} {mo N : Nat} {e0 : Nat × Nat} {ws : va_W} (hJ : J cy ad mo am e0 N ws) (hN : N ≤ 1000) (z k : Int32) : PAIR Value.int l yX11_binding cX11_binding 4 yX12_binding cX12_binding 3 (some .int) (ad 0) mo [.int z, .int k] D cy e0 ws (J cy ad mo am e0 (N + 1)) := by
  have hJ1 := hJ.up
  obtain ⟨eb, es, tp, os, sz, bits, F, G, u, nb, ns, T, M, id, mb, mz, ft, fo, f2, o2, fi, g, dq, ba, sa, pt, ih, il, ip, pn, op, so, fa, fp, st, en, dr, dy, rfl, htp, hos, hsz, hsi, hu4, hT, hid1, hid2, hDY, hJT, hft, hfo, hdr⟩ := hJ
  have hJT2 := hJT
  obtain ⟨b_pt, b_ih, b_il, b_ip, b_pn, b_op, b_so, b_fa, b_fp, b_st, b_en, b_pu, b_ow, b_T⟩ := hJT2
  have hb_ip : ∀ i, ip i < 2 ^ 31 := fun i => Nat.lt_trans (b_ip i) (by decide)
  have hb_pn : ∀ i, pn i < 2 ^ 31 := fun i => Nat.lt_trans (b_pn i) (by decide)
  have hb_op : ∀ i, op i < 2 ^ 31 := fun i => Nat.lt_trans (b_op i) (by decide)
  have hb_fp : ∀ i, fp i < 2 ^ 31 := fun i => Nat.lt_trans (b_fp i) (by decide)
  have hb_en : ∀ i, en i < 2 ^ 62 := fun i => Nat.lt_trans (b_en i) (by decide)
  have hnb : nb ≤ 64 := by
    obtain ⟨⟨_, _, _, h, _⟩, _⟩ := hDY
    exact h
  have hns : ns ≤ 128 := by
    obtain ⟨_, ⟨_, _, _, h, _⟩, _⟩ := hDY
    exact h
  rcases int_case z with hz | ⟨n, hn, rfl⟩
  · exact PAIR.er (c_X11_bindingN htp hos hsi hu4 hz) (by decide) (OPX.mr (c_X12_bindingN (isInm_f (by omega) (Or.inl hz)) hnb) (by decide) hJ1)
  by_cases hb : n < nb
  · rcases int_case k with hk | ⟨w, hw, rfl⟩
    · exact PAIR.er (c_X11_bindingW htp hos hsi hu4 hDY b_pt b_ih b_il hb_ip hb_pn hb_op b_fa hb_fp b_st hb_en hb hk) (by decide) (OPX.mr (c_X12_bindingW hb hnb hk) (by decide) hJ1)
    · exact PAIR.er (c_X11_binding htp hos hsi hu4 hDY b_pt b_ih b_il hb_ip hb_pn hb_op b_fa hb_fp b_st hb_en hb hw) (by decide) (OPX.mr (c_X12_binding b_pt hb_ip hb_pn hb_op b_so hb hnb hns hw) (by decide) hJ1)
  · exact PAIR.er (c_X11_bindingG htp hos hsi hu4 hDY b_pt b_ih b_il hb_ip hb_pn hb_op b_fa hb_fp b_st hb_en hn hb) (by decide) (OPX.mr (c_X12_bindingN (isInm_f (by omega) (Or.inr ⟨n, hn, rfl, by omega⟩)) hnb) (by decide) hJ1)
theorem op_inner {l : Launch} {D : va_G} {cy : Nat → ClassId} {ad am : Nat → Nat} {mo N : Nat} {e0 : Nat × Nat} {ws : va_W} (hJ : J cy ad mo am e0 N ws) (hN : N ≤ 1000) (z : Int32) (w : Bool) : PAIR Value.long l yX11_inner cX11_inner 4 yX12_inner cX12_inner 3 (some .long) (ad 0) mo [.int z, .int (bI w)] D cy e0 ws (J cy ad mo am e0 (N + 1)) := by
  have hJ1 := hJ.up
  obtain ⟨eb, es, tp, os, sz, bits, F, G, u, nb, ns, T, M, id, mb, mz, ft, fo, f2, o2, fi, g, dq, ba, sa, pt, ih, il, ip, pn, op, so, fa, fp, st, en, dr, dy, rfl, htp, hos, hsz, hsi, hu4, hT, hid1, hid2, hDY, hJT, hft, hfo, hdr⟩ := hJ
  have hJT2 := hJT
  obtain ⟨b_pt, b_ih, b_il, b_ip, b_pn, b_op, b_so, b_fa, b_fp, b_st, b_en, b_pu, b_ow, b_T⟩ := hJT2
  have hb_ip : ∀ i, ip i < 2 ^ 31 := fun i => Nat.lt_trans (b_ip i) (by decide)
  have hb_pn : ∀ i, pn i < 2 ^ 31 := fun i => Nat.lt_trans (b_pn i) (by decide)
  have hb_op : ∀ i, op i < 2 ^ 31 := fun i => Nat.lt_trans (b_op i) (by decide)
  have hb_fp : ∀ i, fp i < 2 ^ 31 := fun i => Nat.lt_trans (b_fp i) (by decide)
  have hb_en : ∀ i, en i < 2 ^ 62 := fun i => Nat.lt_trans (b_en i) (by decide)
  have hnb : nb ≤ 64 := by
    obtain ⟨⟨_, _, _, h, _⟩, _⟩ := hDY
    exact h
  have hns : ns ≤ 128 := by
    obtain ⟨_, ⟨_, _, _, h, _⟩, _⟩ := hDY
    exact h
  rcases int_case z with hz | ⟨n, hn, rfl⟩
  · exact PAIR.er (c_X11_innerN htp hos hsi hu4 hz) (by decide) (OPX.mr (c_X12_innerN (isInm_f (by omega) (Or.inl hz)) hnb) (by decide) hJ1)
  by_cases hb : n < nb
  · exact PAIR.er (c_X11_inner htp hos hsi hu4 hDY b_pt b_ih b_il hb_ip hb_pn hb_op b_fa hb_fp b_st hb_en hb) (by decide) (OPX.mr (c_X12_inner b_ih b_il hb hnb) (by decide) hJ1)
  · exact PAIR.er (c_X11_innerG htp hos hsi hu4 hDY b_pt b_ih b_il hb_ip hb_pn hb_op b_fa hb_fp b_st hb_en hn hb) (by decide) (OPX.mr (c_X12_innerN (isInm_f (by omega) (Or.inr ⟨n, hn, rfl, by omega⟩)) hnb) (by decide) hJ1)
theorem op_session {l : Launch} {D : va_G} {cy : Nat → ClassId} {ad am : Nat → Nat} {mo N : Nat} {e0 : Nat × Nat} {ws : va_W} (hJ : J cy ad mo am e0 N ws) (hN : N ≤ 1000) (z k : Int32) : PAIR Value.int l yX11_session cX11_session 4 yX12_session cX12_session 3 (some .int) (ad 0) mo [.int z, .int k] D cy e0 ws (J cy ad mo am e0 (N + 1)) := by
  have hJ1 := hJ.up
  obtain ⟨eb, es, tp, os, sz, bits, F, G, u, nb, ns, T, M, id, mb, mz, ft, fo, f2, o2, fi, g, dq, ba, sa, pt, ih, il, ip, pn, op, so, fa, fp, st, en, dr, dy, rfl, htp, hos, hsz, hsi, hu4, hT, hid1, hid2, hDY, hJT, hft, hfo, hdr⟩ := hJ
  have hJT2 := hJT
  obtain ⟨b_pt, b_ih, b_il, b_ip, b_pn, b_op, b_so, b_fa, b_fp, b_st, b_en, b_pu, b_ow, b_T⟩ := hJT2
  have hb_ip : ∀ i, ip i < 2 ^ 31 := fun i => Nat.lt_trans (b_ip i) (by decide)
  have hb_pn : ∀ i, pn i < 2 ^ 31 := fun i => Nat.lt_trans (b_pn i) (by decide)
  have hb_op : ∀ i, op i < 2 ^ 31 := fun i => Nat.lt_trans (b_op i) (by decide)
  have hb_fp : ∀ i, fp i < 2 ^ 31 := fun i => Nat.lt_trans (b_fp i) (by decide)
  have hb_en : ∀ i, en i < 2 ^ 62 := fun i => Nat.lt_trans (b_en i) (by decide)
  have hnb : nb ≤ 64 := by
    obtain ⟨⟨_, _, _, h, _⟩, _⟩ := hDY
    exact h
  have hns : ns ≤ 128 := by
    obtain ⟨_, ⟨_, _, _, h, _⟩, _⟩ := hDY
    exact h
  rcases int_case z with hz | ⟨n, hn, rfl⟩
  · exact PAIR.er (c_X11_sessionN htp hos hsi hu4 hz) (by decide) (OPX.mr (c_X12_sessionN (isInm_f (by omega) (Or.inl hz)) hns) (by decide) hJ1)
  by_cases hb : n < ns
  · rcases int_case k with hk | ⟨w, hw, rfl⟩
    · exact PAIR.er (c_X11_sessionW htp hos hsi hu4 hDY b_pt b_ih b_il hb_ip hb_pn hb_op b_fa hb_fp b_st hb_en hb hk) (by decide) (OPX.mr (c_X12_sessionW hb hns hk) (by decide) hJ1)
    · exact PAIR.er (c_X11_session htp hos hsi hu4 hDY b_pt b_ih b_il hb_ip hb_pn hb_op b_fa hb_fp b_st hb_en (fun i hi => Nat.le_of_lt (b_T i hi)) hb hw) (by decide) (OPX.mr (c_X12_session b_so b_fa hb_fp b_st (fun i hi => Nat.le_of_lt (b_T i hi)) hb hns hw) (by decide) hJ1)
  · exact PAIR.er (c_X11_sessionG htp hos hsi hu4 hDY b_pt b_ih b_il hb_ip hb_pn hb_op b_fa hb_fp b_st hb_en hn hb) (by decide) (OPX.mr (c_X12_sessionN (isInm_f (by omega) (Or.inr ⟨n, hn, rfl, by omega⟩)) hns) (by decide) hJ1)
theorem op_count {l : Launch} {D : va_G} {cy : Nat → ClassId} {ad am : Nat → Nat} {mo N : Nat} {e0 : Nat × Nat} {ws : va_W} (hJ : J cy ad mo am e0 N ws) (hN : N ≤ 1000) (k : Int32) : PAIR Value.int l yX11_count cX11_count 2 yX12_count cX12_count 2 (some .int) (ad 0) mo [.int k] D cy e0 ws (J cy ad mo am e0 (N + 1)) := by
  have hJ1 := hJ.up
  obtain ⟨eb, es, tp, os, sz, bits, F, G, u, nb, ns, T, M, id, mb, mz, ft, fo, f2, o2, fi, g, dq, ba, sa, pt, ih, il, ip, pn, op, so, fa, fp, st, en, dr, dy, rfl, htp, hos, hsz, hsi, hu4, hT, hid1, hid2, hDY, hJT, hft, hfo, hdr⟩ := hJ
  have hJT2 := hJT
  obtain ⟨b_pt, b_ih, b_il, b_ip, b_pn, b_op, b_so, b_fa, b_fp, b_st, b_en, b_pu, b_ow, b_T⟩ := hJT2
  have hb_ip : ∀ i, ip i < 2 ^ 31 := fun i => Nat.lt_trans (b_ip i) (by decide)
  have hb_pn : ∀ i, pn i < 2 ^ 31 := fun i => Nat.lt_trans (b_pn i) (by decide)
  have hb_op : ∀ i, op i < 2 ^ 31 := fun i => Nat.lt_trans (b_op i) (by decide)
  have hb_fp : ∀ i, fp i < 2 ^ 31 := fun i => Nat.lt_trans (b_fp i) (by decide)
  have hb_en : ∀ i, en i < 2 ^ 62 := fun i => Nat.lt_trans (b_en i) (by decide)
  have hnb : nb ≤ 64 := by
    obtain ⟨⟨_, _, _, h, _⟩, _⟩ := hDY
    exact h
  have hns : ns ≤ 128 := by
    obtain ⟨_, ⟨_, _, _, h, _⟩, _⟩ := hDY
    exact h
  rcases int_case k with hk | ⟨w, hw, rfl⟩
  · exact PAIR.er (c_X11_countW htp hos hsi hu4 hk) (by decide) (OPX.mr (c_X12_countW hk) (by decide) hJ1)
  · refine PAIR.er (c_X11_count htp hos hsi hu4 hDY b_pt b_ih b_il hb_ip hb_pn hb_op b_fa hb_fp b_st hb_en (by omega) hw) (by decide) (OPX.cr (OPX.mr (c_X12_count hw) (by decide) hJ1) ?_)
    unfold tg_cw
    by_cases h : 10 ≤ w ∧ w ≤ 15
    · rw [if_pos h, if_pos h, hdr (w - 10) (by omega)]
    · rw [if_neg h, if_neg h]
theorem op_sign {l : Launch} {D : va_G} {cy : Nat → ClassId} {ad am : Nat → Nat} {mo N : Nat} {e0 : Nat × Nat} {ws : va_W} (hJ : J cy ad mo am e0 N ws) (hN : N ≤ 1000) (z k : Int32) : PAIR Value.int l yX11_sign cX11_sign 5 yX12_sign cX12_sign 6 (some .int) (ad 0) mo [.int z, .int k] D cy e0 ws (J cy ad mo am e0 (N + 1)) := by
  have hJ1 := hJ.up
  obtain ⟨eb, es, tp, os, sz, bits, F, G, u, nb, ns, T, M, id, mb, mz, ft, fo, f2, o2, fi, g, dq, ba, sa, pt, ih, il, ip, pn, op, so, fa, fp, st, en, dr, dy, rfl, htp, hos, hsz, hsi, hu4, hT, hid1, hid2, hDY, hJT, hft, hfo, hdr⟩ := hJ
  have hJT2 := hJT
  obtain ⟨b_pt, b_ih, b_il, b_ip, b_pn, b_op, b_so, b_fa, b_fp, b_st, b_en, b_pu, b_ow, b_T⟩ := hJT2
  have hb_ip : ∀ i, ip i < 2 ^ 31 := fun i => Nat.lt_trans (b_ip i) (by decide)
  have hb_pn : ∀ i, pn i < 2 ^ 31 := fun i => Nat.lt_trans (b_pn i) (by decide)
  have hb_op : ∀ i, op i < 2 ^ 31 := fun i => Nat.lt_trans (b_op i) (by decide)
  have hb_fp : ∀ i, fp i < 2 ^ 31 := fun i => Nat.lt_trans (b_fp i) (by decide)
  have hb_en : ∀ i, en i < 2 ^ 62 := fun i => Nat.lt_trans (b_en i) (by decide)
  have hnb : nb ≤ 64 := by
    obtain ⟨⟨_, _, _, h, _⟩, _⟩ := hDY
    exact h
  have hns : ns ≤ 128 := by
    obtain ⟨_, ⟨_, _, _, h, _⟩, _⟩ := hDY
    exact h
  by_cases hg : ∃ n a : Nat, z = nI n ∧ k = nI a ∧ tg_head (tg_rd ft tp) ≠ 0 ∧ tg_head (tg_rd ft tp) ≤ n ∧ n ≤ tp ∧ tg_head (tg_rd ft tp) ≤ a ∧ a + 2 ≤ n
  · obtain ⟨n, a, rfl, rfl, g1, g2, g3, g4, g5⟩ := hg
    have hv : tg_rd f2 tp 0 / 16 = 4 ∧ tg_head (tg_rd ft tp) = 20 ∨ tg_rd f2 tp 0 / 16 = 6 ∧ tg_head (tg_rd ft tp) = 40 := by
      rw [hft.rd]
      unfold tg_head at g1 ⊢
      split at g1
      · rename_i h
        rw [if_pos h]
        exact Or.inl ⟨h, rfl⟩
      · split at g1
        · rename_i h h2
          rw [if_neg h, if_pos h2]
          exact Or.inr ⟨h2, rfl⟩
        · exact absurd rfl g1
    rcases hv with ⟨hv, hh⟩ | ⟨hv, hh⟩
    · have ep : tg_proto (tg_rd ft tp) (tg_head (tg_rd ft tp)) = tg_rd ft tp 9 := by rw [hh]; rfl
      refine PAIR.w (c_X11_sign htp hos hsi hu4 g1 g2 g3 g4 g5) (by decide) (fun _ _ => OPX.cr (OPX.mw (c_X12_sign4 hv (by omega) g3 (by omega) g5 htp) (by decide) (fun _ _ => ?_)) (by rw [ep, hh, hft.rd]))
      rw [ep, hh, hft.rd]
      exact J.mk htp hos hsz hsi hu4 (by omega) hid1 hid2 hDY hJT (put_q hft) hfo hdr
    · have ep : tg_proto (tg_rd ft tp) (tg_head (tg_rd ft tp)) = tg_rd ft tp 6 := by rw [hh]; rfl
      refine PAIR.w (c_X11_sign htp hos hsi hu4 g1 g2 g3 g4 g5) (by decide) (fun _ _ => OPX.cr (OPX.mw (c_X12_sign6 hv (by omega) g3 (by omega) g5 htp) (by decide) (fun _ _ => ?_)) (by rw [ep, hh, hft.rd]))
      rw [ep, hh, hft.rd]
      exact J.mk htp hos hsz hsi hu4 (by omega) hid1 hid2 hDY hJT (put_q hft) hfo hdr
  · refine PAIR.er (c_X11_signB htp hos hsi hu4 hg) (by decide) ?_
    have h40 : tg_head (tg_rd ft tp) = 0 ∨ tg_head (tg_rd ft tp) = 20 ∨ tg_head (tg_rd ft tp) = 40 := by
      unfold tg_head
      (repeat' split) <;> simp
    rcases int_case z with hz | ⟨n, hn, rfl⟩
    · exact OPX.mr (c_X12_signN (isInr_f (by decide) (by omega) (Or.inl hz)) htp) (by decide) hJ1
    by_cases h1 : 20 ≤ n ∧ n ≤ tp
    · by_cases h2 : tg_head (tg_rd ft tp) = 0 ∨ n < tg_head (tg_rd ft tp)
      · exact OPX.mr (c_X12_signV h1.1 h1.2 htp (by rw [hft.rd]; exact h2)) (by decide) hJ1
      · refine OPX.mr (c_X12_signP h1.1 h1.2 htp (by rw [hft.rd]; omega) (by rw [hft.rd]; omega) ?_) (by decide) hJ1
        rw [hft.rd]
        refine isInr_f (by omega) (by omega) ?_
        rcases int_case k with hk | ⟨a, ha, rfl⟩
        · exact Or.inl hk
        · refine Or.inr ⟨a, ha, rfl, ?_⟩
          by_cases h3 : tg_head (tg_rd ft tp) ≤ a ∧ a + 2 ≤ n
          · exact (hg ⟨n, a, rfl, rfl, by omega, by omega, h1.2, h3.1, h3.2⟩).elim
          · omega
    · exact OPX.mr (c_X12_signN (isInr_f (by decide) (by omega) (Or.inr ⟨n, hn, rfl, by omega⟩)) htp) (by decide) hJ1
