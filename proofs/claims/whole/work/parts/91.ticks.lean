theorem LL_in {p : Nat → Bool} {s k : Nat} (h : k < (LL p s).length) : (LL p s).getD k 0 < s ∧ p ((LL p s).getD k 0) = true := by
  have e : (LL p s).getD k 0 = (LL p s)[k] := by rw [List.getD_eq_getElem?_getD, List.getElem?_eq_getElem h]; rfl
  have hm : (LL p s)[k] ∈ LL p s := List.getElem_mem h
  rw [e]
  obtain ⟨h1, h2⟩ := List.mem_filter.mp hm
  exact ⟨List.mem_range.mp h1, h2⟩
theorem cnt_LL {q : Nat → Bool} : ∀ {s k : Nat}, k < (LL q s).length → tg_cnt q ((LL q s).getD k 0) = k
  | 0, k, h => absurd h (Nat.not_lt_zero _)
  | s + 1, k, h => by
    rw [LL_s] at h ⊢
    by_cases hk : k < (LL q s).length
    · rw [show (LL q s ++ (if q s = true then [s] else [])).getD k 0 = (LL q s).getD k 0 by rw [List.getD_eq_getElem?_getD, List.getElem?_append_left hk, ← List.getD_eq_getElem?_getD]]
      exact cnt_LL hk
    · by_cases hs : q s = true
      · rw [if_pos hs] at h ⊢
        have hk2 : k = (LL q s).length := by
          rw [List.length_append] at h
          have : ([s] : List Nat).length = 1 := rfl
          omega
        rw [show (LL q s ++ [s]).getD k 0 = s by rw [List.getD_eq_getElem?_getD, List.getElem?_append_right (by omega), hk2, Nat.sub_self]; rfl, hk2]
        exact LL_len.symm
      · rw [if_neg hs, List.append_nil] at h
        exact absurd h hk
theorem cnt_ex {q : Nat → Bool} : ∀ {n : Nat}, 0 < tg_cnt q n → ∃ j, j < n ∧ q j = true
  | 0, h => absurd h (Nat.lt_irrefl _)
  | n + 1, h => by
    by_cases hq : q n = true
    · exact ⟨n, Nat.lt_succ_self n, hq⟩
    · have e : tg_cnt q (n + 1) = tg_cnt q n := by
        show tg_cnt q n + (if q n = true then 1 else 0) = tg_cnt q n
        rw [if_neg hq]; rfl
      rw [e] at h
      obtain ⟨j, h1, h2⟩ := cnt_ex h
      exact ⟨j, Nat.lt_succ_of_lt h1, h2⟩
theorem DY.so {cy : Nat → ClassId} {e0 eb es nb ns : Nat} {dy : va_W} {ba sa pt ih il ip pn op so fa fp st en : Nat → Nat} (h : DY cy e0 dy eb es nb ns ba sa pt ih il ip pn op so fa fp st en) : ∀ j, j < ns → so j < nb := by
  obtain ⟨-, ⟨N2, f2, g1, g2, g3, g4⟩, h5⟩ := h
  exact fun j hj => (g3 j hj).2.1
theorem op_tick {l : Launch} {D : va_G} {cy : Nat → ClassId} {ad am : Nat → Nat} {mo N : Nat} {e0 : Nat × Nat} {ws : va_W} (hJ : J cy ad mo am e0 N ws) (hN : N ≤ 1000) (z : Int32) : PAIR Value.int l yX11_tick cX11_tick 2 yX12_tick cX12_tick 2 (some .int) (ad 0) mo [.int z] D cy e0 ws (J cy ad mo am e0 (N + 1)) := by
  have hJ1 := hJ.up
  obtain ⟨eb, es, tp, os, sz, bits, F, G, u, nb, ns, T, M, id, mb, mz, ft, fo, f2, o2, fi, g, dq, ba, sa, pt, ih, il, ip, pn, op, so, fa, fp, st, en, dr, dy, rfl, htp, hos, hsz, hsi, hu4, hT, hid1, hid2, hDY, hJT, hft, hfo, hdr⟩ := hJ
  have hJT2 := hJT
  obtain ⟨b_pt, b_ih, b_il, b_ip, b_pn, b_op, b_so, b_fa, b_fp, b_st, b_en, b_pu, b_ow, b_T⟩ := hJT2
  have hb_ip : ∀ i, ip i < 2 ^ 31 := fun i => Nat.lt_trans (b_ip i) (by decide)
  have hb_pn : ∀ i, pn i < 2 ^ 31 := fun i => Nat.lt_trans (b_pn i) (by decide)
  have hb_op : ∀ i, op i < 2 ^ 31 := fun i => Nat.lt_trans (b_op i) (by decide)
  have hb_fp : ∀ i, fp i < 2 ^ 31 := fun i => Nat.lt_trans (b_fp i) (by decide)
  have hb_en : ∀ i, en i < 2 ^ 62 := fun i => Nat.lt_trans (b_en i) (by decide)
  have hnb : nb ≤ 64 := by
    obtain ⟨⟨_, _, _, h, _⟩, _⟩ := hDY
    exact h
  have hns : ns ≤ 128 := by
    obtain ⟨_, ⟨_, _, _, h, _⟩, _⟩ := hDY
    exact h
  rcases int_case z with hz | ⟨n, hn, rfl⟩
  · exact PAIR.er (c_X11_tickN htp hos hsi hu4 hz) (by decide) (OPX.mr (c_X12_tickN (isInr_f (by decide) (by decide) (Or.inl hz))) (by decide) hJ1)
  by_cases hb : 10000 < n
  · exact PAIR.er (c_X11_tickG htp hos hsi hu4 hn hb) (by decide) (OPX.mr (c_X12_tickN (isInr_f (by decide) (by decide) (Or.inr ⟨n, hn, rfl, Or.inl hb⟩))) (by decide) hJ1)
  obtain ⟨p9, hp9⟩ : ∃ p : Nat → Bool, p = fun j => decide (T + n < en j) := ⟨_, rfl⟩
  obtain ⟨q9, hq9⟩ : ∃ q : Nat → Bool, q = fun j => decide (0 < tg_cnt (fun k => decide (pk so (LL p9 ns) k = j)) (LL p9 ns).length) := ⟨_, rfl⟩
  refine PAIR.ex (c_X11_tick htp hos hsi hu4 hDY b_pt b_ih b_il hb_ip hb_pn hb_op b_fa hb_fp b_st hb_en b_ow (n9 := n) (p9 := p9) (q9 := q9) (by omega) (by omega) hp9 (by rw [LL_fl]; exact hq9)) (by decide) (fun z9 hz9 => ?_)
  simp only [LL_fl] at hz9 ⊢
  refine OPX.mw (c_X12_tick (n9 := n) (by omega) hp9 hq9 hnb hns b_so b_en (by omega) (fun s hs => hDY.so _ (LL_in hs).1)) (by decide) (fun w hw => ?_)
  obtain ⟨w1, w2, w3, w4, w5, w6, s1, s2, s3, s4, s5, s6, w7, w8⟩ := hw
  refine J.mk htp hos hsz hsi hu4 (by omega) hid1 hid2 (hz9.cg (fun i hi => ⟨w1 i hi, w2 i hi, w3 i hi, w4 i hi, w5 i hi, w6 i hi⟩) (fun j hj => ⟨(w7 j hj).trans soC_0.symm, ckm_pk hj, ckm_pk hj, ckm_pk hj, ckm_pk hj⟩)) ⟨s1.lt b_pt, s2.lt b_ih, s3.lt b_il, s4.lt b_ip, s5.lt b_pn, s6.lt b_op, w8, SUB.ck.lt b_fa, SUB.ck.lt b_fp, fun i => ?_, SUB.ck.lt b_en, fun b hb9 => ?_, fun b hb9 => ?_, fun j hj => ?_⟩ hft hfo hdr
  · obtain ⟨j, e⟩ := SUB.ck (f := st) (p := p9) (s := ns) i
    rw [e]
    exact b_st j
  · rw [w5 b hb9]
    exact b_pu _ (LL_in hb9).1
  · obtain ⟨-, hq⟩ := LL_in hb9
    have hq2 : decide (0 < tg_cnt (fun k => decide (pk so (LL p9 ns) k = (LL q9 nb).getD b 0)) (LL p9 ns).length) = true := by
      have := congrFun hq9 ((LL q9 nb).getD b 0)
      rw [← this]
      exact hq
    obtain ⟨k, hk, e⟩ := cnt_ex (of_decide_eq_true hq2)
    refine ⟨k, hk, ?_⟩
    rw [w7 k hk, of_decide_eq_true e]
    exact cnt_LL hb9
  · rw [ckm_pk hj]
    have h2 := (LL_in hj).2
    have := congrFun hp9 ((LL p9 ns).getD j 0)
    rw [this] at h2
    exact of_decide_eq_true h2
