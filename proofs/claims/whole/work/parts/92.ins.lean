theorem up_all {α : Type} {P : α → Prop} {f : Nat → α} {k : Nat} {v : α} (h : ∀ i, P (f i)) (hv : P v) : ∀ i, P (va_up f k v i) := fun i => by
  unfold va_up
  split
  · exact hv
  · exact h i
theorem nxt_le (s ev : Nat) (b : Bool) : tg_nxt s ev b ≤ 8 := by unfold tg_nxt; (repeat' split) <;> omega
theorem life_ge (s q : Nat) : 1 ≤ tg_life s q := by unfold tg_life; (repeat' split) <;> omega
theorem fst_le (q : Nat) (b : Bool) : tg_first_st q b ≤ 7 := by unfold tg_first_st; (repeat' split) <;> omega
theorem id_ok {n id : Nat} (h1 : 1 ≤ id) (h2 : id < 65536) : 1 ≤ tg_id n id ∧ tg_id n id < 65536 := by unfold tg_id; (repeat' split) <;> omega
theorem port_lt (pt pn op : Nat → Nat) (nb q num port : Nat) : tg_port pt pn op nb q num port < 65536 := by
  unfold tg_port
  have h1 := tg_v0_le q port
  have h2 := tg_first_le (fun j => !tg_used pt pn op nb q num (tg_v0 q port + tg_sp q * j)) 64
  have h3 : tg_sp q ≤ 2 := by unfold tg_sp; split <;> omega
  have h4 := Nat.mul_le_mul h3 h2
  omega
theorem best_u {ih il pn : Nat → Nat} {nb u hi lo : Nat} (h : ∀ b, b < nb → pn b < u) (hu : u ≠ 0) : tg_best ih il pn nb u hi lo < u := by
  unfold tg_best
  split
  · rename_i h1
    exact h _ h1
  · have := tg_few_le (fun z => tg_cnt (fun k => decide (pn k = z)) nb) (u - 1)
    omega
theorem in_rng {h : Nat → Nat} {n bits F G u : Nat} (hz : tg_in h n bits F G u ≠ 0) : 10 ≤ tg_in h n bits F G u ∧ tg_in h n bits F G u ≤ 15 := by
  unfold tg_in at hz ⊢
  (repeat' split) <;> first | omega | (exfalso; simp_all)
theorem out_rng {h : Nat → Nat} {n bits u : Nat} {g : Nat → Int32} (hz : tg_out h n bits g u ≠ 0) : 10 ≤ tg_out h n bits g u ∧ tg_out h n bits g u ≤ 15 := by
  unfold tg_out at hz ⊢
  (repeat' split) <;> first | omega | (exfalso; simp_all)
theorem drop_eq {dq dr : Nat → Nat} {v : Nat} (h : ∀ k, k < 6 → dq k = dr (k + 10)) (hv : 10 ≤ v ∧ v ≤ 15) : ∀ k, k < 6 → va_up dq (v - 10) (dq (v - 10) + 1) k = va_up dr v (dr v + 1) (k + 10) := fun k hk => by
  unfold va_up
  by_cases e : k + 10 = v
  · rw [if_pos e, if_pos (by omega), h (v - 10) (by omega), show v - 10 + 10 = v by omega]
  · rw [if_neg e, if_neg (by omega), h k hk]
theorem drop15 {dq dr : Nat → Nat} (h : ∀ k, k < 6 → dq k = dr (k + 10)) : ∀ k, k < 6 → va_up dq 5 (dq 5 + 1) k = va_up dr 15 (dr 15 + 1) (k + 10) := drop_eq (v := 15) h ⟨by decide, by decide⟩
section JT
variable {nb ns u T : Nat} {pt ih il ip pn op so fa fp st en : Nat → Nat}
theorem JT.go {c : Prop} [Decidable c] {j s2 L : Nat} (h : JT nb ns u T pt ih il ip pn op so fa fp st en) (hs : ¬ c → s2 ≤ 7) (h1 : 1 ≤ L) (h2 : T + L < 2 ^ 31) : JT nb ns u T pt ih il ip pn op so fa fp (if c then st else va_up st j s2) (if c then en else va_up en j (T + L)) := by
  obtain ⟨b_pt, b_ih, b_il, b_ip, b_pn, b_op, b_so, b_fa, b_fp, b_st, b_en, b_pu, b_ow, b_T⟩ := h
  by_cases hc : c
  · rw [if_pos hc, if_pos hc]
    exact ⟨b_pt, b_ih, b_il, b_ip, b_pn, b_op, b_so, b_fa, b_fp, b_st, b_en, b_pu, b_ow, b_T⟩
  · rw [if_neg hc, if_neg hc]
    refine ⟨b_pt, b_ih, b_il, b_ip, b_pn, b_op, b_so, b_fa, b_fp, up_all (P := fun x => x ≤ 7) b_st (hs hc), up_all (P := fun x => x < 2 ^ 31) b_en h2, b_pu, b_ow, fun i hi => ?_⟩
    unfold va_up
    split
    · omega
    · exact b_T i hi
theorem JT.add {b far fpt s0 L : Nat} (h : JT nb ns u T pt ih il ip pn op so fa fp st en) (hb : b < 2 ^ 31) (hf : far < 2 ^ 32) (hp : fpt < 65536) (hs : s0 ≤ 7) (h1 : 1 ≤ L) (h2 : T + L < 2 ^ 31) : JT nb (ns + 1) u T pt ih il ip pn op (va_up so ns b) (va_up fa ns far) (va_up fp ns fpt) (va_up st ns s0) (va_up en ns (T + L)) := by
  obtain ⟨b_pt, b_ih, b_il, b_ip, b_pn, b_op, b_so, b_fa, b_fp, b_st, b_en, b_pu, b_ow, b_T⟩ := h
  refine ⟨b_pt, b_ih, b_il, b_ip, b_pn, b_op, up_all (P := fun x => x < 2 ^ 31) b_so hb, up_all (P := fun x => x < 2 ^ 32) b_fa hf, up_all (P := fun x => x < 65536) b_fp hp, up_all (P := fun x => x ≤ 7) b_st hs, up_all (P := fun x => x < 2 ^ 31) b_en h2, b_pu, fun k hk => ?_, fun i hi => ?_⟩
  · obtain ⟨j, g1, g2⟩ := b_ow k hk
    exact ⟨j, by omega, by rw [va_up_ne _ _ (by omega)]; exact g2⟩
  · unfold va_up
    split
    · omega
    · exact b_T i (by omega)
theorem JT.add2 {q hi lo port num po far fpt s0 L : Nat} (h : JT nb ns u T pt ih il ip pn op so fa fp st en) (hnb : nb < 64) (hu : u ≤ 4) (hq : q < 2 ^ 31) (hh : hi < 2 ^ 64) (hl : lo < 2 ^ 64) (hpt : port < 65536) (hnm : num < u) (hpo : po < 65536) (hf : far < 2 ^ 32) (hp : fpt < 65536) (hs : s0 ≤ 7) (h1 : 1 ≤ L) (h2 : T + L < 2 ^ 31) : JT (nb + 1) (ns + 1) u T (va_up pt nb q) (va_up ih nb hi) (va_up il nb lo) (va_up ip nb port) (va_up pn nb num) (va_up op nb po) (va_up so ns nb) (va_up fa ns far) (va_up fp ns fpt) (va_up st ns s0) (va_up en ns (T + L)) := by
  obtain ⟨b_pt, b_ih, b_il, b_ip, b_pn, b_op, b_so, b_fa, b_fp, b_st, b_en, b_pu, b_ow, b_T⟩ := h
  refine ⟨up_all (P := fun x => x < 2 ^ 31) b_pt hq, up_all (P := fun x => x < 2 ^ 64) b_ih hh, up_all (P := fun x => x < 2 ^ 64) b_il hl, up_all (P := fun x => x < 65536) b_ip hpt, up_all (P := fun x => x < 4) b_pn (by omega), up_all (P := fun x => x < 65536) b_op hpo, up_all (P := fun x => x < 2 ^ 31) b_so (by omega), up_all (P := fun x => x < 2 ^ 32) b_fa hf, up_all (P := fun x => x < 65536) b_fp hp, up_all (P := fun x => x ≤ 7) b_st hs, up_all (P := fun x => x < 2 ^ 31) b_en h2, fun k hk => ?_, fun k hk => ?_, fun i hi => ?_⟩
  · unfold va_up
    split
    · exact hnm
    · exact b_pu k (by omega)
  · by_cases e : k = nb
    · exact ⟨ns, by omega, by rw [va_up_self, e]⟩
    · obtain ⟨j, g1, g2⟩ := b_ow k (by omega)
      exact ⟨j, by omega, by rw [va_up_ne _ _ (by omega)]; exact g2⟩
  · unfold va_up
    split
    · omega
    · exact b_T i (by omega)
end JT
theorem op_inside {l : Launch} {D : va_G} {cy : Nat → ClassId} {ad am : Nat → Nat} {mo N : Nat} {e0 : Nat × Nat} {ws : va_W} (hJ : J cy ad mo am e0 N ws) (hN : N ≤ 1000) (z : Int32) : PAIR Value.int l yX11_inside cX11_inside 2 yX12_inside cX12_inside 15 (some .int) (ad 0) mo [.int z] D cy e0 ws (J cy ad mo am e0 (N + 1)) := by
  have hJ1 := hJ.up
  obtain ⟨eb, es, tp, os, sz, bits, F, G, u, nb, ns, T, M, id, mb, mz, ft, fo, f2, o2, fi, g, dq, ba, sa, pt, ih, il, ip, pn, op, so, fa, fp, st, en, dr, dy, rfl, htp, hos, hsz, hsi, hu4, hT, hid1, hid2, hDY, hJT, hft, hfo, hdr⟩ := hJ
  have hJT2 := hJT
  obtain ⟨b_pt, b_ih, b_il, b_ip, b_pn, b_op, b_so, b_fa, b_fp, b_st, b_en, b_pu, b_ow, b_T⟩ := hJT2
  have hb_ip : ∀ i, ip i < 2 ^ 31 := fun i => Nat.lt_trans (b_ip i) (by decide)
  have hb_pn : ∀ i, pn i < 2 ^ 31 := fun i => Nat.lt_trans (b_pn i) (by decide)
  have hb_op : ∀ i, op i < 2 ^ 31 := fun i => Nat.lt_trans (b_op i) (by decide)
  have hb_fp : ∀ i, fp i < 2 ^ 31 := fun i => Nat.lt_trans (b_fp i) (by decide)
  have hb_en : ∀ i, en i < 2 ^ 62 := fun i => Nat.lt_trans (b_en i) (by decide)
  have hnb : nb ≤ 64 := by
    obtain ⟨⟨_, _, _, h, _⟩, _⟩ := hDY
    exact h
  have hns : ns ≤ 128 := by
    obtain ⟨_, ⟨_, _, _, h, _⟩, _⟩ := hDY
    exact h
  rcases int_case z with hz | ⟨n, hn, rfl⟩
  · exact PAIR.er (c_X11_insideN htp hos hsi hu4 hz) (by decide) (OPX.mr (c_X12_insideN (isInr_f (by decide) (by omega) (Or.inl hz)) htp) (by decide) hJ1)
  by_cases hb : tp < n
  · exact PAIR.er (c_X11_insideG htp hos hsi hu4 hn hb) (by decide) (OPX.mr (c_X12_insideN (isInr_f (by decide) (by omega) (Or.inr ⟨n, hn, rfl, Or.inl hb⟩)) htp) (by decide) hJ1)
  have hnt : n ≤ tp := by omega
  have er : tg_rd f2 n = tg_rd ft n := (hft.mono hnt).rd
  by_cases hz0 : tg_in (tg_rd ft n) n bits F G u = 0
  case neg =>
    refine PAIR.w (c_X11_inside0 htp hos hsi hu4 hnt hz0) (by decide) (fun _ _ => OPX.cr (OPX.mw (c_X12_inside0 b_pt b_ih b_il hb_ip hb_pn hb_op b_pn b_so b_fa hb_fp b_st htp (by omega) hsi hu4 hnb hns hnt (by rw [er]; exact hz0)) (by decide) (fun f9 hf9 => ?_)) (by rw [er]))
    rw [er]
    exact J.mk (Nat.zero_le _) hos (by omega) hsi hu4 (by omega) hid1 hid2 hDY hJT (fun i hi => absurd hi (Nat.not_lt_zero _)) hfo (drop_eq hdr (in_rng hz0))
  obtain ⟨⟨h40, hp6, h8, h20, -⟩, hb0, hu0, -⟩ := in0 hz0
  obtain ⟨q, eq0⟩ : ∃ q : Nat, q = if tg_rd ft n 6 = 58 then 1 else tg_rd ft n 6 := ⟨_, rfl⟩
  obtain ⟨port, eport⟩ : ∃ q1 : Nat, q1 = tg_pr (tg_rd ft n) (40 + tg_spa q) := ⟨_, rfl⟩
  obtain ⟨far, efar⟩ : ∃ q1 : Nat, q1 = tg_dr bits (tg_ei (tg_rd ft n) 24) (tg_ei (tg_rd ft n) 32) := ⟨_, rfl⟩
  obtain ⟨fpt, efpt⟩ : ∃ q1 : Nat, q1 = if q = 1 then 0 else tg_pr (tg_rd ft n) (40 + tg_dpa q) := ⟨_, rfl⟩
  obtain ⟨ev, eev⟩ : ∃ q1 : Nat, q1 = tg_event (tg_rd ft n) 40 q := ⟨_, rfl⟩
  obtain ⟨hi, ehi⟩ : ∃ q1 : Nat, q1 = tg_ei (tg_rd ft n) 8 := ⟨_, rfl⟩
  obtain ⟨lo, elo⟩ : ∃ q1 : Nat, q1 = tg_ei (tg_rd ft n) 16 := ⟨_, rfl⟩
  have hq : q = 1 ∨ q = 6 ∨ q = 17 := by
    rw [eq0]
    split <;> omega
  have hpl : port < 65536 := by rw [eport]; exact tg_pr_lt _ _ _
  have hfl : far < 2 ^ 32 := by
    rw [efar]
    exact tg_dr_lt (by rcases hsi.b with h | h <;> omega)
  have hfpl : fpt < 65536 := by
    rw [efpt]
    split
    · decide
    · exact tg_pr_lt _ _ _
  have hhl : hi < 2 ^ 64 := by rw [ehi]; exact tg_ei_lt _ _ _
  have hll : lo < 2 ^ 64 := by rw [elo]; exact tg_ei_lt _ _ _
  have e20 : 20 + (n - 40) = n - 20 := by omega
  have hlife : ∀ s : Nat, T + tg_life s q < 2 ^ 31 := fun s => by have := tg_life_le s q; omega
  have hid9 := id_ok (n := n) hid1 hid2
  have hft9 : ∀ f9 : Nat → UInt8, (∀ k, k < n → f9 k = f2 k) → ∀ k, k < n → f9 k = ft k := fun f9 h k hk => (h k hk).trans (hft k (by omega)).symm
  obtain ⟨b, hfb⟩ : ∃ b : Nat, tg_first (fun k => decide (pt k = q ∧ ih k = hi ∧ il k = lo ∧ ip k = port)) nb = b := ⟨_, rfl⟩
  by_cases hb9 : b < nb
  · obtain ⟨sa9, hsa9, hga⟩ := nI_ofx (g (pn b))
    obtain ⟨j, hfj⟩ : ∃ j : Nat, tg_first (fun k => decide (so k = b ∧ fa k = far ∧ fp k = fpt)) ns = j := ⟨_, rfl⟩
    by_cases hj9 : j < ns
    · refine PAIR.w (c_X11_inside1 htp hos hsi hu4 hDY b_pt b_ih b_il hb_ip hb_pn hb_op b_fa hb_fp b_st hb_en hnt eq0 eport efar efpt eev ehi elo hz0 b_pn hb9 hfb hj9 hfj hsa9 hid2 (b_pu b hb9) hga (b_ip b)) (by decide) (fun dz hdz => OPX.cr (OPX.mw (c_X12_inside1 (q := q) (port := port) (far := far) (fpt := fpt) (ev := ev) (hi := hi) (lo := lo) b_pt b_ih b_il hb_ip hb_pn hb_op b_pn b_so b_fa hb_fp b_st htp (by omega) hsi hu4 hnb hns hnt (by rw [er]; exact eq0) (by rw [er]; exact eport) (by rw [er]; exact efar) (by rw [er]; exact efpt) (by rw [er]; exact eev) (by rw [er]; exact ehi) (by rw [er]; exact elo) (by rw [er]; exact hz0) hb9 hfb hj9 hfj hsa9 hid2 hga) (by decide) (fun w hw => ?_)) (by rw [e20]))
      rw [e20]
      exact J.mk (Nat.zero_le _) (by omega) (by omega) hsi hu4 (by omega) hid9.1 hid9.2 hdz (hJT.go (fun h => by have := nxt_le (st j) ev true; omega) (life_ge _ _) (hlife _)) (fun i hi => absurd hi (Nat.not_lt_zero _)) (fun i hi => by rw [hw.2]; exact (four_eq (by omega) hid1 hq (hft9 _ hw.1) i hi).symm) hdr
    · by_cases hmay : (q ≠ 6 ∨ ev = 2) ∧ ns < 128
      · refine PAIR.ex (c_X11_inside2 htp hos hsi hu4 hDY b_pt b_ih b_il hb_ip hb_pn hb_op b_fa hb_fp b_st hb_en hnt eq0 eport efar efpt eev ehi elo hz0 b_pn hb9 hfb (by rw [hfj]; exact hj9) hmay hsa9 hid2 (b_pu b hb9) hga (b_ip b)) (by decide) (fun dz hdz => OPX.cr (OPX.mw (c_X12_inside2 (q := q) (port := port) (far := far) (fpt := fpt) (ev := ev) (hi := hi) (lo := lo) b_pt b_ih b_il hb_ip hb_pn hb_op b_pn b_so b_fa hb_fp b_st htp (by omega) hsi hu4 hnb hns hnt (by rw [er]; exact eq0) (by rw [er]; exact eport) (by rw [er]; exact efar) (by rw [er]; exact efpt) (by rw [er]; exact eev) (by rw [er]; exact ehi) (by rw [er]; exact elo) (by rw [er]; exact hz0) hb9 hfb (by rw [hfj]; exact hj9) hmay hsa9 hid2 hga) (by decide) (fun w hw => ?_)) (by rw [e20]))
        rw [e20]
        exact J.mk (Nat.zero_le _) (by omega) (by omega) hsi hu4 (by omega) hid9.1 hid9.2 hdz (hJT.add (by omega) hfl hfpl (fst_le _ _) (life_ge _ _) (hlife _)) (fun i hi => absurd hi (Nat.not_lt_zero _)) (fun i hi => by rw [hw.2]; exact (four_eq (by omega) hid1 hq (hft9 _ hw.1) i hi).symm) hdr
      · refine PAIR.w (c_X11_insidea htp hos hsi hu4 hDY b_pt b_ih b_il hb_ip hb_pn hb_op b_fa hb_fp b_st hb_en hnt eq0 eport efar efpt eev ehi elo hz0 b_pn hb9 hfb (by rw [hfj]; exact hj9) hmay) (by decide) (fun dz hdz => OPX.mw (c_X12_insidea (q := q) (port := port) (far := far) (fpt := fpt) (ev := ev) (hi := hi) (lo := lo) b_pt b_ih b_il hb_ip hb_pn hb_op b_pn b_so b_fa hb_fp b_st htp (by omega) hsi hu4 hnb hns hnt (by rw [er]; exact eq0) (by rw [er]; exact eport) (by rw [er]; exact efar) (by rw [er]; exact efpt) (by rw [er]; exact eev) (by rw [er]; exact ehi) (by rw [er]; exact elo) (by rw [er]; exact hz0) hb9 hfb (by rw [hfj]; exact hj9) hmay) (by decide) (fun w hw => ?_))
        exact J.mk (Nat.zero_le _) hos (by omega) hsi hu4 (by omega) hid1 hid2 hdz hJT (fun i hi => absurd hi (Nat.not_lt_zero _)) hfo (drop15 hdr)
  · by_cases hno : nb < 64 ∧ ((q ≠ 6 ∨ ev = 2) ∧ ns < 128)
    · have hbu : tg_best ih il pn nb u hi lo < u := best_u b_pu hu0
      have hpo := port_lt pt pn op nb q (tg_best ih il pn nb u hi lo) port
      obtain ⟨sa9, hsa9, hga⟩ := nI_ofx (g (tg_best ih il pn nb u hi lo))
      refine PAIR.ex (c_X11_inside3 htp hos hsi hu4 hDY b_pt b_ih b_il hb_ip hb_pn hb_op b_fa hb_fp b_st hb_en hnt eq0 eport efar efpt eev ehi elo hz0 b_pn (by rw [hfb]; exact hb9) hno.2 hno.1 hsa9 hid2 hbu hga (by omega)) (by decide) (fun dz hdz => OPX.cr (OPX.mw (c_X12_inside3 (q := q) (port := port) (far := far) (fpt := fpt) (ev := ev) (hi := hi) (lo := lo) b_pt b_ih b_il hb_ip hb_pn hb_op b_pn b_so b_fa hb_fp b_st htp (by omega) hsi hu4 hnb hns hnt (by rw [er]; exact eq0) (by rw [er]; exact eport) (by rw [er]; exact efar) (by rw [er]; exact efpt) (by rw [er]; exact eev) (by rw [er]; exact ehi) (by rw [er]; exact elo) (by rw [er]; exact hz0) (by rw [hfb]; exact hb9) hno.2 hno.1 hsa9 hid2 hga (by omega) (by omega)) (by decide) (fun w hw => ?_)) (by rw [e20]))
      rw [e20]
      exact J.mk (Nat.zero_le _) (by omega) (by omega) hsi hu4 (by omega) hid9.1 hid9.2 hdz (hJT.add2 hno.1 hu4 (by omega) hhl hll hpl hbu hpo hfl hfpl (fst_le _ _) (life_ge _ _) (hlife _)) (fun i hi => absurd hi (Nat.not_lt_zero _)) (fun i hi => by rw [hw.2]; exact (four_eq (by omega) hid1 hq (hft9 _ hw.1) i hi).symm) hdr
    · have hno9 : 64 ≤ nb ∨ ¬ ((q ≠ 6 ∨ ev = 2) ∧ ns < 128) := by
        by_cases h : nb < 64
        · exact Or.inr (fun h2 => hno ⟨h, h2⟩)
        · exact Or.inl (by omega)
      refine PAIR.w (c_X11_insideb htp hos hsi hu4 hDY b_pt b_ih b_il hb_ip hb_pn hb_op b_fa hb_fp b_st hb_en hnt eq0 eport efar efpt eev ehi elo hz0 b_pn (by rw [hfb]; exact hb9) hno9) (by decide) (fun dz hdz => OPX.mw (c_X12_insideb (q := q) (port := port) (far := far) (fpt := fpt) (ev := ev) (hi := hi) (lo := lo) b_pt b_ih b_il hb_ip hb_pn hb_op b_pn b_so b_fa hb_fp b_st htp (by omega) hsi hu4 hnb hns hnt (by rw [er]; exact eq0) (by rw [er]; exact eport) (by rw [er]; exact efar) (by rw [er]; exact efpt) (by rw [er]; exact eev) (by rw [er]; exact ehi) (by rw [er]; exact elo) (by rw [er]; exact hz0) (by rw [hfb]; exact hb9) hno9) (by decide) (fun w hw => ?_))
      exact J.mk (Nat.zero_le _) hos (by omega) hsi hu4 (by omega) hid1 hid2 hdz hJT (fun i hi => absurd hi (Nat.not_lt_zero _)) hfo (drop15 hdr)
