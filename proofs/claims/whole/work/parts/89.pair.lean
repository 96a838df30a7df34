/-! THE TWO SIDES SIDE BY SIDE -/
theorem RO.toX {l : Launch} {y : MethodName} {bytes : ByteArray} {maxL : Nat} {ret : Option FieldType} {f n : Nat} {av : List Value} {D : va_G} {cy : Nat → ClassId} {e0 : Nat × Nat} {ws : va_W} {r : Value} (h : RO l y bytes maxL ret f n av D cy ws r) : WRX (S := va_W) l y bytes maxL ret f 0 0 n av D cy e0 ws (fun _ => some r) (fun w => w = ws) (fun w => w) := by
  intro sz p e h1 h2 h3 s m args below h4 h5 h6 h7
  obtain ⟨k, o, g1, g2, g3, ⟨g4, g4b⟩, L, g5, g6⟩ := h p e h1 h2 h3 s m args below h4 h5 ⟨h6.1, h6.2.2.1, h6.2.2.2.1⟩ h7
  refine ⟨k, o, g1, g2, g3, ⟨⟨ws, g4, rfl, by rw [g4b]; exact h6.2.2.1, h6.2.2.2.2.1.1, fun j q hj => Or.inl ⟨j, q.2, hj⟩⟩, ?_⟩, L, g5, fun q hq => (g6 q hq).elim⟩
  rw [va_F, g4b]
  exact ⟨Nat.le_refl _, fun _ _ _ => rfl⟩
/-- a call of the law: what it answers, and what then holds of the world -/
def OPX (l : Launch) (y : MethodName) (bytes : ByteArray) (maxL : Nat) (ret : Option FieldType) (av : List Value) (D : va_G) (cy : Nat → ClassId) (e0 : Nat × Nat) (ws : va_W) (r : Value) (Post : va_W → Prop) : Prop :=
  ∃ f mc ms n : Nat, f ≤ 12 ∧ mc ≤ 5 ∧ ms ≤ 617 ∧ n ≤ 400 ∧ WRX (S := va_W) l y bytes maxL ret f mc ms n av D cy e0 ws (fun _ => some r) Post (fun w => w)
section OP
variable {l : Launch} {y : MethodName} {bytes : ByteArray} {maxL : Nat} {ret : Option FieldType} {f mc ms n : Nat} {av : List Value} {D : va_G} {cy : Nat → ClassId} {e0 : Nat × Nat} {ws ws2 : va_W} {r : Value} {Post : va_W → Prop} {S : Type} {ph : S → Prop} {wf : S → va_W}
theorem OPX.ex (h : WRX l y bytes maxL ret f mc ms n av D cy e0 ws (fun _ : S => some r) ph wf) (hf : f ≤ 12 ∧ mc ≤ 5 ∧ ms ≤ 617 ∧ n ≤ 400) (g : ∀ u, ph u → Post (wf u)) : OPX l y bytes maxL ret av D cy e0 ws r Post :=
  ⟨f, mc, ms, n, hf.1, hf.2.1, hf.2.2.1, hf.2.2.2, h.map (fun u hu => ⟨wf u, rfl, g u hu, rfl⟩)⟩
theorem OPX.w (h : WR l y bytes maxL ret f mc ms n av D cy ws (fun _ : S => some r) ph wf) (hf : f ≤ 12 ∧ mc ≤ 5 ∧ ms ≤ 617 ∧ n ≤ 400) (g : ∀ u, ph u → Post (wf u)) : OPX l y bytes maxL ret av D cy e0 ws r Post := OPX.ex h.toX hf g
theorem OPX.er (h : RO l y bytes maxL ret f n av D cy ws r) (hf : f ≤ 12 ∧ n ≤ 400) (g : Post ws) : OPX l y bytes maxL ret av D cy e0 ws r Post :=
  OPX.ex h.toX ⟨hf.1, by omega, by omega, hf.2⟩ (fun u hu => by rw [hu]; exact g)
/-- the same over the cells in another order -/
theorem OPX.wp (h : WR l y bytes maxL ret f mc ms n av D cy ws (fun _ : S => some r) ph wf) (hp : PM ws ws2) (hf : f ≤ 12 ∧ mc ≤ 5 ∧ ms ≤ 617 ∧ n ≤ 400) (g : ∀ u, ph u → ∃ w, Post w ∧ PM (wf u) w) : OPX l y bytes maxL ret av D cy e0 ws2 r Post :=
  OPX.w (S := va_W) (ph := Post) (wf := fun w => w) (WR.conv h hp (fun u hu => by obtain ⟨w, h1, h2⟩ := g u hu; exact ⟨w, rfl, h1, h2⟩)) hf (fun _ q => q)
theorem OPX.rp (h : RO l y bytes maxL ret f n av D cy ws r) (hp : PM ws ws2) (hf : f ≤ 12 ∧ n ≤ 400) (g : Post ws2) : OPX l y bytes maxL ret av D cy e0 ws2 r Post := OPX.er (h.conv hp) hf g
end OP
/-- both calls of a step: the class's, then the model's, with the same answer -/
def PAIR {V : Type} (kv : V → Value) (l : Launch) (y : MethodName) (bytes : ByteArray) (maxL : Nat) (y2 : MethodName) (bytes2 : ByteArray) (maxL2 : Nat) (ret : Option FieldType) (x mo : Nat) (av : List Value) (D : va_G) (cy : Nat → ClassId) (e0 : Nat × Nat) (ws : va_W) (Post : va_W → Prop) : Prop :=
  ∃ (v : V) (P1 : va_W → Prop), OPX l y bytes maxL ret (.ref x :: av) D cy e0 ws (kv v) P1 ∧ ∀ w, P1 w → OPX l y2 bytes2 maxL2 ret (.ref mo :: av) D cy e0 w (kv v) Post ∧ ∃ (k : Nat) (fs : List Value), w[k]? = some (mo, .inr (9, fs))
section PR
variable {l : Launch} {y y2 : MethodName} {bytes bytes2 : ByteArray} {maxL maxL2 : Nat} {ret : Option FieldType} {f mc ms n x mo : Nat} {av : List Value} {D : va_G} {cy : Nat → ClassId} {e0 : Nat × Nat} {ws a b c : va_W} {r r2 : Value} {Post : va_W → Prop} {V : Type} {kv : V → Value} {v : V} {S : Type} {ph : S → Prop} {wf : S → va_W}
theorem PAIR.ex (h : WRX l y bytes maxL ret f mc ms n (.ref x :: av) D cy e0 ws (fun _ : S => some (kv v)) ph wf) (hf : f ≤ 12 ∧ mc ≤ 5 ∧ ms ≤ 617 ∧ n ≤ 400) (k : ∀ u, ph u → OPX l y2 bytes2 maxL2 ret (.ref mo :: av) D cy e0 (wf u) (kv v) Post) (hm : ∀ u, ∃ (k : Nat) (fs : List Value), (wf u)[k]? = some (mo, .inr (9, fs)) := by exact fun _ => ⟨12, _, rfl⟩) : PAIR kv l y bytes maxL y2 bytes2 maxL2 ret x mo av D cy e0 ws Post :=
  ⟨v, fun w => ∃ u, ph u ∧ w = wf u, OPX.ex h hf (fun u hu => ⟨u, hu, rfl⟩), fun w hw => by
    obtain ⟨u, hu, e⟩ := hw
    rw [e]
    exact ⟨k u hu, hm u⟩⟩
theorem PAIR.w (h : WR l y bytes maxL ret f mc ms n (.ref x :: av) D cy ws (fun _ : S => some (kv v)) ph wf) (hf : f ≤ 12 ∧ mc ≤ 5 ∧ ms ≤ 617 ∧ n ≤ 400) (k : ∀ u, ph u → OPX l y2 bytes2 maxL2 ret (.ref mo :: av) D cy e0 (wf u) (kv v) Post) (hm : ∀ u, ∃ (k : Nat) (fs : List Value), (wf u)[k]? = some (mo, .inr (9, fs)) := by exact fun _ => ⟨12, _, rfl⟩) : PAIR kv l y bytes maxL y2 bytes2 maxL2 ret x mo av D cy e0 ws Post := PAIR.ex h.toX hf k hm
theorem PAIR.er (h : RO l y bytes maxL ret f n (.ref x :: av) D cy ws (kv v)) (hf : f ≤ 12 ∧ n ≤ 400) (k : OPX l y2 bytes2 maxL2 ret (.ref mo :: av) D cy e0 ws (kv v) Post) (hm : ∃ (k : Nat) (fs : List Value), ws[k]? = some (mo, .inr (9, fs)) := by exact ⟨12, _, rfl⟩) : PAIR kv l y bytes maxL y2 bytes2 maxL2 ret x mo av D cy e0 ws Post :=
  ⟨v, fun w => w = ws, OPX.er h hf rfl, fun w hw => by rw [hw]; exact ⟨k, hm⟩⟩
theorem OPX.mw (h : WR l y bytes maxL ret f mc ms n av D cy (a ++ (b ++ c)) (fun _ : S => some r) ph (fun u => wf u ++ (b ++ c))) (hf : f ≤ 12 ∧ mc ≤ 5 ∧ ms ≤ 617 ∧ n ≤ 400) (g : ∀ u, ph u → Post ((b ++ wf u) ++ c)) : OPX l y bytes maxL ret av D cy e0 ((b ++ a) ++ c) r Post := OPX.wp h PM_swap hf (fun u hu => ⟨_, g u hu, PM_swap⟩)
theorem OPX.mr (h : RO l y bytes maxL ret f n av D cy (a ++ (b ++ c)) r) (hf : f ≤ 12 ∧ n ≤ 400) (g : Post ((b ++ a) ++ c)) : OPX l y bytes maxL ret av D cy e0 ((b ++ a) ++ c) r Post := OPX.rp h PM_swap hf g
theorem OPX.cr (h : OPX l y bytes maxL ret av D cy e0 ws r Post) (e : r = r2) : OPX l y bytes maxL ret av D cy e0 ws r2 Post := e ▸ h
end PR
theorem SI_pre {n hi lo : Nat} (hh : hi < 2 ^ 64) (hl : lo < 2 ^ 64) (h : n = 32 ∨ n = 40 ∨ n = 48 ∨ n = 56 ∨ n = 64 ∨ n = 96) : SI n (tg_pf n hi) (tg_pg n lo) := by
  unfold SI tg_pf tg_pg
  rcases h with rfl | rfl | rfl | rfl | rfl | rfl <;> simp only [Nat.reduceSub, Nat.reducePow, Nat.reduceLT, Nat.reduceEqDiff, if_true, if_false, false_and, true_and, false_or, or_false, true_or, or_true, and_true] <;> omega
theorem put_q {f g : Nat → UInt8} {n a k x : Nat} (h : EQ n f g) : EQ n (tg_put f a k x) (tg_put g a k x) := fun i hi => put_c (fun _ => h i hi)
theorem EQ.mono {f g : Nat → UInt8} {n m : Nat} (h : EQ n f g) (hm : m ≤ n) : EQ m f g := fun i hi => h i (by omega)
theorem EQ.rd {f g : Nat → UInt8} {n : Nat} (h : EQ n f g) : tg_rd g n = tg_rd f n := (rd_cong h).symm
theorem feed_q {f g : Nat → UInt8} {t a b c d e : Nat} (h : EQ t f g) : EQ (t + 20) (tg_feed f t a b c d e) (tg_feed g t a b c d e) := by
  intro i hi
  unfold tg_feed
  exact put_c (fun h5 => put_c (fun h4 => put_c (fun h3 => put_c (fun h2 => put_c (fun h1 => h i (by omega))))))
theorem DY.cg {cy : Nat → ClassId} {e0 eb es nb ns : Nat} {dy : va_W} {ba sa pt ih il ip pn op so fa fp st en pt2 ih2 il2 ip2 pn2 op2 so2 fa2 fp2 st2 en2 : Nat → Nat} (h : DY cy e0 dy eb es nb ns ba sa pt ih il ip pn op so fa fp st en) (hb : ∀ i, i < nb → pt2 i = pt i ∧ ih2 i = ih i ∧ il2 i = il i ∧ ip2 i = ip i ∧ pn2 i = pn i ∧ op2 i = op i) (hs : ∀ j, j < ns → so2 j = so j ∧ fa2 j = fa j ∧ fp2 j = fp j ∧ st2 j = st j ∧ en2 j = en j) : DY cy e0 dy eb es nb ns ba sa pt2 ih2 il2 ip2 pn2 op2 so2 fa2 fp2 st2 en2 := by
  obtain ⟨⟨N, f, h1, h2, h3, h4⟩, ⟨N2, f2, g1, g2, g3, g4⟩, h5⟩ := h
  refine ⟨⟨N, f, h1, h2, fun i hi => ?_, h4⟩, ⟨N2, f2, g1, g2, fun j hj => ?_, g4⟩, h5⟩
  · obtain ⟨e1, e2, e3, e4, e5, e6⟩ := hb i hi
    rw [e1, e2, e3, e4, e5, e6]
    exact h3 i hi
  · obtain ⟨e1, e2, e3, e4, e5⟩ := hs j hj
    rw [e1, e2, e3, e4, e5]
    exact g3 j hj
def JT (nb ns u T : Nat) (pt ih il ip pn op so fa fp st en : Nat → Nat) : Prop := (∀ i, pt i < 2 ^ 31) ∧ (∀ i, ih i < 2 ^ 64) ∧ (∀ i, il i < 2 ^ 64) ∧ (∀ i, ip i < 65536) ∧ (∀ i, pn i < 4) ∧ (∀ i, op i < 65536) ∧ (∀ i, so i < 2 ^ 31) ∧ (∀ i, fa i < 2 ^ 32) ∧ (∀ i, fp i < 65536) ∧ (∀ i, st i ≤ 7) ∧ (∀ i, en i < 2 ^ 31) ∧ (∀ b, b < nb → pn b < u) ∧ (∀ b, b < nb → ∃ j, j < ns ∧ so j = b) ∧ ∀ j, j < ns → T < en j
/-- what holds between two steps of the law, after at most N of them -/
def J (cy : Nat → ClassId) (ad : Nat → Nat) (mo : Nat) (am : Nat → Nat) (e0 : Nat × Nat) (N : Nat) (ws : va_W) : Prop :=
  ∃ (eb es tp os sz bits F G u nb ns T M id : Nat) (mb mz : Int32) (ft fo f2 o2 fi : Nat → UInt8) (g : Nat → Int32) (dq ba sa pt ih il ip pn op so fa fp st en dr : Nat → Nat) (dy : va_W),
    ws = (cW cy ad eb es mb mz tp os bits F G u nb ns T M id ft fo g dq ++ mW cy mo am tp os sz bits F G u nb ns T M id f2 o2 fi g pt ih il ip pn op so fa fp st en dr) ++ dy ∧ tp ≤ 1600 ∧ os ≤ 1620 ∧ sz ≤ 1600 ∧ SI bits F G ∧ u ≤ 4 ∧ T ≤ 10000 * N ∧ 1 ≤ id ∧ id < 65536 ∧ DY cy e0.1 dy eb es nb ns ba sa pt ih il ip pn op so fa fp st en ∧ JT nb ns u T pt ih il ip pn op so fa fp st en ∧ EQ tp ft f2 ∧ EQ os fo o2 ∧ ∀ k, k < 6 → dq k = dr (k + 10)
theorem J.mk {cy : Nat → ClassId} {ad : Nat → Nat} {mo : Nat} {am : Nat → Nat} {e0 : Nat × Nat} {N : Nat} {eb es tp os sz bits F G u nb ns T M id : Nat} {mb mz : Int32} {ft fo f2 o2 fi : Nat → UInt8} {g : Nat → Int32} {dq ba sa pt ih il ip pn op so fa fp st en dr : Nat → Nat} {dy : va_W} (h1 : tp ≤ 1600) (h2 : os ≤ 1620) (h3 : sz ≤ 1600) (h4 : SI bits F G) (h5 : u ≤ 4) (h6 : T ≤ 10000 * N) (h7 : 1 ≤ id) (h8 : id < 65536) (h9 : DY cy e0.1 dy eb es nb ns ba sa pt ih il ip pn op so fa fp st en) (h10 : JT nb ns u T pt ih il ip pn op so fa fp st en) (h11 : EQ tp ft f2) (h12 : EQ os fo o2) (h13 : ∀ k, k < 6 → dq k = dr (k + 10)) : J cy ad mo am e0 N ((cW cy ad eb es mb mz tp os bits F G u nb ns T M id ft fo g dq ++ mW cy mo am tp os sz bits F G u nb ns T M id f2 o2 fi g pt ih il ip pn op so fa fp st en dr) ++ dy) :=
  ⟨eb, es, tp, os, sz, bits, F, G, u, nb, ns, T, M, id, mb, mz, ft, fo, f2, o2, fi, g, dq, ba, sa, pt, ih, il, ip, pn, op, so, fa, fp, st, en, dr, dy, rfl, h1, h2, h3, h4, h5, h6, h7, h8, h9, h10, h11, h12, h13⟩
theorem J.up {cy : Nat → ClassId} {ad : Nat → Nat} {mo : Nat} {am : Nat → Nat} {e0 : Nat × Nat} {N : Nat} {ws : va_W} (h : J cy ad mo am e0 N ws) : J cy ad mo am e0 (N + 1) ws := by
  obtain ⟨eb, es, tp, os, sz, bits, F, G, u, nb, ns, T, M, id, mb, mz, ft, fo, f2, o2, fi, g, dq, ba, sa, pt, ih, il, ip, pn, op, so, fa, fp, st, en, dr, dy, rfl, h1, h2, h3, h4, h5, h6, h⟩ := h
  exact ⟨eb, es, tp, os, sz, bits, F, G, u, nb, ns, T, M, id, mb, mz, ft, fo, f2, o2, fi, g, dq, ba, sa, pt, ih, il, ip, pn, op, so, fa, fp, st, en, dr, dy, rfl, h1, h2, h3, h4, h5, by omega, h⟩
theorem J.c0 {cy : Nat → ClassId} {ad : Nat → Nat} {mo : Nat} {am : Nat → Nat} {e0 : Nat × Nat} {N : Nat} {ws : va_W} (h : J cy ad mo am e0 N ws) : ∃ fs : List Value, ws[0]? = some (ad 0, .inr (8, fs)) := by
  obtain ⟨eb, es, tp, os, sz, bits, F, G, u, nb, ns, T, M, id, mb, mz, ft, fo, f2, o2, fi, g, dq, ba, sa, pt, ih, il, ip, pn, op, so, fa, fp, st, en, dr, dy, rfl, h⟩ := h
  exact ⟨_, rfl⟩
