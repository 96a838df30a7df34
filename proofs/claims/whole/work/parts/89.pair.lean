/-! THE TWO SIDES SIDE BY SIDE -/
theorem RO.toX {l : Launch} {y : MethodName} {bytes : ByteArray} {maxL : Nat} {ret : Option FieldType} {f n : Nat} {av : List Value} {D : va_G} {cy : Nat → ClassId} {e0 : Nat × Nat} {ws : va_W} {r : Value} (h : RO l y bytes maxL ret f n av D cy ws r) : WRX (S := va_W) l y bytes maxL ret f 0 0 n av D cy e0 ws (fun _ => some r) (fun w => w = ws) (fun w => w) := by
  intro sz p e h1 h2 h3 s m args below h4 h5 h6 h7
  obtain ⟨k, o, g1, g2, g3, ⟨g4, g4b⟩, L, g5, g6⟩ := h p e h1 h2 h3 s m args below h4 h5 ⟨h6.1, h6.2.2.1, h6.2.2.2.1⟩ h7
  refine ⟨k, o, g1, g2, g3, ⟨⟨ws, g4, rfl, by rw [g4b]; exact h6.2.2.1, h6.2.2.2.2.1.1, fun j q hj => Or.inl ⟨j, q.2, hj⟩⟩, ?_⟩, L, g5, fun q hq => (g6 q hq).elim⟩
  rw [va_F, g4b]
  exact ⟨Nat.le_refl _, fun _ _ _ => rfl⟩
/-- a call of the law: what it answers, and what then holds of the world -/
def OPX (l : Launch) (y : MethodName) (bytes : ByteArray) (maxL : Nat) (ret : Option FieldType) (av : List Value) (D : va_G) (cy : Nat → ClassId) (e0 : Nat × Nat) (ws : va_W) (r : Value) (Post : va_W → Prop) : Prop :=
  ∃ f mc ms n : Nat, f ≤ 16 ∧ mc ≤ 5 ∧ ms ≤ 617 ∧ n ≤ 400 ∧ WRX (S := va_W) l y bytes maxL ret f mc ms n av D cy e0 ws (fun _ => some r) Post (fun w => w)
section OP
variable {l : Launch} {y : MethodName} {bytes : ByteArray} {maxL : Nat} {ret : Option FieldType} {f mc ms n : Nat} {av : List Value} {D : va_G} {cy : Nat → ClassId} {e0 : Nat × Nat} {ws ws2 : va_W} {r : Value} {Post : va_W → Prop} {S : Type} {ph : S → Prop} {wf : S → va_W}
theorem OPX.x (h : WRX l y bytes maxL ret f mc ms n av D cy e0 ws (fun _ : S => some r) ph wf) (hf : f ≤ 16 ∧ mc ≤ 5 ∧ ms ≤ 617 ∧ n ≤ 400) (g : ∀ u, ph u → Post (wf u)) : OPX l y bytes maxL ret av D cy e0 ws r Post :=
  ⟨f, mc, ms, n, hf.1, hf.2.1, hf.2.2.1, hf.2.2.2, h.map (fun u hu => ⟨wf u, rfl, g u hu, rfl⟩)⟩
theorem OPX.w (h : WR l y bytes maxL ret f mc ms n av D cy ws (fun _ : S => some r) ph wf) (hf : f ≤ 16 ∧ mc ≤ 5 ∧ ms ≤ 617 ∧ n ≤ 400) (g : ∀ u, ph u → Post (wf u)) : OPX l y bytes maxL ret av D cy e0 ws r Post := OPX.x h.toX hf g
theorem OPX.r (h : RO l y bytes maxL ret f n av D cy ws r) (hf : f ≤ 16 ∧ n ≤ 400) (g : Post ws) : OPX l y bytes maxL ret av D cy e0 ws r Post :=
  OPX.x h.toX ⟨hf.1, by omega, by omega, hf.2⟩ (fun u hu => by rw [hu]; exact g)
/-- the same over the cells in another order -/
theorem OPX.wp (h : WR l y bytes maxL ret f mc ms n av D cy ws (fun _ : S => some r) ph wf) (hp : PM ws ws2) (hf : f ≤ 16 ∧ mc ≤ 5 ∧ ms ≤ 617 ∧ n ≤ 400) (g : ∀ u, ph u → ∃ w, Post w ∧ PM (wf u) w) : OPX l y bytes maxL ret av D cy e0 ws2 r Post :=
  OPX.w (S := va_W) (ph := Post) (wf := fun w => w) (WR.conv h hp (fun u hu => by obtain ⟨w, h1, h2⟩ := g u hu; exact ⟨w, rfl, h1, h2⟩)) hf (fun _ q => q)
theorem OPX.rp (h : RO l y bytes maxL ret f n av D cy ws r) (hp : PM ws ws2) (hf : f ≤ 16 ∧ n ≤ 400) (g : Post ws2) : OPX l y bytes maxL ret av D cy e0 ws2 r Post := OPX.r (h.conv hp) hf g
end OP
/-- both calls of a step: the class's, then the model's, with the same answer -/
def PAIR (l : Launch) (y : MethodName) (bytes : ByteArray) (maxL : Nat) (y2 : MethodName) (bytes2 : ByteArray) (maxL2 : Nat) (ret : Option FieldType) (x mo : Nat) (av : List Value) (D : va_G) (cy : Nat → ClassId) (e0 : Nat × Nat) (ws : va_W) (Post : va_W → Prop) : Prop :=
  ∃ (r : Value) (P1 : va_W → Prop), OPX l y bytes maxL ret (.ref x :: av) D cy e0 ws r P1 ∧ ∀ w, P1 w → OPX l y2 bytes2 maxL2 ret (.ref mo :: av) D cy e0 w r Post
def JT (nb ns u : Nat) (pt ih il ip pn op so fa fp st en : Nat → Nat) : Prop := (∀ i, pt i < 2 ^ 31) ∧ (∀ i, ih i < 2 ^ 64) ∧ (∀ i, il i < 2 ^ 64) ∧ (∀ i, ip i < 65536) ∧ (∀ i, pn i < 4) ∧ (∀ i, op i < 65536) ∧ (∀ i, so i < 2 ^ 31) ∧ (∀ i, fa i < 2 ^ 32) ∧ (∀ i, fp i < 65536) ∧ (∀ i, st i ≤ 7) ∧ (∀ i, en i < 2 ^ 31) ∧ (∀ b, b < nb → pn b < u) ∧ ∀ b, b < nb → ∃ j, j < ns ∧ so j = b
/-- what holds between two steps of the law, after at most N of them -/
def J (cy : Nat → ClassId) (ad : Nat → Nat) (mo : Nat) (am : Nat → Nat) (e0 : Nat × Nat) (N : Nat) (ws : va_W) : Prop :=
  ∃ (eb es tp os sz bits F G u nb ns T M id : Nat) (mb mz : Int32) (ft fo f2 o2 fi : Nat → UInt8) (g : Nat → Int32) (dq ba sa pt ih il ip pn op so fa fp st en dr : Nat → Nat) (dy : va_W),
    ws = (cW cy ad eb es mb mz tp os bits F G u nb ns T M id ft fo g dq ++ mW cy mo am tp os sz bits F G u nb ns T M id f2 o2 fi g pt ih il ip pn op so fa fp st en dr) ++ dy ∧ tp ≤ 1600 ∧ os ≤ 1620 ∧ sz ≤ 1600 ∧ SI bits F G ∧ u ≤ 4 ∧ T ≤ 10000 * N ∧ 1 ≤ id ∧ id < 65536 ∧ DY cy e0.1 dy eb es nb ns ba sa pt ih il ip pn op so fa fp st en ∧ JT nb ns u pt ih il ip pn op so fa fp st en ∧ EQ tp ft f2 ∧ EQ os fo o2 ∧ ∀ k, k < 6 → dq k = dr (k + 10)
theorem J.mk {cy : Nat → ClassId} {ad : Nat → Nat} {mo : Nat} {am : Nat → Nat} {e0 : Nat × Nat} {N : Nat} {eb es tp os sz bits F G u nb ns T M id : Nat} {mb mz : Int32} {ft fo f2 o2 fi : Nat → UInt8} {g : Nat → Int32} {dq ba sa pt ih il ip pn op so fa fp st en dr : Nat → Nat} {dy : va_W} (h1 : tp ≤ 1600) (h2 : os ≤ 1620) (h3 : sz ≤ 1600) (h4 : SI bits F G) (h5 : u ≤ 4) (h6 : T ≤ 10000 * N) (h7 : 1 ≤ id) (h8 : id < 65536) (h9 : DY cy e0.1 dy eb es nb ns ba sa pt ih il ip pn op so fa fp st en) (h10 : JT nb ns u pt ih il ip pn op so fa fp st en) (h11 : EQ tp ft f2) (h12 : EQ os fo o2) (h13 : ∀ k, k < 6 → dq k = dr (k + 10)) : J cy ad mo am e0 N ((cW cy ad eb es mb mz tp os bits F G u nb ns T M id ft fo g dq ++ mW cy mo am tp os sz bits F G u nb ns T M id f2 o2 fi g pt ih il ip pn op so fa fp st en dr) ++ dy) :=
  ⟨eb, es, tp, os, sz, bits, F, G, u, nb, ns, T, M, id, mb, mz, ft, fo, f2, o2, fi, g, dq, ba, sa, pt, ih, il, ip, pn, op, so, fa, fp, st, en, dr, dy, rfl, h1, h2, h3, h4, h5, h6, h7, h8, h9, h10, h11, h12, h13⟩
theorem J.up {cy : Nat → ClassId} {ad : Nat → Nat} {mo : Nat} {am : Nat → Nat} {e0 : Nat × Nat} {N : Nat} {ws : va_W} (h : J cy ad mo am e0 N ws) : J cy ad mo am e0 (N + 1) ws := by
  obtain ⟨eb, es, tp, os, sz, bits, F, G, u, nb, ns, T, M, id, mb, mz, ft, fo, f2, o2, fi, g, dq, ba, sa, pt, ih, il, ip, pn, op, so, fa, fp, st, en, dr, dy, rfl, h1, h2, h3, h4, h5, h6, h⟩ := h
  exact ⟨eb, es, tp, os, sz, bits, F, G, u, nb, ns, T, M, id, mb, mz, ft, fo, f2, o2, fi, g, dq, ba, sa, pt, ih, il, ip, pn, op, so, fa, fp, st, en, dr, dy, rfl, h1, h2, h3, h4, h5, by omega, h⟩
theorem i32_is (x : Int32) : x < 0 ∨ ∃ a : Nat, a < 2 ^ 31 ∧ x = nI a := by
  sorry
theorem i32_nat (x : Int32) : ∃ a : Nat, a < 2 ^ 32 ∧ x = nI a := by
  sorry
