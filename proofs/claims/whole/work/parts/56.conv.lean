/-! CONTRACTS TURNED: a weaker end, another way to count the state, the world in another order -/
theorem Met.mono {l : Launch} {y : MethodName} {ws : List Cond} {rm : Room} {Pc Pc2 : Array Value → State → Prop} {Qc Qc2 : Array Value → State → Outcome → State → Prop} {mc ms : Nat} {fr fr2 : Addr → Prop} (h : Met l y ws rm Pc Qc mc ms fr) (hp : ∀ a s, Pc2 a s → Pc a s) (hq : ∀ a s o t, Qc a s o t → Qc2 a s o t) (hf : ∀ q, fr q → fr2 q) : Met l y ws rm Pc2 Qc2 mc ms fr2 := by
  intro p e h1 h2 h3 s m args below h4 h5 h6 h7
  obtain ⟨n, o, g1, g2, g3, g4, L, g5, g6⟩ := h p e h1 h2 h3 s m args below h4 h5 (hp _ _ h6) h7
  exact ⟨n, o, g1, g2, g3, hq _ _ _ _ g4, L, g5, fun q hq => hf _ (g6 q hq)⟩
section CV
variable {S1 S2 : Type} {l : Launch} {y : MethodName} {bytes : ByteArray} {maxL : Nat} {ret : Option FieldType} {f mc ms n : Nat} {av : List Value} {D : va_G} {cy : Nat → ClassId} {e0 : Nat × Nat} {ws ws2 : va_W} {r1 : S1 → Option Value} {ph1 : S1 → Prop} {wf1 : S1 → va_W} {r2 : S2 → Option Value} {ph2 : S2 → Prop} {wf2 : S2 → va_W}
theorem WRX.map (h : WRX l y bytes maxL ret f mc ms n av D cy e0 ws r1 ph1 wf1) (g : ∀ u, ph1 u → ∃ v : S2, r2 v = r1 u ∧ ph2 v ∧ wf2 v = wf1 u) : WRX l y bytes maxL ret f mc ms n av D cy e0 ws r2 ph2 wf2 := fun sz =>
  (h sz).mono (fun _ _ q => q) (fun _ _ _ _ q => by
    obtain ⟨⟨u, a1, a2, a3, a4⟩, a5⟩ := q
    obtain ⟨v, b1, b2, b3⟩ := g u a2
    exact ⟨⟨v, by rw [b1]; exact a1, b2, by rw [b3]; exact a3, by rw [b3]; exact a4⟩, a5⟩) (fun _ q => q)
theorem WR.map (h : WR l y bytes maxL ret f mc ms n av D cy ws r1 ph1 wf1) (g : ∀ u, ph1 u → ∃ v : S2, r2 v = r1 u ∧ ph2 v ∧ wf2 v = wf1 u) : WR l y bytes maxL ret f mc ms n av D cy ws r2 ph2 wf2 := fun sz =>
  (h sz).mono (fun _ _ q => q) (fun _ _ _ _ q => by
    obtain ⟨⟨u, a1, a2, a3, a4⟩, a5⟩ := q
    obtain ⟨v, b1, b2, b3⟩ := g u a2
    exact ⟨⟨v, by rw [b1]; exact a1, b2, by rw [b3]; exact a3, by rw [b3]; exact a4⟩, a5⟩) (fun _ q => q)
theorem WR.toX (h : WR l y bytes maxL ret f mc ms n av D cy ws r1 ph1 wf1) : WRX l y bytes maxL ret f mc ms n av D cy e0 ws r1 ph1 wf1 := fun sz =>
  (h sz).mono (fun _ _ q => ⟨q.1, q.2.1, q.2.2.1, q.2.2.2.1, q.2.2.2.2.1⟩) (fun _ _ _ _ q => q) (fun _ q => q)
/-- the same cells in another order -/
def PM (ws ws2 : va_W) : Prop := (∀ x, x ∈ ws ↔ x ∈ ws2) ∧ ∀ A, va_D A ws ↔ va_D A ws2
theorem PM.P (h : PM ws ws2) {H : Heap} (hP : va_P D vwCl ws H) : va_P D vwCl ws2 H := fun k q hk => by
  obtain ⟨j, hj⟩ := List.getElem?_of_mem ((h.1 q).mpr (List.mem_of_getElem? hk))
  exact hP j q hj
theorem PM.A (h : PM ws ws2) (sz : Nat) : va_A ws sz = va_A ws2 sz := by
  funext q
  apply propext
  constructor
  · rintro (⟨k, e, hk⟩ | h9)
    · obtain ⟨j, hj⟩ := List.getElem?_of_mem ((h.1 _).mp (List.mem_of_getElem? hk))
      exact Or.inl ⟨j, e, hj⟩
    · exact Or.inr h9
  · rintro (⟨k, e, hk⟩ | h9)
    · obtain ⟨j, hj⟩ := List.getElem?_of_mem ((h.1 _).mpr (List.mem_of_getElem? hk))
      exact Or.inl ⟨j, e, hj⟩
    · exact Or.inr h9
theorem PM.sy (h : PM ws ws2) : PM ws2 ws := ⟨fun x => (h.1 x).symm, fun A => (h.2 A).symm⟩
theorem WR.conv (h : WR l y bytes maxL ret f mc ms n av D cy ws r1 ph1 wf1) (hp : PM ws ws2) (g : ∀ u, ph1 u → ∃ v : S2, r2 v = r1 u ∧ ph2 v ∧ PM (wf1 u) (wf2 v)) : WR l y bytes maxL ret f mc ms n av D cy ws2 r2 ph2 wf2 := fun sz => by
  rw [← hp.A sz]
  exact (h sz).mono (fun _ _ q => ⟨q.1, q.2.1, hp.sy.P q.2.2.1, q.2.2.2.1, (hp.2 _).mpr q.2.2.2.2⟩) (fun _ _ _ _ q => by
    obtain ⟨⟨u, a1, a2, a3, a4⟩, a5⟩ := q
    obtain ⟨v, b1, b2, b3⟩ := g u a2
    exact ⟨⟨v, by rw [b1]; exact a1, b2, b3.P a3, (b3.2 _).mp a4⟩, a5⟩) (fun _ q => q)
end CV
theorem va_D_swap {A : Nat → Prop} {a b c : va_W} (h : va_D A (a ++ (b ++ c))) : va_D A ((b ++ a) ++ c) := by
  have key : ∀ k q, ((b ++ a) ++ c)[k]? = some q → (a ++ (b ++ c))[if k < b.length then a.length + k else if k < b.length + a.length then k - b.length else k]? = some q := by
    intro k q hk
    by_cases h1 : k < b.length
    · rw [if_pos h1, List.getElem?_append_right (by omega), show a.length + k - a.length = k by omega, List.getElem?_append_left h1]
      rw [List.getElem?_append_left (by rw [List.length_append]; omega), List.getElem?_append_left h1] at hk
      exact hk
    · rw [if_neg h1]
      by_cases h2 : k < b.length + a.length
      · rw [if_pos h2, List.getElem?_append_left (by omega)]
        rw [List.getElem?_append_left (by rw [List.length_append]; omega), List.getElem?_append_right (by omega)] at hk
        exact hk
      · rw [if_neg h2, List.getElem?_append_right (by omega), List.getElem?_append_right (by omega), show k - a.length - b.length = k - (b ++ a).length by rw [List.length_append]; omega]
        rw [List.getElem?_append_right (by rw [List.length_append]; omega)] at hk
        exact hk
  refine ⟨fun i j p q hi hj he => ?_, fun k q hk => h.2 _ q (key k q hk)⟩
  have h1 := h.1 _ _ p q (key i p hi) (key j q hj) he
  have hi2 := lst_lt hi
  have hj2 := lst_lt hj
  split at h1 <;> split at h1 <;> (repeat' split at h1) <;> omega
theorem va_D_swap2 {A : Nat → Prop} {a b c : va_W} (h : va_D A ((b ++ a) ++ c)) : va_D A (a ++ (b ++ c)) := by
  rw [List.append_assoc] at h
  have := va_D_swap h
  rw [List.append_assoc] at this
  exact this
theorem PM_swap {a b c : va_W} : PM (a ++ (b ++ c)) ((b ++ a) ++ c) := by
  refine ⟨fun x => ?_, fun A => ⟨va_D_swap, va_D_swap2⟩⟩
  simp only [List.mem_append]
  constructor
  · rintro (h | h | h)
    · exact Or.inl (Or.inr h)
    · exact Or.inl (Or.inl h)
    · exact Or.inr h
  · rintro ((h | h) | h)
    · exact Or.inr (Or.inl h)
    · exact Or.inl h
    · exact Or.inr (Or.inr h)
