theorem e0_out {e0 : Nat × Nat} {A : Nat → Prop} {s : State} {ws : va_W} (hE : EX e0 A s) (hD : va_D A ws) : ∀ q ∈ ws, q.1 ≠ e0.1 := fun q hq h9 => by
  obtain ⟨k, hk⟩ := List.getElem?_of_mem hq
  exact hE.2.2.out (h9 ▸ hD.2 k q hk)
theorem e0_outr {e0 : Nat × Nat} {A : Nat → Prop} {s : State} {pre dy : va_W} (hE : EX e0 A s) (hD : va_D A (pre ++ dy)) : ∀ q ∈ dy, q.1 ≠ e0.1 := fun q hq => e0_out hE hD q (List.mem_append_right _ hq)
theorem TB1.fresh {cy : Nat → ClassId} {ws : va_W} {e0 eb nb : Nat} {ba pt ih il ip pn op : Nat → Nat} (h : TB1 cy ws e0 eb nb ba pt ih il ip pn op) {o : Nat} (ho : ∀ x ∈ ws, x.1 ≠ o) : ∀ i, i < nb → ba i ≠ o := fun i hi => by
  obtain ⟨k, hk⟩ := h.at hi
  exact ho _ (List.mem_of_getElem? hk)
theorem TS1.fresh {cy : Nat → ClassId} {ws : va_W} {e0 es ns nb : Nat} {ba sa so fa fp st en : Nat → Nat} (h : TS1 cy ws e0 es ns nb ba sa so fa fp st en) {o : Nat} (ho : ∀ x ∈ ws, x.1 ≠ o) : ∀ i, i < ns → sa i ≠ o := fun i hi => by
  obtain ⟨k, hk⟩ := h.at hi
  exact ho _ (List.mem_of_getElem? hk)
/-- a place of the whole world at which an entry of the tail stands is that of the tail -/
theorem dy_place {A : Nat → Prop} {pre dy : va_W} (hD : va_D A (pre ++ dy)) {k k2 : Nat} {p q : Nat × va_E} (h : (pre ++ dy)[k]? = some p) (h2 : dy[k2]? = some q) (e : p.1 = q.1) : k = pre.length + k2 := hD.1 k _ p q h (app_r h2) e
theorem va_up_if {f : Nat → Nat} {j s : Nat} {c : Prop} [Decidable c] : va_up f j (if c then f j else s) = if c then f else va_up f j s := by
  by_cases h : c
  · simp only [if_pos h]; exact va_up_id
  · simp only [if_neg h]
