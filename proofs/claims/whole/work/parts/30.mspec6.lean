theorem few_step {w : Nat → Nat} {k : Nat} (h : 0 < k) : tg_few w k = if w k < w (tg_few w (k - 1)) then k else tg_few w (k - 1) := by
  obtain ⟨j, rfl⟩ : ∃ j, k = j + 1 := ⟨k - 1, by omega⟩
  rfl
theorem few_inv {w : Nat → Nat} {k best few t : Nat} (h : (k = 0 ∧ best = 0 ∧ few = 0) ∨ (0 < k ∧ best = tg_few w (k - 1) ∧ few = w best)) (ht : t = w k) : (k = 0 ∨ t < few → (0 < k + 1 ∧ k = tg_few w (k + 1 - 1) ∧ t = w k)) ∧ (k ≠ 0 → few ≤ t → (0 < k + 1 ∧ best = tg_few w (k + 1 - 1) ∧ few = w best)) := by
  rw [Nat.add_sub_cancel]
  refine ⟨fun hc => ⟨by omega, ?_, ht⟩, fun h0 hc => ⟨by omega, ?_, ?_⟩⟩
  · rcases h with ⟨rfl, -, -⟩ | ⟨h1, h2, h3⟩
    · rfl
    · rw [few_step h1, if_pos (by rw [← h2, ← h3, ← ht]; omega)]
  · rcases h with ⟨h1, -, -⟩ | ⟨h1, h2, h3⟩
    · exact absurd h1 h0
    · rw [few_step h1, if_neg (by rw [← h2, ← h3, ← ht]; omega), h2]
  · rcases h with ⟨h1, -, -⟩ | ⟨h1, h2, h3⟩
    · exact absurd h1 h0
    · exact h3
/-- the pool number for a new binding of that inner address -/
def tg_best (ih il pn : Nat → Nat) (nb u hi lo : Nat) : Nat := if tg_first (fun k => decide (ih k = hi ∧ il k = lo)) nb < nb then pn (tg_first (fun k => decide (ih k = hi ∧ il k = lo)) nb) else tg_few (fun z => tg_cnt (fun k => decide (pn k = z)) nb) (u - 1)
theorem tb_out {x : Int32} (n : Nat) (hn : n < 2 ^ 30) (h : ∀ j, j ≤ n → ¬ x = nI j) : x.toInt < 0 ∨ (n : Int) < x.toInt := by
  by_cases h1 : x.toInt < 0
  · exact Or.inl h1
  · by_cases h2 : (n : Int) < x.toInt
    · exact Or.inr h2
    · exfalso
      refine h x.toInt.toNat (by omega) ?_
      apply Int32.toInt_inj.mp
      rw [nI_toInt (by omega)]
      omega
section NV7
variable {p : Program} {l : Launch} {e : Env} {R : Room} {s : State} {m : MethodId} {args : Array Value} {below : List Frame} {meth : Method} {c : Code} {H : Heap} {locs : List Loc} {cells slots : Nat} {Q : State → Prop}
variable {cc : ByteArray} {pc : Nat} {ls : Array Slot} {rest : List Value} {a b : Nat}
theorem nv_lmul (hx : p.tables.exec = Jvm.exec) (hb : c.code = cc) (hdg : decode cc pc = .ok (.lmul, 1)) (kk : W p l e R s m args below meth c H locs cells slots Q (F0 m (pc + 1) ls (.long (lN (a * b)) :: rest))) : W p l e R s m args below meth c H locs cells slots Q (F0 m pc ls (.long (lN b) :: .long (lN a) :: rest)) :=
  lv_lmul hx hb hdg (by rw [lN_mul]; exact kk)
end NV7
theorem tg_nb_lt (f : Nat → UInt8) (n i : Nat) : ∀ j, j ≤ 4 → tg_nb (tg_rd f n) i j < 2 ^ 32 := by
  have h0 := tg_rd_lt f n (i + 0)
  have h1 := tg_rd_lt f n (i + 1)
  have h2 := tg_rd_lt f n (i + 2)
  have h3 := tg_rd_lt f n (i + 3)
  intro j hj
  rcases (show j = 0 ∨ j = 1 ∨ j = 2 ∨ j = 3 ∨ j = 4 by omega) with rfl | rfl | rfl | rfl | rfl <;> simp only [tg_nb] <;> omega
