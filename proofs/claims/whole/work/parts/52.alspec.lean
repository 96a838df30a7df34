/-! LISTS: a list object at place kl, its row of references at place ka -/
theorem kw_sf : Jvm.Cond.sameField "java/util/ArrayList" "java/util/AbstractList" "modCount" "I" ∈ lw_g := tg_1 (List.mem_of_getElem? (i := 105) (by decide +kernel)) rfl
abbrev aQ (cy : Nat → ClassId) (a N : Nat) (f : Nat → Option Nat) : Nat × va_E := (a, .inl (cy 3, N, .inr (.inr (.inr (.inr f)))))
abbrev aL (q : Nat) (mo : Int32) (ea n : Nat) : Nat × va_E := (q, .inr (0, [.int mo, .ref ea, .int (nI n)]))
section NVQ
variable {p : Program} {l : Launch} {e : Env} {R : Room} {s : State} {m : MethodId} {args : Array Value} {below : List Frame} {meth : Method} {c : Code} {H : Heap} {locs : List Loc} {cells slots : Nat} {Q : State → Prop}
variable {cc : ByteArray} {pc : Nat} {ls : Array Slot} {rest : List Value} {D : va_G} {cy : Nat → ClassId} {ws : va_W} {A : Nat → Prop} {H0 : Heap} {a : Nat}
theorem nv_qald {ar N : Nat} {f : Nat → Option Nat} (hx : p.tables.exec = Jvm.exec) (hb : c.code = cc) (hK : va_K D vwCl (TYS cy) s) (hP : va_P D vwCl ws H) (q0 : Nat) (ha : ws[q0]? = some (aQ cy ar N f)) (hk : a < N) (hN : N < 2 ^ 31) (hdg : decode cc pc = .ok (.aaload, 1))
    (kk : W p l e R s m args below meth c H locs cells slots Q (F0 m (pc + 1) ls (va_rf (f a) :: rest))) : W p l e R s m args below meth c H locs cells slots Q (F0 m pc ls (.int (nI a) :: .ref ar :: rest)) :=
  va_aldq hx hb hK hP q0 3 ha rfl (vp_in_nI hk hN) hdg (by rw [nI_clamp (Nat.lt_trans hk hN)]; exact kk)
theorem nv_qastN {ar N : Nat} {f : Nat → Option Nat} (hx : p.tables.exec = Jvm.exec) (hb : c.code = cc) (hK : va_K D vwCl (TYS cy) s) (hP : va_P D vwCl ws H) (hD : va_D A ws) (hS : va_S A H0 H locs) (q0 : Nat) (ha : ws[q0]? = some (aQ cy ar N f)) (hk : a < N) (hN : N < 2 ^ 31) (hdg : decode cc pc = .ok (.aastore, 1))
    (kk : ∀ (H1 : Heap) (locs1 : List Loc), va_P D vwCl (ws.set q0 (aQ cy ar N (va_up f a none))) H1 → va_D A (ws.set q0 (aQ cy ar N (va_up f a none))) → va_S A H0 H1 locs1 → W p l e R s m args below meth c H1 locs1 cells slots Q (F0 m (pc + 1) ls rest)) : W p l e R s m args below meth c H locs cells slots Q (F0 m pc ls (.null :: .int (nI a) :: .ref ar :: rest)) :=
  va_astqN hx hb hK hP hD hS q0 3 ha rfl (vp_in_nI hk hN) hdg (by rw [nI_clamp (Nat.lt_trans hk hN)]; exact kk)
/-- an object's class and that it may lie in a row -/
def OBJ (ws : va_W) (x : Nat) (s : State) : Prop := ∃ (k ci : Nat) (r : vw_C) (vs : List Value), ws[k]? = some (x, .inr (ci, vs)) ∧ vwCl[ci]? = some r ∧ va_Nw (.castable r.1 "java/lang/Object") s
theorem nv_qast {ar N x : Nat} {f : Nat → Option Nat} (hx : p.tables.exec = Jvm.exec) (hb : c.code = cc) (hK : va_K D vwCl (TYS cy) s) (hP : va_P D vwCl ws H) (hD : va_D A ws) (hS : va_S A H0 H locs) (q0 : Nat) (ha : ws[q0]? = some (aQ cy ar N f)) (ho : OBJ ws x s) (hk : a < N) (hN : N < 2 ^ 31) (hdg : decode cc pc = .ok (.aastore, 1))
    (kk : ∀ (H1 : Heap) (locs1 : List Loc), va_P D vwCl (ws.set q0 (aQ cy ar N (va_up f a (some x)))) H1 → va_D A (ws.set q0 (aQ cy ar N (va_up f a (some x)))) → va_S A H0 H1 locs1 → W p l e R s m args below meth c H1 locs1 cells slots Q (F0 m (pc + 1) ls rest)) : W p l e R s m args below meth c H locs cells slots Q (F0 m pc ls (.ref x :: .int (nI a) :: .ref ar :: rest)) := by
  obtain ⟨k, ci, r, vs, h1, h2, h3⟩ := ho
  exact va_astqO hx hb hK hP hD hS q0 3 k ci ha rfl h3 h1 h2 (vp_in_nI hk hN) hdg (by rw [nI_clamp (Nat.lt_trans hk hN)]; exact kk)
end NVQ
/-- two places of a world anew -/
def wL (ws : va_W) (kl ka : Nat) (x y : Nat × va_E) : va_W := (ws.set kl x).set ka y
section WL
variable {ws : va_W} {kl ka : Nat} {x y x2 y2 z : Nat × va_E}
theorem wL_self (h1 : ws[kl]? = some x) (h2 : ws[ka]? = some y) : wL ws kl ka x y = ws := by
  unfold wL
  rw [lst_same h1, lst_same h2]
theorem wL_l (hne : kl ≠ ka) (h1 : ws[kl]? = some x2) : (wL ws kl ka x y)[kl]? = some x := by
  unfold wL
  rw [List.getElem?_set_ne (Ne.symm hne), List.getElem?_set_self (lst_lt h1)]
theorem wL_a (h2 : ws[ka]? = some y2) : (wL ws kl ka x y)[ka]? = some y := by
  unfold wL
  rw [List.getElem?_set_self (by rw [List.length_set]; exact lst_lt h2)]
theorem wL_o {k : Nat} (h1 : kl ≠ k) (h2 : ka ≠ k) (h : ws[k]? = some z) : (wL ws kl ka x y)[k]? = some z := by
  unfold wL
  rw [List.getElem?_set_ne h2, List.getElem?_set_ne h1, h]
theorem wL_setA : (wL ws kl ka x y).set ka y2 = wL ws kl ka x y2 := by
  unfold wL
  rw [List.set_set]
theorem wL_setL (hne : kl ≠ ka) : (wL ws kl ka x y).set kl x2 = wL ws kl ka x2 y := by
  unfold wL
  rw [List.set_comm _ _ (Ne.symm hne), List.set_set]
end WL
/-- a row without its place i -/
def rmv (f : Nat → Option Nat) (i n : Nat) : Nat → Option Nat := fun j => if j + 1 < n then (if j < i then f j else f (j + 1)) else if j + 1 = n then none else f j
theorem rmv_a {f : Nat → Option Nat} {i n : Nat} (hi : i + 1 < n) : va_up (va_cpy f f (i + 1) i (n - 1 - i)) (n - 1) none = rmv f i n := by
  funext j
  unfold va_up va_cpy rmv
  by_cases h1 : j + 1 < n
  · rw [if_neg (by omega), if_pos h1]
    by_cases h2 : j < i
    · rw [if_neg (by omega), if_pos h2]
    · rw [if_pos (by omega), if_neg h2, show i + 1 + (j - i) = j + 1 by omega]
  · by_cases h2 : j + 1 = n
    · rw [if_pos (by omega), if_neg h1, if_pos h2]
    · rw [if_neg (by omega), if_neg (by omega), if_neg h1, if_neg h2]
theorem rmv_b {f : Nat → Option Nat} {i n : Nat} (hi : i + 1 = n) : va_up f (n - 1) none = rmv f i n := by
  funext j
  unfold va_up rmv
  by_cases h1 : j + 1 < n
  · rw [if_neg (by omega), if_pos h1, if_pos (by omega)]
  · by_cases h2 : j + 1 = n
    · rw [if_pos (by omega), if_neg h1, if_pos h2]
    · rw [if_neg (by omega), if_neg h1, if_neg h2]
theorem cast_asg {U : State} {C E : String} (h : va_Nw (.castable C E) U) : ∀ comp c0 : ClassId, U.vm.findClass E = some comp → U.vm.findClass C = some c0 → U.vm.assignable c0 comp = true := by
  intro comp c0 h1 h2
  have h3 : (Cond.castable C E).before #[] U = true := h
  simp only [Cond.before, Cond.holds, Cond.value, h1, h2] at h3
  simpa using h3
