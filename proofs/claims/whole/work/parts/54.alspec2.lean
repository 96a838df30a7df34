theorem q_cls {s : State} {D : va_G} {cy : Nat → ClassId} {cA : ClassId} (hK : va_K D vwCl (TYS cy) s) (hK2 : va_K D vwCl (TYS cy ++ [(cA, .object "java/lang/Object")]) s) : cA = cy 3 := by
  have h1 := va_nmO (nm := "[Ljava/lang/Object;") (hK2.2 4 _ rfl).2 (by decide)
  have h2 := va_nmO (nm := "[Ljava/lang/Object;") (hK.2 3 _ rfl).2 (by decide)
  exact Option.some.inj (h1.symm.trans h2)
theorem q_recv {s : State} {H : Heap} {D : va_G} {cy : Nat → ClassId} {ws : va_W} {a q0 N : Nat} {f : Nat → Option Nat} (hK : va_K D vwCl (TYS cy) s) (hP : va_P D vwCl ws H) (he : ws[q0]? = some (aQ cy a N f)) : ∃ cell : Cell, H[a]? = some cell ∧ cell.vm.isStatics = false ∧ s.vm.findClass "[Ljava/lang/Object;" = some cell.cls :=
  ⟨_, hP q0 _ he, rfl, va_nmO (nm := "[Ljava/lang/Object;") (hK.2 3 _ rfl).2 (by decide)⟩
theorem app_l {α : Type} {ws x : List α} {k : Nat} {q : α} (h : ws[k]? = some q) : (ws ++ x)[k]? = some q := by
  rw [List.getElem?_append_left (lst_lt h), h]
theorem app_e {α : Type} {ws : List α} {q : α} : (ws ++ [q])[ws.length]? = some q := by simp
theorem app_r {α : Type} {ws x : List α} {k : Nat} {q : α} (h : x[k]? = some q) : (ws ++ x)[ws.length + k]? = some q := by
  rw [List.getElem?_append_right (by omega), show ws.length + k - ws.length = k by omega, h]
theorem app_set {α : Type} {ws : List α} {q x : α} : (ws ++ [q]).set ws.length x = ws ++ [x] := by simp
theorem app_setl {α : Type} {ws z : List α} {k : Nat} {q x : α} (h : ws[k]? = some q) : (ws ++ z).set k x = ws.set k x ++ z := List.set_append_left k x (lst_lt h)
theorem app_setr {α : Type} {ws z : List α} {k : Nat} {x : α} : (ws ++ z).set (ws.length + k) x = ws ++ z.set k x := by
  rw [List.set_append_right _ _ (by omega), show ws.length + k - ws.length = k by omega]
/-- what was made last lies apart from all the rest -/
theorem app_new {A : Nat → Prop} {ws : va_W} {q : Nat} {e : va_E} (hD : va_D A (ws ++ [(q, e)])) : ∀ x ∈ ws, x.1 ≠ q := by
  intro x hx h
  obtain ⟨k, hk⟩ := List.getElem?_of_mem hx
  have h1 := hD.1 k ws.length x (q, e) (app_l hk) app_e h
  have h2 := lst_lt hk
  omega
theorem mem_set {α : Type} {ws : List α} {k : Nat} {x y z : α} (h : z ∈ ws.set k x) : z = x ∨ z ∈ ws := (List.mem_or_eq_of_mem_set h).symm
/-- the row of a list in the world's tail, or the one that none has written to -/
def AD (cy : Nat → ClassId) (dy : va_W) (e0 ea N : Nat) (f : Nat → Option Nat) (n : Nat) : Prop := (ea = e0 ∧ n = 0) ∨ ∃ ka : Nat, dy[ka]? = some (aQ cy ea N f) ∧ n ≤ N ∧ 10 ≤ N ∧ N ≤ 300
/-- what is kept of the tail: all objects, all rows but ea's -/
def KP (ea : Nat) (dy dy2 : va_W) : Prop := ∀ (k : Nat) (q : Nat × va_E), dy[k]? = some q → ((∃ x, q.2 = .inr x) ∨ q.1 ≠ ea) → dy2[k]? = some q
