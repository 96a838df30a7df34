/-! lists over a world whose tail dy has the rows and the objects: add, remove, clear -/
def PA (cy : Nat → ClassId) (e0 : Nat) (pre dy : va_W) (ea n : Nat) (f : Nat → Option Nat) (x : Nat) (u : Nat × Nat × (Nat → Option Nat) × va_W) : Prop :=
  (∃ k : Nat, u.2.2.2[k]? = some (aQ cy u.1 u.2.1 u.2.2.1)) ∧ n + 1 ≤ u.2.1 ∧ 10 ≤ u.2.1 ∧ u.2.1 ≤ 300 ∧ (∀ j, j < n → u.2.2.1 j = f j) ∧ u.2.2.1 n = some x ∧ KP ea dy u.2.2.2 ∧ (u.1 = ea ∨ (u.1 ≠ e0 ∧ ∀ z ∈ pre ++ dy, z.1 ≠ u.1))
theorem KP_app {ea : Nat} {dy z : va_W} : KP ea dy (dy ++ z) := fun _ _ h _ => app_l h
theorem KP_set {cy : Nat → ClassId} {ea ka N M : Nat} {f g : Nat → Option Nat} {dy : va_W} (h : dy[ka]? = some (aQ cy ea N f)) : KP ea dy (dy.set ka (aQ cy ea M g)) := fun k q hk hc => by
  refine (List.getElem?_set_ne (fun e => ?_)).trans hk
  subst e
  rw [h] at hk
  cases hk
  rcases hc with ⟨x, hx⟩ | hx
  · cases hx
  · exact hx rfl
theorem wL_app {pre dy : va_W} {kl ka : Nat} {x x0 y : Nat × va_E} (h : pre[kl]? = some x0) : wL (pre ++ dy) kl (pre.length + ka) x y = pre.set kl x ++ dy.set ka y := by
  unfold wL
  rw [app_setl h, show pre.length = (pre.set kl x).length from (List.length_set).symm, app_setr]
theorem c_add {l : Launch} {D : va_G} {cy : Nat → ClassId} {e0 : Nat × Nat} {pre dy : va_W} {kl q ea n N : Nat} {mo : Int32} {f : Nat → Option Nat} {ci : Nat} {r9 : vw_C} (hL : pre[kl]? = some (aL q mo ea n)) (hAD : AD cy dy e0.1 ea N f n) (hn : n < 128) (hel : ∀ j, j < n → ∃ (y k : Nat) (vs : List Value), f j = some y ∧ dy[k]? = some (y, .inr (ci, vs))) (hci : vwCl[ci]? = some r9) (hca : r9.1 = "TransitGate$Binding" ∨ r9.1 = "TransitGate$Session") (hc0 : ci ≠ 0) {kx x : Nat} {vx : List Value} (hx0 : dy[kx]? = some (x, .inr (ci, vx))) :
    WRX (S := Nat × Nat × (Nat → Option Nat) × va_W) l yJx4a65c_add_9ea2d cJx4a65c_add_9ea2d 2 (some .boolean) 6 1 300 140 [.ref q, .ref x] D cy e0 (pre ++ dy) (fun _ => some (.int (bI true))) (PA cy e0.1 pre dy ea n f x) (fun u => pre.set kl (aL q (mo + nI 1) u.1 (n + 1)) ++ u.2.2.2) := by
  have grow : ((ea = e0.1 ∧ n = 0) ∨ ∃ ka N : Nat, (pre ++ dy)[ka]? = some (aQ cy ea N f) ∧ n = N ∧ 10 ≤ N ∧ N < 128 ∧ ∀ j, j < N → ∃ (y k : Nat) (vs : List Value), f j = some y ∧ (pre ++ dy)[k]? = some (y, .inr (ci, vs))) → WRX (S := Nat × Nat × (Nat → Option Nat) × va_W) l yJx4a65c_add_9ea2d cJx4a65c_add_9ea2d 2 (some .boolean) 6 1 300 140 [.ref q, .ref x] D cy e0 (pre ++ dy) (fun _ => some (.int (bI true))) (PA cy e0.1 pre dy ea n f x) (fun u => pre.set kl (aL q (mo + nI 1) u.1 (n + 1)) ++ u.2.2.2) := fun hc =>
    (c_Jx4a65c_add_9ea2dG (app_l hL) hc hci hca hc0 hn (app_r hx0)).map (fun u hu => ⟨(u.1, u.2.1, u.2.2, dy ++ [aQ cy u.1 u.2.1 u.2.2]), rfl, ⟨⟨dy.length, app_e⟩, hu.1, hu.2.1, hu.2.2.1, hu.2.2.2.1, hu.2.2.2.2.1, KP_app, Or.inr ⟨hu.2.2.2.2.2.1, hu.2.2.2.2.2.2⟩⟩, by rw [app_setl hL, List.append_assoc]⟩)
  rcases hAD with h1 | ⟨ka, h1, h2, h3, h4⟩
  · exact grow (Or.inl h1)
  · by_cases hr : n < N
    · exact (c_Jx4a65c_add_9ea2dR (app_l hL) (app_r h1) h2 h4 hr hci hca hc0 (app_r hx0)).map (fun u _ => ⟨(ea, N, va_up f n (some x), dy.set ka (aQ cy ea N (va_up f n (some x)))), rfl, ⟨⟨ka, List.getElem?_set_self (lst_lt h1)⟩, hr, h3, h4, fun j hj => va_up_ne _ _ (by omega), va_up_self _ _ _, KP_set h1, Or.inl rfl⟩, (wL_app hL).symm⟩)
    · exact grow (Or.inr ⟨pre.length + ka, N, app_r h1, by omega, h3, by omega, fun j hj => by
        obtain ⟨y, k, vs, g1, g2⟩ := hel j (by omega)
        exact ⟨y, pre.length + k, vs, g1, app_r g2⟩⟩)
theorem c_remove {l : Launch} {D : va_G} {cy : Nat → ClassId} {e0 : Nat × Nat} {pre dy : va_W} {kl q ea n N i : Nat} {mo : Int32} {f : Nat → Option Nat} {ci : Nat} {r9 : vw_C} (hL : pre[kl]? = some (aL q mo ea n)) (hAD : AD cy dy e0.1 ea N f n) (hi : i < n) (hel : ∀ j, j < n → ∃ (y k : Nat) (vs : List Value), f j = some y ∧ dy[k]? = some (y, .inr (ci, vs))) (hci : vwCl[ci]? = some r9) (hca : r9.1 = "TransitGate$Binding" ∨ r9.1 = "TransitGate$Session") (hc0 : ci ≠ 0) :
    WRX (S := va_W) l yJx4a65c_remove_915e3 cJx4a65c_remove_915e3 4 (some (.object "java/lang/Object")) 2 0 0 53 [.ref q, .int (nI i)] D cy e0 (pre ++ dy) (fun _ => some (va_rf (f i))) (fun u => AD cy u e0.1 ea N (rmv f i n) (n - 1) ∧ KP ea dy u) (fun u => pre.set kl (aL q (mo + nI 1) ea (n - 1)) ++ u) := by
  rcases hAD with ⟨-, h1⟩ | ⟨ka, h1, h2, h3, h4⟩
  · omega
  · exact (c_Jx4a65c_remove_915e3 (app_l hL) (app_r h1) h2 h4 hi (fun j hj => by
        obtain ⟨y, k, vs, g1, g2⟩ := hel j hj
        exact ⟨y, pre.length + k, vs, g1, app_r g2⟩) hci hca hc0).map (fun u _ => ⟨dy.set ka (aQ cy ea N (rmv f i n)), rfl, ⟨Or.inr ⟨ka, List.getElem?_set_self (lst_lt h1), by omega, h3, h4⟩, KP_set h1⟩, (wL_app hL).symm⟩)
theorem c_clear {l : Launch} {D : va_G} {cy : Nat → ClassId} {e0 : Nat} {pre dy : va_W} {kl q ea n N : Nat} {mo : Int32} {f : Nat → Option Nat} (hL : pre[kl]? = some (aL q mo ea n)) (hAD : AD cy dy e0 ea N f n) :
    WR (S := (Nat → Option Nat) × va_W) l yJx4a65c_clear_da8c8 cJx4a65c_clear_da8c8 4 none 0 0 0 0 [.ref q] D cy (pre ++ dy) (fun _ => none) (fun u => AD cy u.2 e0 ea N u.1 0 ∧ KP ea dy u.2) (fun u => pre.set kl (aL q (mo + nI 1) ea 0) ++ u.2) := by
  rcases hAD with ⟨h0, h1⟩ | ⟨ka, h1, h2, h3, h4⟩
  · exact (c_Jx4a65c_clear_da8c80 (app_l hL) h1).map (fun u _ => ⟨(f, dy), rfl, ⟨Or.inl ⟨h0, rfl⟩, fun _ _ h _ => h⟩, (app_setl hL).symm⟩)
  · exact (c_Jx4a65c_clear_da8c8 (app_l hL) (app_r h1) h2 h4).map (fun u _ => ⟨(_, dy.set ka (aQ cy ea N (fun j => if j < n then none else f j))), rfl, ⟨Or.inr ⟨ka, List.getElem?_set_self (lst_lt h1), by omega, h3, h4⟩, KP_set h1⟩, (wL_app hL).symm⟩)
