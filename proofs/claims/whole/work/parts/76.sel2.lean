theorem range_at {n k : Nat} (h : k < n) : (List.range n).getD k 0 = k := by
  rw [List.getD_eq_getElem?_getD, List.getElem?_range h]
  rfl
theorem fl_all {p : Nat → Bool} {n : Nat} (h : (fl p n 0).length = n) : fl p n 0 = List.range n := by
  rw [fl_0] at h ⊢
  have h1 := List.length_filter_eq_length_iff (p := p) (l := List.range n)
  rw [List.length_range] at h1
  exact List.filter_eq_self.mpr (h1.mp h)
theorem fl_true {p : Nat → Bool} {n : Nat} (h : ∀ j, j < n → p j = true) : fl p n 0 = List.range n := by
  rw [fl_0]
  exact List.filter_eq_self.mpr (fun a ha => h a (List.mem_range.mp ha))
theorem tg_cnt_all {q : Nat → Bool} : ∀ {n : Nat}, (∀ j, j < n → q j = true) → tg_cnt q n = n
  | 0, _ => rfl
  | n + 1, h => by
    unfold tg_cnt
    rw [tg_cnt_all (n := n) (fun j hj => h j (by omega)), if_pos (h n (by omega))]
/-- nothing is let go where every binding has a session -/
theorem DY.stay {cy : Nat → ClassId} {e0 : Nat} {dy : va_W} {eb es nb ns : Nat} {ba sa pt ih il ip pn op so fa fp st en : Nat → Nat} {p : Nat → Bool} (hL : (fl p ns 0).length = ns) (hown : ∀ b, b < nb → ∃ j, j < ns ∧ so j = b) (h : DY cy e0 dy eb es nb (fl p ns 0).length ba (pk sa (fl p ns 0)) pt ih il ip pn op (pk so (fl p ns 0)) (pk fa (fl p ns 0)) (pk fp (fl p ns 0)) (pk st (fl p ns 0)) (pk en (fl p ns 0))) {q : Nat → Bool} (hq : q = fun j => decide (0 < tg_cnt (fun k => decide (pk so (fl p ns 0) k = j)) (fl p ns 0).length)) :
    (fl q nb 0).length = nb ∧ DY cy e0 dy eb es (fl q nb 0).length (fl p ns 0).length (pk ba (fl q nb 0)) (pk sa (fl p ns 0)) (pk pt (fl q nb 0)) (pk ih (fl q nb 0)) (pk il (fl q nb 0)) (pk ip (fl q nb 0)) (pk pn (fl q nb 0)) (pk op (fl q nb 0)) (soC q (pk so (fl p ns 0)) 0) (pk fa (fl p ns 0)) (pk fp (fl p ns 0)) (pk st (fl p ns 0)) (pk en (fl p ns 0)) := by
  have hq1 : ∀ j, j < nb → q j = true := fun j hj => by
    obtain ⟨k, hk, hk2⟩ := hown j hj
    rw [hq]
    refine decide_eq_true (tg_cnt_pos (j := k) (by omega) (decide_eq_true ?_))
    rw [pk, fl_all hL, range_at hk, hk2]
  have e1 := fl_true hq1
  have e2 : ∀ (f : Nat → Nat) (i : Nat), i < nb → f i = pk f (fl q nb 0) i := fun f i hi => by rw [pk, e1, range_at hi]
  have e3 : (fl q nb 0).length = nb := by rw [e1, List.length_range]
  refine ⟨e3, ?_⟩
  rw [e3]
  refine ⟨h.1.cong (fun j hj => ⟨e2 _ _ hj, e2 _ _ hj, e2 _ _ hj, e2 _ _ hj, e2 _ _ hj, e2 _ _ hj, e2 _ _ hj⟩), h.2.1.cong (fun j hj => ⟨rfl, ?_, rfl, rfl, rfl, rfl⟩) (fun i hi => e2 _ _ hi), h.2.2⟩
  have hb := h.2.1.own hj
  rw [soC_0]
  exact (tg_cnt_all (fun k hk => hq1 k (by omega))).symm
