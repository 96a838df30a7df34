/-! WHAT IS LET GO: rows without a place, and what is left of a row -/
def pk (f : Nat → Nat) (L : List Nat) : Nat → Nat := fun k => f (L.getD k 0)
def dl (f : Nat → Nat) (i : Nat) : Nat → Nat := fun k => if k < i then f k else f (k + 1)
/-- the first c as they are, of those behind what p keeps -/
def fl (p : Nat → Bool) (n c : Nat) : List Nat := List.range c ++ (List.range' c (n - c)).filter p
theorem fl_top {p : Nat → Bool} {n : Nat} : fl p n n = List.range n := by simp [fl]
theorem fl_0 {p : Nat → Bool} {n : Nat} : fl p n 0 = (List.range n).filter p := by simp [fl, List.range_eq_range']
theorem fl_s {p : Nat → Bool} {n c : Nat} (h : c < n) : (List.range' c (n - c)).filter p = (if p c = true then [c] else []) ++ (List.range' (c + 1) (n - (c + 1))).filter p := by
  rw [show n - c = (n - (c + 1)) + 1 by omega, List.range'_succ, List.filter_cons]
  split <;> simp
theorem fl_keep {p : Nat → Bool} {n c : Nat} (h : c < n) (hp : p c = true) : fl p n c = fl p n (c + 1) := by
  unfold fl
  rw [fl_s h, if_pos hp, List.range_succ, List.append_assoc]
theorem fl_at {p : Nat → Bool} {n c k : Nat} (h : k < c) : (fl p n c).getD k 0 = k := by
  unfold fl
  rw [List.getD_eq_getElem?_getD, List.getElem?_append_left (by simpa using h), List.getElem?_range h]
  rfl
theorem fl_le {p : Nat → Bool} {n c : Nat} : c ≤ (fl p n c).length := by simp [fl]
theorem fl_ln {p : Nat → Bool} {n c : Nat} (h : c ≤ n) : (fl p n c).length ≤ n := by
  have := List.length_filter_le p (List.range' c (n - c))
  simp [fl] at *
  omega
theorem fl_drop_len {p : Nat → Bool} {n c : Nat} (h : c < n) (hp : p c = false) : (fl p n (c + 1)).length = (fl p n c).length + 1 := by
  unfold fl
  rw [fl_s h, if_neg (by rw [hp]; decide)]
  simp
  omega
theorem fl_drop {p : Nat → Bool} {n c : Nat} (h : c < n) (hp : p c = false) (f : Nat → Nat) : dl (pk f (fl p n (c + 1))) c = pk f (fl p n c) := by
  funext k
  unfold dl pk
  by_cases hk : k < c
  · rw [if_pos hk, fl_at (by omega), fl_at hk]
  · rw [if_neg hk]
    congr 1
    unfold fl
    rw [fl_s h, if_neg (by rw [hp]; decide), List.nil_append, List.getD_eq_getElem?_getD, List.getD_eq_getElem?_getD, List.getElem?_append_right (by simp; omega), List.getElem?_append_right (by simp; omega)]
    congr 2
    simp
    try omega
section RM
variable {cy : Nat → ClassId} {dy u : va_W} {e0 eb es nb ns : Nat} {ba pt ih il ip pn op sa so fa fp st en : Nat → Nat}
theorem rmv_at {f : Nat → Option Nat} {i n j : Nat} (h : j < n - 1) : rmv f i n j = if j < i then f j else f (j + 1) := if_pos (by omega)
theorem dl_inj {f : Nat → Nat} {i n : Nat} (hf : ∀ a b, a < n → b < n → f a = f b → a = b) : ∀ a b, a < n - 1 → b < n - 1 → dl f i a = dl f i b → a = b := by
  intro a b ha hb e
  unfold dl at e
  split at e <;> split at e <;> have := hf _ _ (by omega) (by omega) e <;> omega
theorem TS1.rm {N i : Nat} {f : Nat → Option Nat} (h3 : ∀ j, j < ns → f j = some (sa j) ∧ so j < nb ∧ ∃ k : Nat, dy[k]? = some (sE (sa j) (ba (so j)) (fa j) (fp j) (st j) (en j))) (h4 : ∀ i j, i < ns → j < ns → sa i = sa j → i = j) (h2 : ns ≤ 128) (hi : i < ns) (hu : AD cy u e0 es N (rmv f i ns) (ns - 1) ∧ KP es dy u) : TS1 cy u e0 es (ns - 1) nb ba (dl sa i) (dl so i) (dl fa i) (dl fp i) (dl st i) (dl en i) := by
  refine ⟨N, rmv f i ns, hu.1, by omega, fun j hj => ?_, dl_inj h4⟩
  rw [rmv_at hj]
  unfold dl
  by_cases h : j < i
  · simp only [if_pos h]
    obtain ⟨g1, g0, k, g2⟩ := h3 j (by omega)
    exact ⟨g1, g0, k, hu.2 k _ g2 (Or.inl ⟨_, rfl⟩)⟩
  · simp only [if_neg h]
    obtain ⟨g1, g0, k, g2⟩ := h3 (j + 1) (by omega)
    exact ⟨g1, g0, k, hu.2 k _ g2 (Or.inl ⟨_, rfl⟩)⟩
theorem TB1.rm {N i : Nat} {f : Nat → Option Nat} (h3 : ∀ i, i < nb → f i = some (ba i) ∧ ∃ k : Nat, dy[k]? = some (bE (ba i) (pt i) (ih i) (il i) (ip i) (pn i) (op i))) (h4 : ∀ i j, i < nb → j < nb → ba i = ba j → i = j) (h2 : nb ≤ 64) (hi : i < nb) (hu : AD cy u e0 eb N (rmv f i nb) (nb - 1) ∧ KP eb dy u) : TB1 cy u e0 eb (nb - 1) (dl ba i) (dl pt i) (dl ih i) (dl il i) (dl ip i) (dl pn i) (dl op i) := by
  refine ⟨N, rmv f i nb, hu.1, by omega, fun j hj => ?_, dl_inj h4⟩
  rw [rmv_at hj]
  unfold dl
  by_cases h : j < i
  · simp only [if_pos h]
    obtain ⟨g1, k, g2⟩ := h3 j (by omega)
    exact ⟨g1, k, hu.2 k _ g2 (Or.inl ⟨_, rfl⟩)⟩
  · simp only [if_neg h]
    obtain ⟨g1, k, g2⟩ := h3 (j + 1) (by omega)
    exact ⟨g1, k, hu.2 k _ g2 (Or.inl ⟨_, rfl⟩)⟩
/-- the sessions' bindings by their new numbers when binding i, which has none, is no more -/
theorem TS1.rmB {i : Nat} (h : TS1 cy dy e0 es ns nb ba sa so fa fp st en) (hi : i < nb) (hno : ∀ s, s < ns → so s ≠ i) : TS1 cy dy e0 es ns (nb - 1) (dl ba i) sa (fun s => if i < so s then so s - 1 else so s) fa fp st en := by
  obtain ⟨N, f, h1, h2, h3, h4⟩ := h
  refine ⟨N, f, h1, h2, fun j hj => ?_, h4⟩
  obtain ⟨g1, g0, k, g2⟩ := h3 j hj
  have hn := hno j hj
  dsimp only
  refine ⟨g1, ?_, k, ?_⟩
  · split <;> omega
  · rw [show dl ba i (if i < so j then so j - 1 else so j) = ba (so j) from ?_]
    · exact g2
    · unfold dl
      by_cases h : i < so j
      · rw [if_pos h, if_neg (by omega), show so j - 1 + 1 = so j by omega]
      · rw [if_neg h, if_pos (by omega)]
theorem TS1.cong {sa2 so2 fa2 fp2 st2 en2 ba2 : Nat → Nat} (h : TS1 cy dy e0 es ns nb ba sa so fa fp st en) (e : ∀ j, j < ns → sa j = sa2 j ∧ so j = so2 j ∧ fa j = fa2 j ∧ fp j = fp2 j ∧ st j = st2 j ∧ en j = en2 j) (eb : ∀ i, i < nb → ba i = ba2 i) : TS1 cy dy e0 es ns nb ba2 sa2 so2 fa2 fp2 st2 en2 := by
  obtain ⟨N, f, h1, h2, h3, h4⟩ := h
  refine ⟨N, f, h1, h2, fun j hj => ?_, fun i j hi hj hij => h4 i j hi hj (by rw [(e i hi).1, (e j hj).1]; exact hij)⟩
  obtain ⟨g1, g0, k, g2⟩ := h3 j hj
  obtain ⟨e1, e2, e3, e4, e5, e6⟩ := e j hj
  rw [← e1, ← e2, ← e3, ← e4, ← e5, ← e6, ← eb _ g0]
  exact ⟨g1, g0, k, g2⟩
theorem TB1.cong {ba2 pt2 ih2 il2 ip2 pn2 op2 : Nat → Nat} (h : TB1 cy dy e0 eb nb ba pt ih il ip pn op) (e : ∀ j, j < nb → ba j = ba2 j ∧ pt j = pt2 j ∧ ih j = ih2 j ∧ il j = il2 j ∧ ip j = ip2 j ∧ pn j = pn2 j ∧ op j = op2 j) : TB1 cy dy e0 eb nb ba2 pt2 ih2 il2 ip2 pn2 op2 := by
  obtain ⟨N, f, h1, h2, h3, h4⟩ := h
  refine ⟨N, f, h1, h2, fun j hj => ?_, fun i j hi hj hij => h4 i j hi hj (by rw [(e i hi).1, (e j hj).1]; exact hij)⟩
  obtain ⟨g1, k, g2⟩ := h3 j hj
  obtain ⟨e1, e2, e3, e4, e5, e6, e7⟩ := e j hj
  rw [← e1, ← e2, ← e3, ← e4, ← e5, ← e6, ← e7]
  exact ⟨g1, k, g2⟩
end RM
theorem tg_cnt_mono (q : Nat → Bool) {a b : Nat} (h : a ≤ b) : tg_cnt q a ≤ tg_cnt q b := by
  induction b with
  | zero => rw [show a = 0 by omega]; exact Nat.le_refl _
  | succ b ihb =>
    by_cases e : a = b + 1
    · rw [e]; exact Nat.le_refl _
    · have := ihb (by omega)
      simp only [tg_cnt]
      omega
/-- the number of a session's binding when those from c on have been sorted out -/
def soC (q : Nat → Bool) (so : Nat → Nat) (c : Nat) : Nat → Nat := fun s => if so s < c then so s else c + (tg_cnt q (so s) - tg_cnt q c)
theorem soC_keep {q : Nat → Bool} {so : Nat → Nat} {c : Nat} (h : q c = true) : soC q so (c + 1) = soC q so c := by
  funext s
  have e : tg_cnt q (c + 1) = tg_cnt q c + 1 := by simp [tg_cnt, h]
  unfold soC
  by_cases h1 : so s < c
  · rw [if_pos (by omega), if_pos h1]
  · by_cases h2 : so s = c
    · rw [if_pos (by omega), if_neg h1, h2]; omega
    · have h3 := tg_cnt_mono q (a := c + 1) (b := so s) (by omega)
      rw [if_neg (by omega), if_neg h1]
      omega
theorem soC_drop {q : Nat → Bool} {so : Nat → Nat} {c s : Nat} (h : q c = false) (hs : so s ≠ c) : (if c < soC q so (c + 1) s then soC q so (c + 1) s - 1 else soC q so (c + 1) s) = soC q so c s := by
  have e : tg_cnt q (c + 1) = tg_cnt q c := by simp [tg_cnt, h]
  unfold soC
  by_cases h1 : so s < c
  · rw [if_pos (show so s < c + 1 by omega), if_pos h1, if_neg (by omega)]
  · rw [if_neg (show ¬ so s < c + 1 by omega), if_neg h1, if_pos (by omega), e]
    omega
theorem soC_eq {q : Nat → Bool} {so : Nat → Nat} {c s : Nat} : soC q so (c + 1) s = c ↔ so s = c := by
  unfold soC
  split <;> omega
theorem soC_top {q : Nat → Bool} {so : Nat → Nat} {n s : Nat} (h : so s < n) : soC q so n s = so s := if_pos h
theorem soC_0 {q : Nat → Bool} {so : Nat → Nat} {s : Nat} : soC q so 0 s = tg_cnt q (so s) := by
  unfold soC
  rw [if_neg (by omega)]
  simp [tg_cnt]
/-- a number one less; of 0 it is -1 -/
def dcr (c : Nat) : Int32 := nI c - nI 1
theorem dcr_0 : dcr 0 = -1 := by decide
theorem dcr_s (c : Nat) : dcr (c + 1) = nI c := by
  unfold dcr
  rw [pk_sub (by omega)]
  rfl
theorem dcr_i (c : Nat) : nI c + (-1) = dcr c := by
  unfold dcr
  rw [Int32.sub_eq_add_neg]
  rfl
theorem tg_cnt_pos {q : Nat → Bool} : ∀ {n j : Nat}, j < n → q j = true → 0 < tg_cnt q n
  | 0, j, h, _ => absurd h (Nat.not_lt_zero _)
  | n + 1, j, h, hq => by
    unfold tg_cnt
    by_cases e : j = n
    · subst e; rw [if_pos hq]; omega
    · have := tg_cnt_pos (n := n) (j := j) (by omega) hq
      omega
theorem tg_cnt_no {q : Nat → Bool} : ∀ {n : Nat}, tg_cnt q n = 0 → ∀ j, j < n → q j = false
  | 0, _, j, h => absurd h (Nat.not_lt_zero _)
  | n + 1, h, j, hj => by
    unfold tg_cnt at h
    by_cases e : j = n
    · subst e
      cases hq : q j with
      | false => rfl
      | true => rw [hq, if_pos rfl] at h; omega
    · exact tg_cnt_no (n := n) (by omega) j (by omega)
