/-! what the model's rows are while it sweeps -/
def shk (f : Nat → Nat) (b k : Nat) : Nat → Nat := fun j => if b ≤ j ∧ j < k then f (j + 1) else f j
theorem shk_at {f : Nat → Nat} {b k : Nat} : shk f b k (k + 1) = f (k + 1) := if_neg (by omega)
theorem shk_step {f : Nat → Nat} {b k : Nat} (h : b ≤ k) : va_up (shk f b k) k (f (k + 1)) = shk f b (k + 1) := by
  funext j
  unfold va_up shk
  by_cases e : j = k
  · rw [if_pos e, if_pos (by omega), e]
  · rw [if_neg e]
    by_cases h2 : b ≤ j ∧ j < k
    · rw [if_pos h2, if_pos (by omega)]
    · rw [if_neg h2, if_neg (by omega)]
theorem shk_0 {f : Nat → Nat} {b : Nat} : shk f b b = f := by
  funext j
  exact if_neg (by omega)
def sok (so : Nat → Nat) (b s : Nat) : Nat → Nat := fun j => if j < s ∧ b < so j then so j - 1 else so j
theorem sok_0 {so : Nat → Nat} {b : Nat} : sok so b 0 = so := by
  funext j
  exact if_neg (by omega)
theorem sok_at {so : Nat → Nat} {b s : Nat} : sok so b s s = so s := if_neg (by omega)
theorem sok_step {so : Nat → Nat} {b s v : Nat} (hv : v = if b < so s then so s - 1 else so s) : va_up (sok so b s) s v = sok so b (s + 1) := by
  funext j
  unfold va_up sok
  by_cases e : j = s
  · rw [if_pos e, hv, e]
    by_cases h : b < so s
    · rw [if_pos h, if_pos (by omega)]
    · rw [if_neg h, if_neg (by omega)]
  · rw [if_neg e]
    by_cases h2 : j < s ∧ b < so j
    · rw [if_pos h2, if_pos (by omega)]
    · rw [if_neg h2, if_neg (by omega)]
def LL (p : Nat → Bool) (s : Nat) : List Nat := (List.range s).filter p
theorem LL_fl {p : Nat → Bool} {s : Nat} : fl p s 0 = LL p s := fl_0
theorem LL_s {p : Nat → Bool} {s : Nat} : LL p (s + 1) = LL p s ++ (if p s = true then [s] else []) := by
  unfold LL
  rw [List.range_succ, List.filter_append]
  congr 1
  by_cases h : p s = true
  · simp [h]
  · simp [h]
theorem LL_le {p : Nat → Bool} {s : Nat} : (LL p s).length ≤ s := by
  have := List.length_filter_le p (List.range s)
  rw [List.length_range] at this
  exact this
theorem LL_len {p : Nat → Bool} : ∀ {s : Nat}, (LL p s).length = tg_cnt p s
  | 0 => rfl
  | s + 1 => by
    rw [LL_s, List.length_append, LL_len (s := s), tg_cnt]
    by_cases h : p s = true
    · simp [h]
    · simp [h]
def ckm (f : Nat → Nat) (p : Nat → Bool) (s : Nat) : Nat → Nat := fun k => if k < (LL p s).length then f ((LL p s).getD k 0) else f k
theorem ckm_at {f : Nat → Nat} {p : Nat → Bool} {s : Nat} : ckm f p s s = f s := if_neg (by have := LL_le (p := p) (s := s); omega)
theorem ckm_0 {f : Nat → Nat} {p : Nat → Bool} : ckm f p 0 = f := by
  funext k
  exact if_neg (by have := LL_le (p := p) (s := 0); omega)
theorem ckm_drop {f : Nat → Nat} {p : Nat → Bool} {s : Nat} (h : p s = false) : ckm f p s = ckm f p (s + 1) := by
  unfold ckm
  rw [LL_s, if_neg (by rw [h]; decide), List.append_nil]
theorem ckm_keep {f : Nat → Nat} {p : Nat → Bool} {s : Nat} (h : p s = true) : va_up (ckm f p s) (LL p s).length (f s) = ckm f p (s + 1) := by
  funext k
  unfold va_up ckm
  rw [LL_s, if_pos h, List.length_append, List.length_singleton]
  by_cases e : k = (LL p s).length
  · rw [if_pos e, if_pos (by omega), List.getD_eq_getElem?_getD, List.getElem?_append_right (by omega), e, Nat.sub_self]
    rfl
  · rw [if_neg e]
    by_cases h2 : k < (LL p s).length
    · rw [if_pos h2, if_pos (by omega), List.getD_eq_getElem?_getD, List.getD_eq_getElem?_getD, List.getElem?_append_left h2]
    · rw [if_neg h2, if_neg (by omega)]
theorem LL_keep {p : Nat → Bool} {s : Nat} (h : p s = true) : (LL p s).length + 1 = (LL p (s + 1)).length := by
  rw [LL_s, if_pos h, List.length_append]
  rfl
theorem LL_drop {p : Nat → Bool} {s : Nat} (h : p s = false) : LL p s = LL p (s + 1) := by
  rw [LL_s, if_neg (by rw [h]; decide), List.append_nil]
theorem ckm_pk {f : Nat → Nat} {p : Nat → Bool} {s k : Nat} (h : k < (LL p s).length) : ckm f p s k = pk f (LL p s) k := if_pos h
/-- a row whose values are all those of another -/
def SUB (f2 f : Nat → Nat) : Prop := ∀ k, ∃ j, f2 k = f j
theorem SUB.rf {f : Nat → Nat} : SUB f f := fun k => ⟨k, rfl⟩
theorem SUB.ck {f : Nat → Nat} {p : Nat → Bool} {s : Nat} : SUB (ckm f p s) f := fun k => by
  unfold ckm
  split
  · exact ⟨_, rfl⟩
  · exact ⟨_, rfl⟩
theorem SUB.sh {f2 f : Nat → Nat} {b k : Nat} (h : SUB f2 f) : SUB (shk f2 b k) f := fun j => by
  unfold shk
  split
  · exact h _
  · exact h _
theorem SUB.lt {f2 f : Nat → Nat} {m : Nat} (h : SUB f2 f) (hf : ∀ i, f i < m) : ∀ i, f2 i < m := fun i => by
  obtain ⟨j, hj⟩ := h i
  rw [hj]
  exact hf j
/-- the bindings that are left, of the first i; and all behind -/
def LB (q : Nat → Bool) (n i : Nat) : List Nat := LL q i ++ List.range' i (n - i)
theorem LB_0 {q : Nat → Bool} {n : Nat} : LB q n 0 = List.range n := by
  unfold LB LL
  simp [List.range_eq_range']
theorem LB_n {q : Nat → Bool} {n : Nat} : LB q n n = LL q n := by simp [LB]
theorem LB_s {n i : Nat} (h : i < n) : List.range' i (n - i) = i :: List.range' (i + 1) (n - (i + 1)) := by
  rw [show n - i = (n - (i + 1)) + 1 by omega, List.range'_succ]
theorem LB_keep {q : Nat → Bool} {n i : Nat} (h : i < n) (hq : q i = true) : LB q n (i + 1) = LB q n i := by
  unfold LB
  rw [LL_s, if_pos hq, LB_s h, List.append_assoc]
  rfl
theorem LB_len {q : Nat → Bool} {n i : Nat} (h : i ≤ n) : (LB q n i).length + i = n + (LL q i).length := by
  unfold LB
  rw [List.length_append, List.length_range']
  omega
theorem LB_drop {q : Nat → Bool} {n i m : Nat} {f f2 : Nat → Nat} (h : i < n) (hq : q i = false) (hm : m = (LB q n i).length) (hf : ∀ k, k < m → f2 k = f ((LB q n i).getD k 0)) : ∀ k, k < m - 1 → shk f2 (LL q i).length (m - 1) k = f ((LB q n (i + 1)).getD k 0) := by
  intro k hk
  have e1 : LB q n i = LL q i ++ (i :: List.range' (i + 1) (n - (i + 1))) := by unfold LB; rw [LB_s h]
  have e2 : LB q n (i + 1) = LL q i ++ List.range' (i + 1) (n - (i + 1)) := by unfold LB; rw [← LL_drop hq]
  unfold shk
  by_cases h1 : k < (LL q i).length
  · rw [if_neg (by omega), hf k (by omega), e1, e2, List.getD_eq_getElem?_getD, List.getD_eq_getElem?_getD, List.getElem?_append_left h1, List.getElem?_append_left h1]
  · rw [if_pos (by omega), hf (k + 1) (by omega), e1, e2, List.getD_eq_getElem?_getD, List.getD_eq_getElem?_getD, List.getElem?_append_right (by omega), List.getElem?_append_right (by omega), show k + 1 - (LL q i).length = (k - (LL q i).length) + 1 by omega, List.getElem?_cons_succ]
/-- the number of a session's binding when the first i have been sorted out -/
def sv (q : Nat → Bool) (so : Nat → Nat) (i : Nat) : Nat → Nat := fun s => if so s < i then tg_cnt q (so s) else so s - (i - tg_cnt q i)
theorem sv_0 {q : Nat → Bool} {so : Nat → Nat} {s : Nat} : sv q so 0 s = so s := by simp [sv]
theorem sv_n {q : Nat → Bool} {so : Nat → Nat} {n s : Nat} (h : so s < n) : sv q so n s = tg_cnt q (so s) := if_pos h
theorem sv_keep {q : Nat → Bool} {so : Nat → Nat} {i s : Nat} (h : q i = true) : sv q so (i + 1) s = sv q so i s := by
  have e : tg_cnt q (i + 1) = tg_cnt q i + 1 := by simp [tg_cnt, h]
  have hl := tg_cnt_le q i
  unfold sv
  by_cases h1 : so s < i
  · rw [if_pos (by omega), if_pos h1]
  · by_cases h2 : so s = i
    · rw [if_pos (by omega), if_neg h1, h2]; omega
    · rw [if_neg (by omega), if_neg h1]; omega
theorem sv_drop {q : Nat → Bool} {so : Nat → Nat} {i s : Nat} (h : q i = false) (hs : so s ≠ i) : (if tg_cnt q i < sv q so i s then sv q so i s - 1 else sv q so i s) = sv q so (i + 1) s := by
  have e : tg_cnt q (i + 1) = tg_cnt q i := by simp [tg_cnt, h]
  have hl := tg_cnt_le q i
  unfold sv
  by_cases h1 : so s < i
  · have := tg_cnt_mono q (a := so s) (b := i) (by omega)
    rw [if_pos h1, if_pos (show so s < i + 1 by omega), if_neg (by omega)]
  · rw [if_neg h1, if_neg (show ¬ so s < i + 1 by omega), if_pos (by omega), e]
    omega
theorem sv_eq {q : Nat → Bool} {so : Nat → Nat} {i s : Nat} (hq : q (so s) = true) : sv q so i s = tg_cnt q i ↔ so s = i := by
  have hl := tg_cnt_le q i
  unfold sv
  by_cases h1 : so s < i
  · have e : tg_cnt q (so s + 1) = tg_cnt q (so s) + 1 := by simp [tg_cnt, hq]
    have := tg_cnt_mono q (a := so s + 1) (b := i) (by omega)
    rw [if_pos h1]
    omega
  · rw [if_neg h1]
    omega
theorem sv_le {q : Nat → Bool} {so : Nat → Nat} {i s : Nat} : sv q so i s ≤ so s := by
  have := tg_cnt_le q (so s)
  unfold sv
  split <;> omega
