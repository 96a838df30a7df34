theorem tb_r {w : Cond} (h : w ∈ tables_1) : w ∈ lw_tbl := List.mem_append_right _ h
theorem tb_1 {w : Cond} (h : w ∈ tables_1_1) : w ∈ lw_tbl := tb_r (List.mem_append_left _ h)
theorem tb_2 {w : Cond} (h : w ∈ tables_1_2) : w ∈ lw_tbl := tb_r (List.mem_append_right _ (List.mem_append_left _ h))
theorem tb_3 {w : Cond} (h : w ∈ tables_1_3) : w ∈ lw_tbl := tb_r (List.mem_append_right _ (List.mem_append_right _ (List.mem_append_left _ h)))
theorem tb_4 {w : Cond} (h : w ∈ tables_1_4) : w ∈ lw_tbl := tb_r (List.mem_append_right _ (List.mem_append_right _ (List.mem_append_right _ (List.mem_append_left _ h))))
theorem tb_5 {w : Cond} (h : w ∈ tables_1_5) : w ∈ lw_tbl := tb_r (List.mem_append_right _ (List.mem_append_right _ (List.mem_append_right _ (List.mem_append_right _ h))))
theorem tb_s {w : Cond} (h : w ∈ k2_sels lw_privs) : w ∈ lw_tbl := List.mem_append_left _ h
def lw_g : List Cond := lw_tbl.filter goodWord
theorem tg_1 {w : Cond} (h : w ∈ tables_1_1) (g : goodWord w = true) : w ∈ lw_g := List.mem_filter.mpr ⟨tb_1 h, g⟩
theorem tg_2 {w : Cond} (h : w ∈ tables_1_2) (g : goodWord w = true) : w ∈ lw_g := List.mem_filter.mpr ⟨tb_2 h, g⟩
theorem tg_3 {w : Cond} (h : w ∈ tables_1_3) (g : goodWord w = true) : w ∈ lw_g := List.mem_filter.mpr ⟨tb_3 h, g⟩
theorem tg_4 {w : Cond} (h : w ∈ tables_1_4) (g : goodWord w = true) : w ∈ lw_g := List.mem_filter.mpr ⟨tb_4 h, g⟩
theorem tg_5 {w : Cond} (h : w ∈ tables_1_5) (g : goodWord w = true) : w ∈ lw_g := List.mem_filter.mpr ⟨tb_5 h, g⟩
theorem tg_s {w : Cond} (h : w ∈ k2_sels lw_privs) (g : goodWord w = true) : w ∈ lw_g := List.mem_filter.mpr ⟨tb_s h, g⟩

/-- every method's words here: its code, and all good words of the tables -/
theorem tb_in {c : Cond} {ws : List Cond} (h : ∀ w ∈ ws, w ∈ lw_g) : GoodIn (c :: lw_g) ws := fun w hw => ⟨List.mem_cons_of_mem _ (h w hw), good_of_word (List.mem_filter.mp (h w hw)).2⟩
theorem tb_inL {ws : List Cond} (h : ∀ w ∈ ws, w ∈ lw_g) : GoodIn lw_tbl ws := fun w hw => ⟨(List.mem_filter.mp (h w hw)).1, good_of_word (List.mem_filter.mp (h w hw)).2⟩
theorem tb_Vm {own C : String} {idx : Nat} {y : MethodName} {cd : Cond} (h1 : Cond.methodLink own idx y ∈ lw_g) (h2 : Cond.instanceMethod y ∈ lw_g) (h3 : Cond.selects C y y ∈ lw_g) (h4 : Cond.initialized C ∈ lw_g) (h5 : cd ∈ lw_g) : ∀ w ∈ wsV own idx C y (cd :: lw_g), w ∈ lw_g := by
  intro w hw
  rcases List.mem_append.mp hw with hw | hw
  · simp only [List.mem_cons, List.not_mem_nil, or_false] at hw
    rcases hw with rfl | rfl | rfl | rfl
    · exact h1
    · exact h2
    · exact h3
    · exact h4
  · rcases List.mem_cons.mp hw with rfl | hw
    · exact h5
    · exact hw
theorem tb_Sm {own : String} {idx : Nat} {y : MethodName} {cd : Cond} (h1 : Cond.methodLink own idx y ∈ lw_g) (h2 : Cond.static y ∈ lw_g) (h3 : Cond.initialized y.cls ∈ lw_g) (h5 : cd ∈ lw_g) : ∀ w ∈ va_wsS own idx y (cd :: lw_g), w ∈ lw_g := by
  intro w hw
  rcases List.mem_append.mp hw with hw | hw
  · simp only [List.mem_cons, List.not_mem_nil, or_false] at hw
    rcases hw with rfl | rfl | rfl
    · exact h1
    · exact h2
    · exact h3
  · rcases List.mem_cons.mp hw with rfl | hw
    · exact h5
    · exact hw
theorem tb_Cm {cd : Cond} (h5 : cd ∈ lw_g) : ∀ w ∈ (cd :: lw_g), w ∈ lw_g := by
  intro w hw
  rcases List.mem_cons.mp hw with rfl | hw
  · exact h5
  · exact hw
