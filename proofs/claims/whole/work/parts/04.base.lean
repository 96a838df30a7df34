/-! BASE: contracts in two forms (RO: nothing is written; WR: the world becomes another), rows over natural numbers, bytes -/
abbrev TYS (cy : Nat → ClassId) : List (ClassId × FieldType) := [(cy 0, .byte), (cy 1, .int), (cy 2, .long), (cy 3, .object "java/lang/Object")]
abbrev rmo (f n : Nat) : Room := { frames := f, cells := 0, slots := 0, locals := n }
abbrev rmw (f mc ms n : Nat) : Room := { frames := f, cells := mc, slots := ms, locals := n }
/-- a method that only reads: with the world ws it answers r, and the heap is as it was -/
def RO (l : Launch) (y : MethodName) (bytes : ByteArray) (maxL : Nat) (ret : Option FieldType) (f n : Nat) (av : List Value) (D : va_G) (cy : Nat → ClassId) (ws : va_W) (r : Value) : Prop :=
  Met l y (Cond.code y bytes maxL ret :: lw_g) (rmo f n) (va_Pc av (fun U => va_P D vwCl ws U.heap ∧ va_K D vwCl (TYS cy) U)) (k2_QcV r) 0 0 (fun _ => False)
/-- how a method that writes ends: with u, an answer, a fact and a world -/
def WQ {S : Type} (D : va_G) (A : Nat → Prop) (r : S → Option Value) (ph : S → Prop) (wf : S → va_W) : Array Value → State → Outcome → State → Prop :=
  fun _ st o t => (∃ u : S, o = .returned (r u) ∧ ph u ∧ va_P D vwCl (wf u) t.heap ∧ va_D A (wf u)) ∧ va_F A st t
def WR {S : Type} (l : Launch) (y : MethodName) (bytes : ByteArray) (maxL : Nat) (ret : Option FieldType) (f mc ms n : Nat) (av : List Value) (D : va_G) (cy : Nat → ClassId) (ws : va_W) (r : S → Option Value) (ph : S → Prop) (wf : S → va_W) : Prop :=
  ∀ sz : Nat, Met l y (Cond.code y bytes maxL ret :: lw_g) (rmw f mc ms n) (va_Pc av (fun U => U.heap.size = sz ∧ va_P D vwCl ws U.heap ∧ va_K D vwCl (TYS cy) U ∧ va_D (fun _ => True) ws)) (WQ D (va_A ws sz) r ph wf) mc ms (va_A ws sz)
/-- what the tables say of a method that is called on an object of the class C -/
def YV (C : String) (y : MethodName) (bytes : ByteArray) (maxL : Nat) (ret : Option FieldType) (n : Nat) : Prop :=
  Cond.instanceMethod y ∈ lw_g ∧ Cond.selects C y y ∈ lw_g ∧ Cond.initialized C ∈ lw_g ∧ Cond.code y bytes maxL ret ∈ lw_g ∧ (y.cls = C ∧ y.cls ≠ "java/lang/invoke/MethodHandle" ∧ y.cls ≠ "java/lang/invoke/VarHandle" ∧ (parseMethodDescriptor y.desc).map (fun d => d.parameters.length) = some n)
def YS (y : MethodName) (bytes : ByteArray) (maxL : Nat) (ret : Option FieldType) (n : Nat) : Prop :=
  Cond.static y ∈ lw_g ∧ Cond.initialized y.cls ∈ lw_g ∧ Cond.code y bytes maxL ret ∈ lw_g ∧ (y.cls ≠ "java/lang/invoke/MethodHandle" ∧ y.cls ≠ "java/lang/invoke/VarHandle" ∧ (parseMethodDescriptor y.desc).map (fun d => d.parameters.length) = some n)
def YI (y : MethodName) (bytes : ByteArray) (maxL : Nat) (n : Nat) : Prop :=
  Cond.instanceMethod y ∈ lw_g ∧ Cond.initialized y.cls ∈ lw_g ∧ Cond.code y bytes maxL none ∈ lw_g ∧ y.name = "<init>" ∧ (y.cls ≠ "java/lang/invoke/MethodHandle" ∧ y.cls ≠ "java/lang/invoke/VarHandle" ∧ (parseMethodDescriptor y.desc).map (fun d => d.parameters.length) = some n)
theorem RO.of {l : Launch} {y : MethodName} {bytes : ByteArray} {maxL : Nat} {ret : Option FieldType} {f n : Nat} {av : List Value} {D : va_G} {cy : Nat → ClassId} {ws : va_W} {r : Value} {lv0 : List (Nat × Value)} (hy : plainName y.cls = true) (h0 : lv_args 0 av = lv0) (hn : (lg_sl av).length ≤ maxL)
    (body : ∀ (p : Program) (e : Env) (s : State) (m : MethodId) (below : List Frame) (meth : Method) (c : Code) (ls : Array Slot), CallFix p m c bytes maxL s av.toArray (Cond.code y bytes maxL ret :: lw_g) y.cls → meth.sig.returnType = ret → meth.locks = false → va_P D vwCl ws s.heap → va_K D vwCl (TYS cy) s → lv_has ls maxL lv0 → W p l e (rmo f n) s m av.toArray below meth c s.heap [] 0 0 (MQ below (k2_QcV r) av.toArray s 0 0 (fun _ => False)) (F0 m 0 ls [])) : RO l y bytes maxL ret f n av D cy ws r := by
  refine Met.ofW (cc := bytes) (maxL := maxL) (ret := ret) hy rfl ?_
  intro p e s m args below meth c s₁ B hml hv
  obtain ⟨rfl, hP, hK⟩ := hv
  rw [lg_entry_eq]
  exact body p e s m below meth c _ ⟨B.exec, B.bytes, hml, findClass_of_methodNamed B.named, atoms_spec (ws := Cond.code y bytes maxL ret :: lw_g) B.pre⟩ B.returns B.notSynchronized hP hK (h0 ▸ lv_entry av hn)
theorem WR.of {S : Type} {l : Launch} {y : MethodName} {bytes : ByteArray} {maxL : Nat} {ret : Option FieldType} {f mc ms n : Nat} {av : List Value} {D : va_G} {cy : Nat → ClassId} {ws : va_W} {r : S → Option Value} {ph : S → Prop} {wf : S → va_W} {lv0 : List (Nat × Value)} (hy : plainName y.cls = true) (h0 : lv_args 0 av = lv0) (hn : (lg_sl av).length ≤ maxL)
    (body : ∀ (p : Program) (e : Env) (s : State) (m : MethodId) (below : List Frame) (meth : Method) (c : Code) (ls : Array Slot) (A : Nat → Prop), CallFix p m c bytes maxL s av.toArray (Cond.code y bytes maxL ret :: lw_g) y.cls → meth.sig.returnType = ret → meth.locks = false → meth.name = y.name → va_P D vwCl ws s.heap → va_K D vwCl (TYS cy) s → va_D A ws → va_S A s.heap s.heap [] → (∀ q : Nat, s.heap.size ≤ q → A q) → lv_has ls maxL lv0 → W p l e (rmw f mc ms n) s m av.toArray below meth c s.heap [] 0 0 (MQ below (WQ D A r ph wf) av.toArray s mc ms A) (F0 m 0 ls [])) : WR l y bytes maxL ret f mc ms n av D cy ws r ph wf := by
  intro sz
  refine Met.ofW (cc := bytes) (maxL := maxL) (ret := ret) hy rfl ?_
  intro p e s m args below meth c s₁ B hml hv
  obtain ⟨rfl, hsz, hP, hK, hD⟩ := hv
  subst hsz
  rw [lg_entry_eq]
  exact body p e s m below meth c _ (va_A ws s.heap.size) ⟨B.exec, B.bytes, hml, findClass_of_methodNamed B.named, atoms_spec (ws := Cond.code y bytes maxL ret :: lw_g) B.pre⟩ B.returns B.notSynchronized (name_of_methodNamed B.named B.method).1 hP hK hD.self va_S.rf (fun q h => Or.inr h) (h0 ▸ lv_entry av hn)
section BS
variable {p : Program} {l : Launch} {e : Env} {R : Room} {s : State} {m : MethodId} {args : Array Value} {below : List Frame} {meth : Method} {c : Code} {H : Heap} {locs : List Loc} {cells slots : Nat} {Q : State → Prop}
variable {cc : ByteArray} {pc : Nat} {ls : Array Slot} {rest : List Value} {D : va_G} {cy : Nat → ClassId} {ws : va_W} {A : Nat → Prop} {H0 : Heap}
variable {y : MethodName} {bytes : ByteArray} {maxL nL n index f lo mc ms : Nat} {ret : Option FieldType} {own C : String} {b : Addr} {As st : List Value} {cd : Cond} {r : Value}
/-! calls of what only reads -/
theorem pre_ro {av : List Value} (hK : va_K D vwCl (TYS cy) s) (hP : va_P D vwCl ws H) : PreS s H (va_Pc av (fun U => va_P D vwCl ws U.heap ∧ va_K D vwCl (TYS cy) U)) av :=
  ⟨fun a U g mk q => ⟨q.1, q.2.1, va_K.moved (u := U) (U := U.calling g mk a) (Vm.Alike.refl U.vm) q.2.2⟩, fun U hU hW => ⟨rfl, by rw [hU]; exact hP, va_K.moved hW.alike hK⟩⟩
theorem ro_V (S : CallFix p m c cc nL s args (cd :: lw_g) own) (hM : RO l y bytes maxL ret f lo (.ref b :: As) D cy ws r) (hl : Cond.methodLink own index y ∈ lw_g) (hy : YV C y bytes maxL ret n) (hR : f + 1 ≤ R.frames ∧ 8 + (maxL + 11) + lo ≤ R.locals) (hK : va_K D vwCl (TYS cy) s) (hP : va_P D vwCl ws H)
    (hr : ∃ cell : Cell, H[b]? = some cell ∧ cell.vm.isStatics = false ∧ s.vm.findClass C = some cell.cls) (hn : As.length = n) (hsz : ls.size = nL) (hst : st = As.reverse ++ .ref b :: rest) (hw : (rest.map fun v => v.category).sum ≤ 8) (hdg : decode cc pc = .ok (.invokevirtual index, 3)) (hcs : cells ≤ R.cells ∧ slots ≤ R.slots)
    (kk : W p l e R s m args below meth c H locs cells slots Q (F0 m (pc + 3) ls (r :: rest))) : W p l e R s m args below meth c H locs cells slots Q (F0 m pc ls st) :=
  W.callV (W.runV (C := C) S hM (cwV n S.2.2.2.2 (tb_in (tb_Vm hl hy.1 hy.2.1 hy.2.2.1 hy.2.2.2.1)) rfl rfl rfl hy.2.2.2.2 hR) ⟨(pre_ro hK hP).1, hr, (pre_ro hK hP).2⟩ rfl hn hsz hst (lv_room hw) hdg hcs) kk
theorem ro_S (S : CallFix p m c cc nL s args (cd :: lw_g) own) (hM : RO l y bytes maxL ret f lo As D cy ws r) (hl : Cond.methodLink own index y ∈ lw_g) (hy : YS y bytes maxL ret n) (hR : f + 1 ≤ R.frames ∧ 8 + (maxL + 11) + lo ≤ R.locals) (hK : va_K D vwCl (TYS cy) s) (hP : va_P D vwCl ws H)
    (hn : As.length = n) (hsz : ls.size = nL) (hst : st = As.reverse ++ rest) (hw : (rest.map fun v => v.category).sum ≤ 8) (hdg : decode cc pc = .ok (.invokestatic index, 3)) (hcs : cells ≤ R.cells ∧ slots ≤ R.slots)
    (kk : W p l e R s m args below meth c H locs cells slots Q (F0 m (pc + 3) ls (r :: rest))) : W p l e R s m args below meth c H locs cells slots Q (F0 m pc ls st) :=
  W.callV (W.runS S hM (va_cwS n S.2.2.2.2 (tb_in (tb_Sm hl hy.1 hy.2.1 hy.2.2.1)) rfl rfl rfl hy.2.2.2 hR) (pre_ro hK hP) rfl hn hsz hst (lv_room hw) hdg hcs) kk
/-! calls of what writes -/
theorem pre_wr {av : List Value} {sz : Nat} (hsz : H.size = sz) (hK : va_K D vwCl (TYS cy) s) (hP : va_P D vwCl ws H) (hD : va_D A ws) : PreS s H (va_Pc av (fun U => U.heap.size = sz ∧ va_P D vwCl ws U.heap ∧ va_K D vwCl (TYS cy) U ∧ va_D (fun _ => True) ws)) av :=
  ⟨fun a U g mk q => ⟨q.1, q.2.1, q.2.2.1, va_K.moved (u := U) (U := U.calling g mk a) (Vm.Alike.refl U.vm) q.2.2.2.1, q.2.2.2.2⟩, fun U hU hW => ⟨rfl, by rw [hU]; exact hsz, by rw [hU]; exact hP, va_K.moved hW.alike hK, hD.weaken (fun _ _ _ _ => trivial)⟩⟩
theorem wr_free (hD : va_D A ws) (hS : va_S A H0 H locs) (hA : ∀ q : Nat, H0.size ≤ q → A q) : ∀ q, va_A ws H.size q → A q := fun q h => h.elim (fun ⟨k, e, he⟩ => hD.2 k (q, e) he) (fun h => hA q (Nat.le_trans hS.1 h))
theorem wr_D {A1 : Nat → Prop} {w : va_W} (h : va_D A1 w) (hA : ∀ q, A1 q → A q) : va_D A w := ⟨h.1, fun k q hk => hA _ (h.2 k q hk)⟩
theorem wr_run {S : Type} {a : Array Value} {rr : S → Option Value} {ph : S → Prop} {wf : S → va_W} (hr : va_Run p l e R s m args below meth c H locs cells slots mc ms (F0 m pc ls st) rest (WQ D (va_A ws H.size) rr ph wf a) (va_A ws H.size)) (hS : va_S A H0 H locs) (hF : ∀ q, va_A ws H.size q → A q)
    (kk : ∀ (u : S) (H1 : Heap) (locs1 : List Loc), ph u → va_P D vwCl (wf u) H1 → va_D A (wf u) → va_S A H0 H1 locs1 → W p l e R s m args below meth c H1 locs1 (cells + mc) (slots + ms) Q (F0 m (pc + 3) ls ((rr u).toList ++ rest))) : W p l e R s m args below meth c H locs cells slots Q (F0 m pc ls st) := by
  intro T hT X
  obtain ⟨v, st₀, t, T', L, h0, X', hL, e1, e2, ⟨⟨u, hv, hp, hb, hd⟩, hz, hk⟩, stp⟩ := hr T hT X
  cases hv
  rw [h0] at hz hk
  obtain ⟨t2, a1, b1⟩ := kk u T'.heap (locs ++ L) hp (by rw [e1]; exact hb) (wr_D hd hF)
    ⟨Nat.le_trans hS.1 (by rw [e1]; exact hz), fun q h1 h2 => by rw [e1, hk q (Nat.lt_of_lt_of_le h1 hS.1) (fun z => h2 (hF q z))]; exact hS.2.1 q h1 h2, fun q hq => by
      rcases List.mem_append.mp hq with h | h
      · exact hS.2.2 q h
      · exact hF _ (hL q h)⟩ T' rfl X'
  exact ⟨t2, stp t2 a1, b1⟩
theorem wr_V {S0 : Type} {rr : S0 → Option Value} {ph : S0 → Prop} {wf : S0 → va_W} (S : CallFix p m c cc nL s args (cd :: lw_g) own) (hM : WR l y bytes maxL ret f mc ms lo (.ref b :: As) D cy ws rr ph wf) (hl : Cond.methodLink own index y ∈ lw_g) (hy : YV C y bytes maxL ret n) (hR : f + 1 ≤ R.frames ∧ 8 + (maxL + 11) + lo ≤ R.locals) (hK : va_K D vwCl (TYS cy) s) (hP : va_P D vwCl ws H) (hD : va_D A ws) (hS : va_S A H0 H locs) (hA : ∀ q : Nat, H0.size ≤ q → A q)
    (hr : ∃ cell : Cell, H[b]? = some cell ∧ cell.vm.isStatics = false ∧ s.vm.findClass C = some cell.cls) (hn : As.length = n) (hsz : ls.size = nL) (hst : st = As.reverse ++ .ref b :: rest) (hw : (rest.map fun v => v.category).sum ≤ 8) (hdg : decode cc pc = .ok (.invokevirtual index, 3)) (hcs : cells + mc ≤ R.cells ∧ slots + ms ≤ R.slots)
    (kk : ∀ (u : S0) (H1 : Heap) (locs1 : List Loc), ph u → va_P D vwCl (wf u) H1 → va_D A (wf u) → va_S A H0 H1 locs1 → W p l e R s m args below meth c H1 locs1 (cells + mc) (slots + ms) Q (F0 m (pc + 3) ls ((rr u).toList ++ rest))) : W p l e R s m args below meth c H locs cells slots Q (F0 m pc ls st) :=
  wr_run (va_runV (C := C) S (hM H.size) (cwV n S.2.2.2.2 (tb_in (tb_Vm hl hy.1 hy.2.1 hy.2.2.1 hy.2.2.2.1)) rfl rfl rfl hy.2.2.2.2 hR) ⟨(pre_wr rfl hK hP hD).1, hr, (pre_wr rfl hK hP hD).2⟩ rfl hn hsz hst (lv_room hw) hdg hcs) hS (wr_free hD hS hA) kk
theorem wr_S {S0 : Type} {rr : S0 → Option Value} {ph : S0 → Prop} {wf : S0 → va_W} (S : CallFix p m c cc nL s args (cd :: lw_g) own) (hM : WR l y bytes maxL ret f mc ms lo As D cy ws rr ph wf) (hl : Cond.methodLink own index y ∈ lw_g) (hy : YS y bytes maxL ret n) (hR : f + 1 ≤ R.frames ∧ 8 + (maxL + 11) + lo ≤ R.locals) (hK : va_K D vwCl (TYS cy) s) (hP : va_P D vwCl ws H) (hD : va_D A ws) (hS : va_S A H0 H locs) (hA : ∀ q : Nat, H0.size ≤ q → A q)
    (hn : As.length = n) (hsz : ls.size = nL) (hst : st = As.reverse ++ rest) (hw : (rest.map fun v => v.category).sum ≤ 8) (hdg : decode cc pc = .ok (.invokestatic index, 3)) (hcs : cells + mc ≤ R.cells ∧ slots + ms ≤ R.slots)
    (kk : ∀ (u : S0) (H1 : Heap) (locs1 : List Loc), ph u → va_P D vwCl (wf u) H1 → va_D A (wf u) → va_S A H0 H1 locs1 → W p l e R s m args below meth c H1 locs1 (cells + mc) (slots + ms) Q (F0 m (pc + 3) ls ((rr u).toList ++ rest))) : W p l e R s m args below meth c H locs cells slots Q (F0 m pc ls st) :=
  wr_run (va_runS S (hM H.size) (va_cwS n S.2.2.2.2 (tb_in (tb_Sm hl hy.1 hy.2.1 hy.2.2.1)) rfl rfl rfl hy.2.2.2 hR) (pre_wr rfl hK hP hD) rfl hn hsz hst (lv_room hw) hdg hcs) hS (wr_free hD hS hA) kk
theorem wr_I {S0 : Type} {rr : S0 → Option Value} {ph : S0 → Prop} {wf : S0 → va_W} (S : CallFix p m c cc nL s args (cd :: lw_g) own) (hM : WR l y bytes maxL none f mc ms lo (.ref b :: As) D cy ws rr ph wf) (hl : Cond.methodLink own index y ∈ lw_g) (hy : YI y bytes maxL n) (hR : f + 1 ≤ R.frames ∧ 8 + (maxL + 11) + lo ≤ R.locals) (hK : va_K D vwCl (TYS cy) s) (hP : va_P D vwCl ws H) (hD : va_D A ws) (hS : va_S A H0 H locs) (hA : ∀ q : Nat, H0.size ≤ q → A q)
    (hn : As.length = n) (hsz : ls.size = nL) (hst : st = As.reverse ++ .ref b :: rest) (hw : (rest.map fun v => v.category).sum ≤ 8) (hdg : decode cc pc = .ok (.invokespecial index, 3)) (hcs : cells + mc ≤ R.cells ∧ slots + ms ≤ R.slots)
    (kk : ∀ (u : S0) (H1 : Heap) (locs1 : List Loc), ph u → va_P D vwCl (wf u) H1 → va_D A (wf u) → va_S A H0 H1 locs1 → W p l e R s m args below meth c H1 locs1 (cells + mc) (slots + ms) Q (F0 m (pc + 3) ls ((rr u).toList ++ rest))) : W p l e R s m args below meth c H locs cells slots Q (F0 m pc ls st) :=
  wr_run (va_runI S (hM H.size) (cwI n S.2.2.2.2 (tb_in (tb_Cm hy.2.2.1)) rfl rfl rfl (S.2.2.2.2 _ (List.mem_cons_of_mem _ hy.2.1)) (S.2.2.2.2 _ (List.mem_cons_of_mem _ hl)) (S.2.2.2.2 _ (List.mem_cons_of_mem _ hy.1)) hy.2.2.2.1 hy.2.2.2.2 hR) (pre_wr rfl hK hP hD) rfl hn hsz hst (lv_room hw) hdg hcs) hS (wr_free hD hS hA) kk
/-! ends -/
theorem ro_i {v X : Int32} (hx : p.tables.exec = Jvm.exec) (hb : c.code = cc) (hr : meth.sig.returnType = some .int) (hlk : meth.locks = false) (hv : v = X) (hdg : decode cc pc = .ok (.ireturn, 1)) : W p l e R s m args below meth c s.heap [] 0 0 (MQ below (k2_QcV (.int X)) args s 0 0 (fun _ => False)) (F0 m pc ls [.int v]) :=
  W.iret hx hb hr (fun t ht _ => ⟨by rw [hv], ht⟩) (fun q h => absurd h List.not_mem_nil) hdg hlk
theorem ro_l {v X : Int64} (hx : p.tables.exec = Jvm.exec) (hb : c.code = cc) (hr : meth.sig.returnType = some .long) (hlk : meth.locks = false) (hv : v = X) (hdg : decode cc pc = .ok (.lreturn, 1)) : W p l e R s m args below meth c s.heap [] 0 0 (MQ below (k2_QcV (.long X)) args s 0 0 (fun _ => False)) (F0 m pc ls [.long v]) :=
  W.lret hx hb hr (fun t ht _ => ⟨by rw [hv], ht⟩) (fun q h => absurd h List.not_mem_nil) hdg hlk
def bI (b : Bool) : Int32 := if b = true then nI 1 else nI 0
theorem bI_t {b : Bool} (h : b = true) : nI 1 = bI b := by rw [bI, if_pos h]
theorem bI_f {b : Bool} (h : b = false) : nI 0 = bI b := by rw [bI, h]; rfl
theorem bI_nar (b : Bool) : narrow .boolean (.int (bI b)) = .int (bI b) := by cases b <;> decide
theorem ro_z {v : Int32} {X : Bool} (hx : p.tables.exec = Jvm.exec) (hb : c.code = cc) (hr : meth.sig.returnType = some .boolean) (hlk : meth.locks = false) (hv : v = bI X) (hdg : decode cc pc = .ok (.ireturn, 1)) : W p l e R s m args below meth c s.heap [] 0 0 (MQ below (k2_QcV (.int (bI X))) args s 0 0 (fun _ => False)) (F0 m pc ls [.int v]) := by
  subst hv
  exact W.zret hx hb hr (bI_nar X) (fun t ht _ => ⟨rfl, ht⟩) (fun q h => absurd h List.not_mem_nil) hdg hlk
theorem wr_v {S : Type} {rr : S → Option Value} {ph : S → Prop} {wf : S → va_W} (hx : p.tables.exec = Jvm.exec) (hb : c.code = cc) (hr : meth.sig.returnType = none) (hlk : meth.locks = false) (u : S) (hu : rr u = none) (hp : ph u) (hP : va_P D vwCl (wf u) H) (hD : va_D A (wf u)) (hS : va_S A s.heap H locs) (hdg : decode cc pc = .ok (.return_, 1)) : W p l e R s m args below meth c H locs cells slots (MQ below (WQ D A rr ph wf) args s cells slots A) (F0 m pc ls []) :=
  W.vret hx hb hr (fun t ht _ => ⟨⟨u, by rw [hu], hp, by rw [ht]; exact hP, hD⟩, hS.F ht⟩) hS.2.2 hdg hlk
theorem wr_i {S : Type} {v : Int32} {rr : S → Option Value} {ph : S → Prop} {wf : S → va_W} (hx : p.tables.exec = Jvm.exec) (hb : c.code = cc) (hr : meth.sig.returnType = some .int) (hlk : meth.locks = false) (u : S) (hu : rr u = some (.int v)) (hp : ph u) (hP : va_P D vwCl (wf u) H) (hD : va_D A (wf u)) (hS : va_S A s.heap H locs) (hdg : decode cc pc = .ok (.ireturn, 1)) : W p l e R s m args below meth c H locs cells slots (MQ below (WQ D A rr ph wf) args s cells slots A) (F0 m pc ls [.int v]) :=
  W.iret hx hb hr (fun t ht _ => ⟨⟨u, by rw [hu], hp, by rw [ht]; exact hP, hD⟩, hS.F ht⟩) hS.2.2 hdg hlk
theorem wr_z {S : Type} {v : Bool} {rr : S → Option Value} {ph : S → Prop} {wf : S → va_W} (hx : p.tables.exec = Jvm.exec) (hb : c.code = cc) (hr : meth.sig.returnType = some .boolean) (hlk : meth.locks = false) (u : S) (hu : rr u = some (.int (bI v))) (hp : ph u) (hP : va_P D vwCl (wf u) H) (hD : va_D A (wf u)) (hS : va_S A s.heap H locs) (hdg : decode cc pc = .ok (.ireturn, 1)) : W p l e R s m args below meth c H locs cells slots (MQ below (WQ D A rr ph wf) args s cells slots A) (F0 m pc ls [.int (bI v)]) :=
  W.zret hx hb hr (bI_nar v) (fun t ht _ => ⟨⟨u, by rw [hu], hp, by rw [ht]; exact hP, hD⟩, hS.F ht⟩) hS.2.2 hdg hlk
end BS
