def R_law : String := "TransitGateLaw"
def lw_P (b : Addr) (xs : List Int32) (args : Array Value) (s : State) : Prop := args = #[.ref b] ∧ s.IntsAt b xs ∧ xs.length ≤ 3072 ∧ (Jvm.Cond.and given_1 narrow_1).before args s = true
def lw_Q (_ : Array Value) (s : State) (o : Outcome) (t : State) : Prop := o = .returned (some (.int 1)) ∧ Framed s o t [] 600000 7302249
def lw_Z (below : List Frame) (a : Array Value) (s : State) : State → Prop := fun t => ∃ o, t.status = .running ∧ Ended t below o ∧ lw_Q a s o t
/-- the law's own end, with 1 on the stack, nothing written that was there before, its room as the claim has it -/
theorem lw_ret {p : Program} {l : Launch} {e : Env} {s : State} {m : MethodId} {below : List Frame} {meth : Method} {c : Code} {b : Nat} (hx : p.tables.exec = Jvm.exec) (hb : c.code = code) (hr : meth.sig.returnType = ret) (hlocks : meth.locks = false) {pc : Nat} {H : Heap} {ls : Array Slot} (hdg : decode code pc = .ok (.ireturn, 1)) : W p l e room_1 s m #[Value.ref b] below meth c H [] 600000 7302249 (lw_Z below #[Value.ref b] s) (F0 m pc ls [.int 1]) := by
  intro T hT X
  obtain ⟨fs, hret, hrun, hended, hW, hframe⟩ := X.leave (v := some (.int 1)) (hlocks := hlocks) (fun h => by rw [hr] at h; cases h)
  have hmeth' : T.vm.method? m = some meth := X.method'
  refine ⟨T.setFrames fs, ?_, .returned (some (.int 1)), hrun, hended, rfl, ⟨_, rfl⟩, hW, hframe⟩
  jvm_step X.here [X.here.top, hx, hb, hdg, hmeth', hr, ret, narrow_b1]
  (try refine ⟨rfl, ?_⟩); (try refine ⟨rfl, ?_⟩)
  first | (intro acts; rw [hret _ acts rfl rfl rfl]) | rw [hret _ _ rfl rfl rfl]
  exact Steps.refl _
/-- what holds at the law's entry: the machine, the code, the tables' words (any of lw_tbl by 'hts w (by decide +kernel)'), the script of L ints xs at the cell b, what the Statement gives of the start (any of its parts by flat_of_before) -/
def lw_At (p : Program) (s : State) (m : MethodId) (meth : Method) (c : Code) (b L : Nat) (xs : Nat → Int32) : Prop :=
  p.tables.exec = Jvm.exec ∧ c.code = code ∧ meth.sig.returnType = ret ∧ c.maxLocals = 4 ∧ s.vm.findClass R_law = some m.cls ∧ (∀ w ∈ lw_tbl, w.before #[Value.ref b] s = true) ∧ va_X b L xs s s.heap ∧ b < s.heap.size ∧ meth.locks = false ∧ (Jvm.Cond.and given_1 narrow_1).before #[Value.ref b] s = true
set_option maxRecDepth 100000 in
theorem start_K {s : State} {args : Array Value} (ht : ∀ w ∈ lw_g, w.before args s = true) (hO : (Cond.arrayOver (.object "java/lang/Object")).before args s = true) : ∃ (D : va_G) (cy : Nat → ClassId), va_K D vwCl (TYS cy) s := by
  obtain ⟨c0, i0, k0⟩ := u_known (C := RJx4a65c) (T := TJx4a65c) (N := 3) (n := 3) ht iFJx4a65c (ht _ kw1_88)
  obtain ⟨c1, i1, k1⟩ := u_known (C := RX0) (T := TX0) (N := 6) (n := 6) ht iFX0 (ht _ kw2_228)
  obtain ⟨c2, i2, k2⟩ := u_known (C := RX1) (T := TX1) (N := 2) (n := 2) ht iFX1 (ht _ kw1_32)
  obtain ⟨c3, i3, k3⟩ := u_known (C := RX2) (T := TX2) (N := 6) (n := 6) ht iFX2 (ht _ kw2_112)
  obtain ⟨c4, i4, k4⟩ := u_known (C := RX5) (T := TX5) (N := 2) (n := 2) ht iFX5 (ht _ kw1_68)
  obtain ⟨c5, i5, k5⟩ := u_known (C := RX7) (T := TX7) (N := 5) (n := 5) ht iFX7 (ht _ kw2_192)
  obtain ⟨c6, i6, k6⟩ := u_known (C := RX8) (T := TX8) (N := 4) (n := 4) ht iFX8 (ht _ kw1_49)
  obtain ⟨c7, i7, k7⟩ := u_known (C := RX10) (T := TX10) (N := 3) (n := 3) ht iFX10 (ht _ kw1_82)
  obtain ⟨c8, i8, k8⟩ := u_known (C := RX11) (T := TX11) (N := 8) (n := 8) ht iFX11 (ht _ kw1_24)
  obtain ⟨c9, i9, k9⟩ := u_known (C := RX12) (T := TX12) (N := 28) (n := 28) ht iFX12 (ht _ kw4_105)
  obtain ⟨y0, ya0, yb0, yc0, yd0, ye0⟩ := Cond.arrayClass_spec (ht (Cond.arrayClass .byte) kw1_47)
  obtain ⟨y1, ya1, yb1, yc1, yd1, ye1⟩ := Cond.arrayClass_spec (ht (Cond.arrayClass .int) kw1_80)
  obtain ⟨y2, ya2, yb2, yc2, yd2, ye2⟩ := Cond.arrayClass_spec (ht (Cond.arrayClass .long) kw4_195)
  obtain ⟨ya3, y3, yb3, yg3, -, yd3, ye3, yc3⟩ := Cond.arrayOver_spec hO
  refine ⟨(fun n => [c0, c1, c2, c3, c4, c5, c6, c7, c8, c9].getD n c0, fun n => [i0, i1, i2, i3, i4, i5, i6, i7, i8, i9].getD n i0), fun n => [y0, y1, y2, y3].getD n y0, fun c q hq => ?_, fun k q hq => ?_⟩
  · match c, hq with
    | 0, hq => cases hq; exact k0
    | 1, hq => cases hq; exact k1
    | 2, hq => cases hq; exact k2
    | 3, hq => cases hq; exact k3
    | 4, hq => cases hq; exact k4
    | 5, hq => cases hq; exact k5
    | 6, hq => cases hq; exact k6
    | 7, hq => cases hq; exact k7
    | 8, hq => cases hq; exact k8
    | 9, hq => cases hq; exact k9
    | n + 10, hq => cases hq
  · match k, hq with
    | 0, hq => cases hq; exact ⟨fun n z => ⟨fun k h => (by cases h), ya0, yd0, yb0, ye0⟩, yc0⟩
    | 1, hq => cases hq; exact ⟨fun n z => ⟨fun k h => (by cases h), ya1, yd1, yb1, ye1⟩, yc1⟩
    | 2, hq => cases hq; exact ⟨fun n z => ⟨fun k h => (by cases h), ya2, yd2, yb2, ye2⟩, yc2⟩
    | 3, hq => cases hq; exact ⟨fun n z => ⟨fun k h => (by cases h), yb3, yd3, ya3, ye3⟩, yb3, ya3, yd3, ye3, yg3, yc3⟩
    | n + 4, hq => cases hq
theorem start_E {s : State} {args : Array Value} (hts : ∀ w ∈ lw_tbl, w.before args s = true) (ht : ∀ w ∈ lw_g, w.before args s = true) (hg : (Jvm.Cond.and given_1 narrow_1).before args s = true) : ∃ e0 : Nat × Nat, EX e0 (lwA s) s := by
  have hs := flat_of_before _ hg
  have hA : ∀ a : Nat, a < s.heap.size → ¬ lwA s a := fun a h => Nat.not_le_of_lt h
  obtain ⟨mi, hmi⟩ := va_Mi.of (C := "[Ljava/lang/Object;") (hs _ (by decide +kernel))
  obtain ⟨t, ht0, hT⟩ := va_Tof (tm := .static "java/util/ArrayList" "DEFAULTCAPACITY_EMPTY_ELEMENTDATA" "[Ljava/lang/Object;") (ty := .object "java/lang/Object") (N := 0) (f := fun _ => .null) (A := lwA s) (by decide) (hs _ (by decide +kernel)) (va_eqt (z := 0) (hs _ (by decide +kernel))) (fun j hj => absurd hj (Nat.not_lt_zero _)) hA
  exact ⟨(t, mi), ⟨va_Nw.of rfl (hts (.castable "TransitGate$Binding" "java/lang/Object") (tb_5 (List.mem_of_getElem? (i := 216) (by decide +kernel)))), va_Nw.of rfl (hts (.castable "TransitGate$Session" "java/lang/Object") (tb_5 (List.mem_of_getElem? (i := 217) (by decide +kernel)))), va_AO.of (hts (.arrayOver (.object "java/lang/Object")) (tb_3 (List.mem_of_getElem? (i := 72) (by decide +kernel)))), hmi, va_Dc.of (hts _ (tb_5 (List.mem_of_getElem? (i := 220) (by decide +kernel)))), va_Nw.of rfl (hts (.methodLinkNest "TransitGate" 23 yX8_init "TransitGate") (tb_1 (List.mem_of_getElem? (i := 50) (by decide +kernel))))⟩, va_Zref (hts (.laysStatic "java/util/ArrayList" "DEFAULTCAPACITY_EMPTY_ELEMENTDATA" "[Ljava/lang/Object;") (tb_1 (List.mem_of_getElem? (i := 100) (by decide +kernel)))) (ht _ kw1_9) ht0 hA, hT⟩
theorem J.start {cy : Nat → ClassId} {ad : Nat → Nat} {mo : Nat} {am : Nat → Nat} {e0 : Nat × Nat} : J cy ad mo am e0 0 (cW cy ad e0.1 e0.1 (nI 0) (nI 0) 0 0 0 0 0 0 0 0 0 0 1 (fun _ => 0) (fun _ => 0) (fun _ => 0) (fun _ => 0) ++ mW cy mo am 0 0 0 0 0 0 0 0 0 0 0 1 (fun _ => 0) (fun _ => 0) (fun _ => 0) (fun _ => 0) (fun _ => 0) (fun _ => 0) (fun _ => 0) (fun _ => 0) (fun _ => 0) (fun _ => 0) (fun _ => 0) (fun _ => 0) (fun _ => 0) (fun _ => 0) (fun _ => 0) (fun _ => 0)) := by
  have h := J.mk (cy := cy) (ad := ad) (mo := mo) (am := am) (e0 := e0) (N := 0) (eb := e0.1) (es := e0.1) (tp := 0) (os := 0) (sz := 0) (bits := 0) (F := 0) (G := 0) (u := 0) (nb := 0) (ns := 0) (T := 0) (M := 0) (id := 1) (mb := nI 0) (mz := nI 0) (ft := fun _ => 0) (fo := fun _ => 0) (f2 := fun _ => 0) (o2 := fun _ => 0) (fi := fun _ => 0) (g := fun _ => 0) (dq := fun _ => 0) (ba := fun _ => 0) (sa := fun _ => 0) (pt := fun _ => 0) (ih := fun _ => 0) (il := fun _ => 0) (ip := fun _ => 0) (pn := fun _ => 0) (op := fun _ => 0) (so := fun _ => 0) (fa := fun _ => 0) (fp := fun _ => 0) (st := fun _ => 0) (en := fun _ => 0) (dr := fun _ => 0) (dy := []) (by decide) (by decide) (by decide) (Or.inl ⟨rfl, rfl, rfl⟩) (by decide) (by decide) (by decide) (by decide) ⟨⟨0, fun _ => none, Or.inl ⟨rfl, rfl⟩, by decide, fun i hi => absurd hi (Nat.not_lt_zero _), fun i j hi => absurd hi (Nat.not_lt_zero _)⟩, ⟨0, fun _ => none, Or.inl ⟨rfl, rfl⟩, by decide, fun i hi => absurd hi (Nat.not_lt_zero _), fun i j hi => absurd hi (Nat.not_lt_zero _)⟩, fun _ => rfl⟩ ⟨fun _ => by show (0 : Nat) < _; decide, fun _ => by show (0 : Nat) < _; decide, fun _ => by show (0 : Nat) < _; decide, fun _ => by show (0 : Nat) < _; decide, fun _ => by show (0 : Nat) < _; decide, fun _ => by show (0 : Nat) < _; decide, fun _ => by show (0 : Nat) < _; decide, fun _ => by show (0 : Nat) < _; decide, fun _ => by show (0 : Nat) < _; decide, fun _ => Nat.zero_le _, fun _ => by show (0 : Nat) < _; decide, fun b hb => absurd hb (Nat.not_lt_zero _), fun b hb => absurd hb (Nat.not_lt_zero _), fun b hb => absurd hb (Nat.not_lt_zero _)⟩ (fun i hi => rfl) (fun i hi => rfl) (fun k hk => rfl)
  rw [List.append_nil] at h
  exact h
set_option maxHeartbeats 4000000 in
set_option maxRecDepth 100000 in
theorem law_loop {p : Program} {l : Launch} {e : Env} {s : State} {m : MethodId} {below : List Frame} {meth : Method} {c : Code} {b L : Nat} {xs : Nat → Int32} {mo : Nat} {cd : Cond} {D : va_G} {cy : Nat → ClassId} {e0 : Nat × Nat} {ad am : Nat → Nat} (S : CallFix p m c code 4 s #[Value.ref b] (cd :: lw_g) "TransitGateLaw") (hr : meth.sig.returnType = ret) (hlk : meth.locks = false) (hX : va_X b L xs s s.heap) (hbl : b < s.heap.size) (hL : L ≤ 3072) (hK : va_K D vwCl (TYS cy) s) (hE : EX e0 (lwA s) s) :
    ∀ (fu k i : Nat) (ws : va_W) (H : Heap) (locs : List Loc) (cells slots : Nat) (ls : Array Slot), 513 - k < fu → i = 6 * k → i ≤ L → J cy ad mo am e0 k ws → va_P D vwCl ws H → va_D (lwA s) ws → va_S (lwA s) s.heap H locs → cells ≤ 100 + 10 * k → slots ≤ 20000 + 1234 * k → lv_has ls 4 (lwL b (ad 0) mo i) → W p l e room_1 s m #[Value.ref b] below meth c H locs cells slots (lw_Z below #[Value.ref b] s) (F0 m 18 ls []) := by
  intro fu
  induction fu with
  | zero => intro k i ws H locs cells slots ls hfu; omega
  | succ fu ihn =>
    intro k i ws H locs cells slots ls hfu hi hk hJ hP hD hS hc hs hl
    have hx := S.1
    have hb := S.2.1
    have hend : ∀ (ls : Array Slot), W p l e room_1 s m #[Value.ref b] below meth c H locs cells slots (lw_Z below #[Value.ref b] s) (F0 m 780 ls []) := by
      intro ls
      refine lv_iconst (v := 1) hx hb dL_law_780 (by decide) ?_
      refine va_forget (fun q hq => hS.2.2 q hq) ?_
      refine W.widen (k := 600000) (n := 7302249) (by omega) (by omega) ?_
      exact lw_ret hx hb hr hlk dL_law_781
    refine lv_iload_n hx hb dL_law_18 rfl (lv_at hl 0 rfl) ?_
    refine lv_aload_n hx hb dL_law_19 rfl (lv_at hl 3 rfl) ?_
    refine va_slen (A := lwA s) hx hb hX hbl (Nat.not_le_of_lt hbl) hS dL_law_20 ?_
    refine nv_bipush (k := 6) hx hb dL_law_21 (by decide) ?_
    by_cases h6 : L < 6
    · refine lv_isub hx hb dL_law_23 ?_
      have hi0 : i = 0 := by omega
      subst hi0
      refine lv_icmp_gt (tgt := 780) hx hb dL_law_24 (by decide) (fun _ => hend ls) (fun h => absurd ?_ h)
      rcases (show L = 0 ∨ L = 1 ∨ L = 2 ∨ L = 3 ∨ L = 4 ∨ L = 5 by omega) with rfl | rfl | rfl | rfl | rfl | rfl <;> decide
    refine nv_isub (a := L) hx hb (by omega) dL_law_23 ?_
    refine nv_icmp_gt (tgt := 780) hx hb dL_law_24 (by decide) (by omega) (by omega) (fun _ => hend ls) (fun hle => ?_)
    refine lv_aload_n hx hb dL_law_27 rfl (lv_at hl 3 rfl) ?_
    refine lv_iload_n hx hb dL_law_28 rfl (lv_at hl 0 rfl) ?_
    refine va_sld (A := lwA s) hx hb hX hbl (Nat.not_le_of_lt hbl) hS (vp_in_nI (show i < L by omega) (by omega)) dL_law_29 ?_
    rw [nI_clamp (by omega)]
    refine nv_bipush (k := 31) hx hb dL_law_30 (by decide) ?_
    refine lv_iand hx hb dL_law_32 ?_
    obtain ⟨q, hq, eq9⟩ := and31 (xs i)
    rw [eq9]
    have kk : ∀ (w : va_W) (H1 : Heap) (locs1 : List Loc) (c1 s1 : Nat), c1 ≤ cells + 10 → s1 ≤ slots + 1234 → J cy ad mo am e0 (k + 1) w → va_P D vwCl w H1 → va_D (lwA s) w → va_S (lwA s) s.heap H1 locs1 → W p l e room_1 s m #[Value.ref b] below meth c H1 locs1 c1 s1 (lw_Z below #[Value.ref b] s) (F0 m 774 ls []) := by
      intro w H1 locs1 c1 s1 hc1 hs1 hJ1 hP1 hD1 hS1
      refine lv_iinc (v := nI (i + 6)) (lv' := lwL b (ad 0) mo (i + 6)) hx hb dL_law_774 hl (k := 0) rfl (nI_inc _ _) (by decide) rfl (fun ls hl => ?_)
      refine lv_goto (tgt := 18) hx hb dL_law_777 (by decide) ?_
      exact ihn (k + 1) (i + 6) w H1 locs1 c1 s1 ls (by omega) (by omega) (by omega) hJ1 hP1 hD1 hS1 (by omega) (by omega) hl
    by_cases hq0 : q = 0
    · subst hq0
      refine lv_tableIn (off := 87) (tgt := 120) hx hb dL_law_33 (by decide) (by decide) (by decide) (by decide) ?_
      exact law_prefix S hX hbl hL (by omega) hK hE hJ (by omega) hP hD hS (by omega) (by omega) hl kk
    by_cases hq1 : q = 1
    · subst hq1
      refine lv_tableIn (off := 190) (tgt := 223) hx hb dL_law_33 (by decide) (by decide) (by decide) (by decide) ?_
      exact law_pool S hX hbl hL (by omega) hK hE hJ (by omega) hP hD hS (by omega) (by omega) hl kk
    by_cases hq2 : q = 2
    · subst hq2
      refine lv_tableIn (off := 213) (tgt := 246) hx hb dL_law_33 (by decide) (by decide) (by decide) (by decide) ?_
      exact law_high S hX hbl hL (by omega) hK hE hJ (by omega) hP hD hS (by omega) (by omega) hl kk
    by_cases hq3 : q = 3
    · subst hq3
      refine lv_tableIn (off := 237) (tgt := 270) hx hb dL_law_33 (by decide) (by decide) (by decide) (by decide) ?_
      exact law_low S hX hbl hL (by omega) hK hE hJ (by omega) hP hD hS (by omega) (by omega) hl kk
    by_cases hq4 : q = 4
    · subst hq4
      refine lv_tableIn (off := 261) (tgt := 294) hx hb dL_law_33 (by decide) (by decide) (by decide) (by decide) ?_
      exact law_drawn S hX hbl hL (by omega) hK hE hJ (by omega) hP hD hS (by omega) (by omega) hl kk
    by_cases hq5 : q = 5
    · subst hq5
      refine lv_tableIn (off := 355) (tgt := 388) hx hb dL_law_33 (by decide) (by decide) (by decide) (by decide) ?_
      exact law_feed S hX hbl hL (by omega) hK hE hJ (by omega) hP hD hS (by omega) (by omega) hl kk
    by_cases hq6 : q = 6
    · subst hq6
      refine lv_tableIn (off := 418) (tgt := 451) hx hb dL_law_33 (by decide) (by decide) (by decide) (by decide) ?_
      exact law_inside S hX hbl hL (by omega) hK hE hJ (by omega) hP hD hS (by omega) (by omega) hl kk
    by_cases hq7 : q = 7
    · subst hq7
      refine lv_tableIn (off := 441) (tgt := 474) hx hb dL_law_33 (by decide) (by decide) (by decide) (by decide) ?_
      exact law_outside S hX hbl hL (by omega) hK hE hJ (by omega) hP hD hS (by omega) (by omega) hl kk
    by_cases hq8 : q = 8
    · subst hq8
      refine lv_tableIn (off := 464) (tgt := 497) hx hb dL_law_33 (by decide) (by decide) (by decide) (by decide) ?_
      exact law_word S hX hbl hL (by omega) hK hE hJ (by omega) hP hD hS (by omega) (by omega) hl kk
    by_cases hq9 : q = 9
    · subst hq9
      refine lv_tableIn (off := 487) (tgt := 520) hx hb dL_law_33 (by decide) (by decide) (by decide) (by decide) ?_
      exact law_take S hX hbl hL (by omega) hK hE hJ (by omega) hP hD hS (by omega) (by omega) hl kk
    by_cases hq10 : q = 10
    · subst hq10
      refine lv_tableIn (off := 500) (tgt := 533) hx hb dL_law_33 (by decide) (by decide) (by decide) (by decide) ?_
      exact law_bend S hX hbl hL (by omega) hK hE hJ (by omega) hP hD hS (by omega) (by omega) hl kk
    by_cases hq11 : q = 11
    · subst hq11
      refine lv_tableIn (off := 533) (tgt := 566) hx hb dL_law_33 (by decide) (by decide) (by decide) (by decide) ?_
      exact law_sign S hX hbl hL (by omega) hK hE hJ (by omega) hP hD hS (by omega) (by omega) hl kk
    by_cases hq12 : q = 12
    · subst hq12
      refine lv_tableIn (off := 566) (tgt := 599) hx hb dL_law_33 (by decide) (by decide) (by decide) (by decide) ?_
      exact law_signHead S hX hbl hL (by omega) hK hE hJ (by omega) hP hD hS (by omega) (by omega) hl kk
    by_cases hq13 : q = 13
    · subst hq13
      refine lv_tableIn (off := 579) (tgt := 612) hx hb dL_law_33 (by decide) (by decide) (by decide) (by decide) ?_
      exact law_tick S hX hbl hL (by omega) hK hE hJ (by omega) hP hD hS (by omega) (by omega) hl kk
    by_cases hq14 : q = 14
    · subst hq14
      refine lv_tableIn (off := 602) (tgt := 635) hx hb dL_law_33 (by decide) (by decide) (by decide) (by decide) ?_
      exact law_binding S hX hbl hL (by omega) hK hE hJ (by omega) hP hD hS (by omega) (by omega) hl kk
    by_cases hq15 : q = 15
    · subst hq15
      refine lv_tableIn (off := 635) (tgt := 668) hx hb dL_law_33 (by decide) (by decide) (by decide) (by decide) ?_
      exact law_inner S hX hbl hL (by omega) hK hE hJ (by omega) hP hD hS (by omega) (by omega) hl kk
    by_cases hq16 : q = 16
    · subst hq16
      refine lv_tableIn (off := 685) (tgt := 718) hx hb dL_law_33 (by decide) (by decide) (by decide) (by decide) ?_
      exact law_session S hX hbl hL (by omega) hK hE hJ (by omega) hP hD hS (by omega) (by omega) hl kk
    by_cases hq17 : q = 17
    · subst hq17
      refine lv_tableIn (off := 718) (tgt := 751) hx hb dL_law_33 (by decide) (by decide) (by decide) (by decide) ?_
      exact law_count S hX hbl hL (by omega) hK hE hJ (by omega) hP hD hS (by omega) (by omega) hl kk
    refine lv_tableOut (tgt := 774) hx hb dL_law_33 (by rw [nI_toInt (by omega)]; omega) (by decide) ?_
    exact kk ws H locs cells slots (by omega) (by omega) hJ.up hP hD hS
set_option maxHeartbeats 4000000 in
set_option maxRecDepth 100000 in
/-- From the entry, for every script of at most 3072 ints, the law comes to its end with true -/
theorem whole_start {p : Program} {e : Env} {s : State} {m : MethodId} {below : List Frame} {meth : Method} {c : Code} (l : Launch) {b L : Nat} {xs : Nat → Int32} (hL : L ≤ 3072) (C0 : lw_At p s m meth c b L xs) : W p l e room_1 s m #[Value.ref b] below meth c s.heap [] 0 0 (lw_Z below #[Value.ref b] s) (entryFrame m ([Value.ref b] : List Value).toArray 4) := by
  obtain ⟨hx, hb, hr, hml, hown, hts, hX, hbl, hlk, hgv⟩ := C0
  have hown : s.vm.findClass "TransitGateLaw" = some m.cls := hown
  have ht : ∀ w ∈ lw_g, w.before #[Value.ref b] s = true := fun w h => hts w (List.mem_filter.mp h).1
  have S : CallFix p m c code 4 s #[Value.ref b] (Jvm.Cond.initialized "TransitGateLaw" :: lw_g) "TransitGateLaw" := ⟨hx, hb, hml, hown, fun w hw => by
    rcases List.mem_cons.mp hw with h | h
    · rw [h]
      exact ht _ kw1_0
    · exact ht w h⟩
  obtain ⟨D, cy, hK⟩ := start_K ht (hts (.arrayOver (.object "java/lang/Object")) (tb_3 (List.mem_of_getElem? (i := 72) (by decide +kernel))))
  obtain ⟨e0, hE⟩ := start_E hts ht hgv
  have hA : ∀ q : Nat, s.heap.size ≤ q → lwA s q := fun q h => h
  have hP : va_P D vwCl [] s.heap := fun k q hk => by cases hk
  have hD : va_D (lwA s) ([] : va_W) := ⟨fun i j p q hk => absurd hk (by simp), fun k q hk => absurd hk (by simp)⟩
  have hS : va_S (lwA s) s.heap s.heap [] := va_S.rf
  rw [lg_entry_eq]
  have hl : lv_has ((lg_sl [Value.ref b] ++ List.replicate (4 - (lg_sl [Value.ref b]).length) Slot.unset).toArray) 4 [(0, .ref b)] := lv_entry [Value.ref b] (Nat.le_of_ble_eq_true rfl)
  revert hl
  generalize ((lg_sl [Value.ref b] ++ List.replicate (4 - (lg_sl [Value.ref b]).length) Slot.unset).toArray) = ls
  intro hl
  refine va_new (ci := 8) (fs := [.null, .null, .null, .null, .null, .null, .int 0, .int 0]) (C := RX11) (T := TX11) (N := 8) hx hb ht iFX11 tyX11 tyX11_ok hown (ht _ kw1_23) (ht _ kw1_24) (ht _ kw1_1) hK hP hD hS hA rfl (fun j hj => by rcases (show j = 0 ∨ j = 1 ∨ j = 2 ∨ j = 3 ∨ j = 4 ∨ j = 5 ∨ j = 6 ∨ j = 7 by omega) with rfl | rfl | rfl | rfl | rfl | rfl | rfl | rfl <;> rfl) (by show _ ≤ 600000; omega) (by show _ ≤ 7302249; omega) dL_law_0 (fun x9 H hP hD hS => ?_)
  refine lv_dup hx hb dL_law_3 rfl ?_
  refine wx_I S (c_X11_init (w0 := [])) kw1_25 yv_X11_init ⟨Nat.le_of_ble_eq_true rfl, Nat.le_of_ble_eq_true rfl⟩ hK hP hD hS hA hE rfl hl.1 rfl (Nat.le_of_ble_eq_true rfl) dL_law_4 ⟨by show _ ≤ 600000; omega, by show _ ≤ 7302249; omega⟩ (fun ad H locs had hP hD hS => ?_)
  rw [List.nil_append] at hP hD
  refine W.eq (g2 := F0 m 7 ls [.ref (ad 0)]) (by rw [had]; rfl) ?_
  refine lv_astore_n (lv' := [(1, .ref (ad 0)), (0, .ref b)]) hx hb dL_law_7 rfl hl (by decide) rfl (fun ls hl => ?_)
  refine va_new (ci := 9) (fs := [.null, .int 0, .null, .int 0, .null, .int 0, .int 0, .long 0, .long 0, .int 0, .null, .int 0, .null, .null, .null, .null, .null, .null, .int 0, .null, .null, .null, .null, .null, .int 0, .int 0, .null, .int 0]) (C := RX12) (T := TX12) (N := 28) hx hb ht iFX12 tyX12 tyX12_ok hown (ht _ kw4_104) (ht _ kw4_105) (ht _ kw1_10) hK hP hD hS hA rfl (fun j hj => by rcases (show j = 0 ∨ j = 1 ∨ j = 2 ∨ j = 3 ∨ j = 4 ∨ j = 5 ∨ j = 6 ∨ j = 7 ∨ j = 8 ∨ j = 9 ∨ j = 10 ∨ j = 11 ∨ j = 12 ∨ j = 13 ∨ j = 14 ∨ j = 15 ∨ j = 16 ∨ j = 17 ∨ j = 18 ∨ j = 19 ∨ j = 20 ∨ j = 21 ∨ j = 22 ∨ j = 23 ∨ j = 24 ∨ j = 25 ∨ j = 26 ∨ j = 27 by omega) with rfl | rfl | rfl | rfl | rfl | rfl | rfl | rfl | rfl | rfl | rfl | rfl | rfl | rfl | rfl | rfl | rfl | rfl | rfl | rfl | rfl | rfl | rfl | rfl | rfl | rfl | rfl | rfl <;> rfl) (by show _ ≤ 600000; omega) (by show _ ≤ 7302249; omega) dL_law_8 (fun mo H hP hD hS => ?_)
  refine lv_dup hx hb dL_law_11 rfl ?_
  refine wr_I S c_X12_init kw4_106 yv_X12_init ⟨Nat.le_of_ble_eq_true rfl, Nat.le_of_ble_eq_true rfl⟩ hK hP hD hS hA rfl hl.1 rfl (Nat.le_of_ble_eq_true rfl) dL_law_12 ⟨by show _ ≤ 600000; omega, by show _ ≤ 7302249; omega⟩ (fun am H locs _ hP hD hS => ?_)
  refine W.eq (g2 := F0 m 15 ls [.ref mo]) rfl ?_
  refine lv_astore_n (lv' := [(2, .ref mo), (1, .ref (ad 0)), (0, .ref b)]) hx hb dL_law_15 rfl hl (by decide) rfl (fun ls hl => ?_)
  refine nv_iconst (k := 0) hx hb dL_law_16 rfl ?_
  refine lv_istore_n (lv' := lwL b (ad 0) mo 0) hx hb dL_law_17 rfl hl (by decide) rfl (fun ls hl => ?_)
  exact law_loop S hr hlk hX hbl hL hK hE 514 0 0 _ H locs _ _ ls (by omega) rfl (by omega) J.start hP hD hS (by omega) (by omega) hl
set_option maxHeartbeats 4000000 in
theorem lw_walk (l : Launch) (b : Addr) (xs : List Int32) : MetFree l x (headSpec (Jvm.Cond.code x code maxLocals ret :: tables_1) room_1) (lw_P b xs) (fun _ _ _ _ _ => True) lw_Q := by
  refine MetFree.of_bodyS (code := code) (maxLocals := maxLocals) (ret := ret) (by decide) ?_ ?_
  · intro args s m h hn
    obtain ⟨meth, c, h1, h2, h3, h4, h5, h6, -, -⟩ := Cond.code_spec hn (atoms_spec (ws := Jvm.Cond.code x code maxLocals ret :: tables_1) h _ List.mem_cons_self)
    exact ⟨meth, c, h1, h2, h3, h4, h5, h6⟩
  · intro p e s m args below meth c s₁ B hml0 hP _
    obtain ⟨rfl, hx, hbd, hgv⟩ := hP
    obtain ⟨scr, harrAt, hlist, hof, hsmall⟩ := hx
    obtain ⟨hcb, hkn, -, -⟩ := State.arrayAt?_spec harrAt
    have hown : s.vm.findClass R_law = some m.cls := findClass_of_methodNamed B.named
    have hts0 : ∀ c ∈ (Jvm.Cond.code x code maxLocals ret :: tables_1), c.before #[Value.ref b] s = true := atoms_spec (ws := Jvm.Cond.code x code maxLocals ret :: tables_1) B.pre
    have hts : ∀ w ∈ lw_tbl, w.before #[Value.ref b] s = true := k2_hts_sels lw_privs (fun w hw => hts0 w (List.mem_cons_of_mem _ hw)) lw_privs_ok
    have hml : c.maxLocals = 4 := B.maxLocals_eq (hts0 _ List.mem_cons_self)
    have X₀ : Stand p l e room_1 s m #[Value.ref b] below meth c s₁ [] 0 0 := Stand.of_body B
    have hh0 : s₁.heap = s.heap := by rw [B.state]; rfl
    have hsz : scr.slots.size = xs.length := by rw [← Array.length_toList, hlist, List.length_map]
    have hval : ∀ j : Nat, j < xs.length → scr.slots[j]? = some (.int (xs.getD j 0)) := fun j hj => by
      rw [← Array.getElem?_toList, hlist]
      simp [hj]
    have hbl : b < s.heap.size := (Array.getElem?_eq_some_iff.mp hcb).1
    have hX : va_X b xs.length (fun j => xs.getD j 0) s s.heap := ⟨scr, hcb, hof, hkn, hsz, hval⟩
    have K : W p l e room_1 s m #[Value.ref b] below meth c s₁.heap [] 0 0 (lw_Z below #[Value.ref b] s) (entryFrame m ([Value.ref b] : List Value).toArray 4) := by
      rw [hh0]
      exact whole_start l hbd ⟨B.exec, B.bytes, B.returns, hml, hown, hts, hX, hbl, B.notSynchronized, hgv⟩
    obtain ⟨t, a1, o, b1, b2, b3⟩ := K s₁ rfl X₀
    exact ⟨t, o, a1, b1, b2, b3⟩
theorem lw_pre_spec {args : Array Value} {s : State} (h : (Jvm.Cond.and given_1 narrow_1).before args s = true) (hr : rest_1_c.before args s = true) : ∃ (b : Addr) (xs : List Int32), lw_P b xs args s := by
  have hs := flat_of_before _ h
  have hq := flat_of_before _ hr
  have hc : (Cond.count 1).before args s = true := hs _ (by decide +kernel)
  have harr : (Cond.arrayOf (.arg 0) .int).before args s = true := hs _ (by decide +kernel)
  have hle : (Cond.le (.length (.arg 0)) (.int 3072)).before args s = true := hs _ (by decide +kernel)
  have hlen : (Cond.isInt (.length (.arg 0))).before args s = true := hq _ (by decide +kernel)
  have hall : (Cond.all (.arg 0) (.isInt (.elem (.arg 0) (.index 0)))).before args s = true := hq _ (by decide +kernel)
  obtain ⟨b, xs, hb, hx⟩ := State.ints_of_pre rfl harr hlen hall
  have hsm : xs.length < 2 ^ 31 := hx.choose_spec.2.2.2
  have hev : (Term.length (.arg 0)).eval args s none [] s = some (.int xs.length.toInt32) := hx.length_eval hb
  have hv := Cond.le_ints hev (show (Term.int 3072).eval args s none [] s = some (.int 3072) from rfl)
  have hd : xs.length.toInt32 ≤ 3072 := by
    simpa [Cond.before, Cond.holds, hv] using hle
  have hN : xs.length ≤ 3072 := (Int32.ofNat_le_ofNat hsm (by decide)).mp (show Int32.ofNat xs.length ≤ Int32.ofNat 3072 from hd)
  exact ⟨b, xs, Cond.one_arg hc (show args[0]? = some (.ref b) from hb), hx, hN, h⟩
theorem lw_comes (l : Launch) : Comes l x (Jvm.Cond.code x code maxLocals ret :: tables_1) room_1 (fun tb e args s => Calls_1 tb e args s ∧ rest_1 tb e args s ∧ Pre_1 tb e args s)
    (fun _ _ args s o t => lw_Q args s o t) := by
  intro p e ha hc hk s m args below hf hfit hheap happ hpre
  obtain ⟨b, xs, hP⟩ := lw_pre_spec hpre.2.2 hpre.2.1
  obtain ⟨k, o, h1, h2, h3, hQ⟩ := lw_walk l b xs p e ha hc hk s m args below hf ((Spec.applies_iff_loose hf).mp happ).1 hP trivial
  exact ⟨k, o, h1, h2, h3, hQ⟩
theorem lw_frame {s t : State} {o : Outcome} {args : Array Value} (h : Framed s o t [] 600000 7302249) :
    Framed s o t (fieldLocs frame_1_writes args s ++ arrayLocs frame_1_arrays args s ++ staticLocs frame_1_statics s) 600000 7302249 := h
theorem lw_limb (L : Cond) (hL : ∀ (args : Array Value) (s t : State), L.after args s (.returned (some (.int 1))) t = true) :
    ArmFor flags0 classFile x code maxLocals ret World_1 tables_1 room_1 Calls_1 rest_1 Pre_1
      (fun tb e a s o t => postC L tb e a s o t ∧ Framed s o t (fieldLocs frame_1_writes a s ++ arrayLocs frame_1_arrays a s ++ staticLocs frame_1_statics s) 600000 7302249) := by
  intro l _ _ _ p e ha hc hk s m args below hf hfit hheap happ hpre
  obtain ⟨k, o, h1, h2, h3, rfl, hF⟩ := lw_comes l p e ha hc hk s m args below hf hfit hheap happ hpre
  exact ⟨k, _, h1, h2, h3, hL args s _, lw_frame hF⟩
theorem i_vc : Claimed_1_1 ∧ Claimed_1_2 := ⟨lw_limb limb_1_1 (fun args s t => by simp [limb_1_1, Cond.after, Cond.holds, Cond.value]), lw_limb limb_1_2 (fun args s t => Cond.after_iff.mpr (by
  first | (rw [show limb_1_2 = Cond.eq .result (.int 1) from rfl, Cond.eq_ints (x := 1) (y := 1) rfl rfl]; simp; done) | (simp [limb_1_2, Cond.value, Term.eval]; done)))⟩
