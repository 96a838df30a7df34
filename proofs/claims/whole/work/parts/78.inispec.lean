/-! CONSTRUCTORS -/
theorem wr_IN {p : Program} {l : Launch} {e : Env} {R : Room} {s : State} {m : MethodId} {args : Array Value} {below : List Frame} {meth : Method} {c : Code} {H : Heap} {locs : List Loc} {cells slots : Nat} {Q : State → Prop} {cc : ByteArray} {pc : Nat} {ls : Array Slot} {rest : List Value} {D : va_G} {cy : Nat → ClassId} {ws : va_W} {A : Nat → Prop} {H0 : Heap} {y : MethodName} {bytes : ByteArray} {maxL nL n index f lo mc ms : Nat} {own host : String} {b : Addr} {As st : List Value} {cd : Cond} {S0 : Type} {rr : S0 → Option Value} {ph : S0 → Prop} {wf : S0 → va_W} (S : CallFix p m c cc nL s args (cd :: lw_g) own) (hM : WR l y bytes maxL none f mc ms lo (.ref b :: As) D cy ws rr ph wf) (hl : va_Nw (.methodLinkNest own index y host) s) (hy : YI y bytes maxL n) (hR : f + 1 ≤ R.frames ∧ 8 + (maxL + 11) + lo ≤ R.locals) (hK : va_K D vwCl (TYS cy) s) (hP : va_P D vwCl ws H) (hD : va_D A ws) (hS : va_S A H0 H locs) (hA : ∀ q : Nat, H0.size ≤ q → A q)
    (hn : As.length = n) (hsz : ls.size = nL) (hst : st = As.reverse ++ .ref b :: rest) (hw : (rest.map fun v => v.category).sum ≤ 8) (hdg : decode cc pc = .ok (.invokespecial index, 3)) (hcs : cells + mc ≤ R.cells ∧ slots + ms ≤ R.slots)
    (kk : ∀ (u : S0) (H1 : Heap) (locs1 : List Loc), ph u → va_P D vwCl (wf u) H1 → va_D A (wf u) → va_S A H0 H1 locs1 → W p l e R s m args below meth c H1 locs1 (cells + mc) (slots + ms) Q (F0 m (pc + 3) ls ((rr u).toList ++ rest))) : W p l e R s m args below meth c H locs cells slots Q (F0 m pc ls st) :=
  wr_run (va_runIN S (hM H.size) ⟨va_cnB n S.2.2.2.2 (tb_in (tb_Cm hy.2.2.1)) rfl rfl rfl hl (S.2.2.2.2 _ (List.mem_cons_of_mem _ hy.2.1)) hy.2.2.2.2 hR, hy.2.2.2.1, S.2.2.2.2 _ (List.mem_cons_of_mem _ hy.1)⟩ (pre_wr rfl hK hP hD) rfl hn hsz hst (lv_room hw) hdg hcs) hS (wr_free hD hS hA) kk
theorem a_cls {s : State} {D : va_G} {cy : Nat → ClassId} {cA : ClassId} {ty : FieldType} (k : Nat) (hK : va_K D vwCl (TYS cy) s) (hK2 : va_K D vwCl (TYS cy ++ [(cA, ty)]) s) (ht : (TYS cy)[k]? = some (cy k, ty)) (hty : ∀ C, ty ≠ .object C) : cA = cy k := by
  have h1 := (hK2.2 4 _ rfl).2
  have h2 := (hK.2 k _ ht).2
  cases ty <;> first | exact Option.some.inj (h1.symm.trans h2) | exact absurd rfl (hty _)
theorem bt_0 : bt (fun _ => 0) = (fun _ => (0 : Int32)) := by
  funext i
  show ((0 : UInt8)).toInt8.toInt32 = 0
  decide
