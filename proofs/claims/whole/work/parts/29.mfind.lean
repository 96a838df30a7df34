theorem dX12_findInner_0 : decode cX12_findInner 0 = .ok (.iconst 0, 1) := by decide +kernel
theorem dX12_findInner_1 : decode cX12_findInner 1 = .ok (.istore 7, 2) := by decide +kernel
theorem dX12_findInner_3 : decode cX12_findInner 3 = .ok (.iload 7, 2) := by decide +kernel
theorem dX12_findInner_5 : decode cX12_findInner 5 = .ok (.aload_n 0, 1) := by decide +kernel
theorem dX12_findInner_6 : decode cX12_findInner 6 = .ok (.getfield 80, 3) := by decide +kernel
theorem dX12_findInner_9 : decode cX12_findInner 9 = .ok (.if_icmp .ge 60, 3) := by decide +kernel
theorem dX12_findInner_12 : decode cX12_findInner 12 = .ok (.aload_n 0, 1) := by decide +kernel
theorem dX12_findInner_13 : decode cX12_findInner 13 = .ok (.getfield 23, 3) := by decide +kernel
theorem dX12_findInner_16 : decode cX12_findInner 16 = .ok (.iload 7, 2) := by decide +kernel
theorem dX12_findInner_18 : decode cX12_findInner 18 = .ok (.iaload, 1) := by decide +kernel
theorem dX12_findInner_19 : decode cX12_findInner 19 = .ok (.iload_n 1, 1) := by decide +kernel
theorem dX12_findInner_20 : decode cX12_findInner 20 = .ok (.if_icmp .ne 43, 3) := by decide +kernel
theorem dX12_findInner_23 : decode cX12_findInner 23 = .ok (.aload_n 0, 1) := by decide +kernel
theorem dX12_findInner_24 : decode cX12_findInner 24 = .ok (.getfield 26, 3) := by decide +kernel
theorem dX12_findInner_27 : decode cX12_findInner 27 = .ok (.iload 7, 2) := by decide +kernel
theorem dX12_findInner_29 : decode cX12_findInner 29 = .ok (.laload, 1) := by decide +kernel
theorem dX12_findInner_30 : decode cX12_findInner 30 = .ok (.lload_n 2, 1) := by decide +kernel
theorem dX12_findInner_31 : decode cX12_findInner 31 = .ok (.lcmp, 1) := by decide +kernel
theorem dX12_findInner_32 : decode cX12_findInner 32 = .ok (.ifCond .ne 31, 3) := by decide +kernel
theorem dX12_findInner_35 : decode cX12_findInner 35 = .ok (.aload_n 0, 1) := by decide +kernel
theorem dX12_findInner_36 : decode cX12_findInner 36 = .ok (.getfield 30, 3) := by decide +kernel
theorem dX12_findInner_39 : decode cX12_findInner 39 = .ok (.iload 7, 2) := by decide +kernel
theorem dX12_findInner_41 : decode cX12_findInner 41 = .ok (.laload, 1) := by decide +kernel
theorem dX12_findInner_42 : decode cX12_findInner 42 = .ok (.lload 4, 2) := by decide +kernel
theorem dX12_findInner_44 : decode cX12_findInner 44 = .ok (.lcmp, 1) := by decide +kernel
theorem dX12_findInner_45 : decode cX12_findInner 45 = .ok (.ifCond .ne 18, 3) := by decide +kernel
theorem dX12_findInner_48 : decode cX12_findInner 48 = .ok (.aload_n 0, 1) := by decide +kernel
theorem dX12_findInner_49 : decode cX12_findInner 49 = .ok (.getfield 33, 3) := by decide +kernel
theorem dX12_findInner_52 : decode cX12_findInner 52 = .ok (.iload 7, 2) := by decide +kernel
theorem dX12_findInner_54 : decode cX12_findInner 54 = .ok (.iaload, 1) := by decide +kernel
theorem dX12_findInner_55 : decode cX12_findInner 55 = .ok (.iload 6, 2) := by decide +kernel
theorem dX12_findInner_57 : decode cX12_findInner 57 = .ok (.if_icmp .ne 6, 3) := by decide +kernel
theorem dX12_findInner_60 : decode cX12_findInner 60 = .ok (.iload 7, 2) := by decide +kernel
theorem dX12_findInner_62 : decode cX12_findInner 62 = .ok (.ireturn, 1) := by decide +kernel
theorem dX12_findInner_63 : decode cX12_findInner 63 = .ok (.iinc 7 1, 3) := by decide +kernel
theorem dX12_findInner_66 : decode cX12_findInner 66 = .ok (.goto (-63), 3) := by decide +kernel
theorem dX12_findInner_69 : decode cX12_findInner 69 = .ok (.iconst (-1), 1) := by decide +kernel
theorem dX12_findInner_70 : decode cX12_findInner 70 = .ok (.ireturn, 1) := by decide +kernel
theorem yv_X12_findInner : YV RX12 yX12_findInner cX12_findInner 8 (some .int) 4 := ⟨kw5_84, kws_31, kw1_10, kw5_85, by decide +kernel⟩
set_option maxHeartbeats 4000000 in
set_option maxRecDepth 100000 in
theorem c_X12_findInner {l : Launch} {D : va_G} {cy : Nat → ClassId} {ws : va_W} {km mo : Nat} {fs : List Value} (hm0 : ws[km]? = some (mo, .inr (9, fs))) {nb : Nat} {a_pt : Nat} {a_ih : Nat} {a_il : Nat} {a_ip : Nat} (hf_bindings : fs[11]? = some (.int (nI nb))) (hf_protocol : fs[12]? = some (.ref a_pt)) (hf_innerHigh : fs[13]? = some (.ref a_ih)) (hf_innerLow : fs[14]? = some (.ref a_il)) (hf_innerPort : fs[15]? = some (.ref a_ip)) {k_pt : Nat} {pt : Nat → Nat} (hA_pt : ws[k_pt]? = some (a_pt, .inl (cy 1, 64, .inl (ni pt)))) (hb_pt : ∀ i, pt i < 2 ^ 31) {k_ih : Nat} {ih : Nat → Nat} (hA_ih : ws[k_ih]? = some (a_ih, .inl (cy 2, 64, .inr (.inl (ln ih))))) (hb_ih : ∀ i, ih i < 2 ^ 64) {k_il : Nat} {il : Nat → Nat} (hA_il : ws[k_il]? = some (a_il, .inl (cy 2, 64, .inr (.inl (ln il))))) (hb_il : ∀ i, il i < 2 ^ 64) {k_ip : Nat} {ip : Nat → Nat} (hA_ip : ws[k_ip]? = some (a_ip, .inl (cy 1, 64, .inl (ni ip)))) (hb_ip : ∀ i, ip i < 2 ^ 31) (hnb : nb ≤ 64) {q hi lo port : Nat} (hq9 : q < 2 ^ 31) (hhi : hi < 2 ^ 64) (hlo : lo < 2 ^ 64) (hpo : port < 2 ^ 31) : RO l yX12_findInner cX12_findInner 8 (some .int) 0 0 [.ref mo, .int (nI q), .long (lN (hi)), .long (lN (lo)), .int (nI port)] D cy ws (.int (tg_num (tg_first (fun k => decide (pt k = q ∧ ih k = hi ∧ il k = lo ∧ ip k = port)) nb) nb)) := by
  refine ROi (by decide) (lv0 := [(0, .ref mo), (1, .int (nI q)), (2, .long (lN (hi))), (4, .long (lN (lo))), (6, .int (nI port))]) rfl (Nat.le_of_ble_eq_true rfl) ?_
  intro p e s m args below meth c ls Q S hP hK hend hl
  have hx := S.1
  have hb := S.2.1
  have hown : s.vm.findClass RX12 = some m.cls := S.2.2.2.1
  have ht : ∀ w ∈ lw_g, w.before args s = true := fun w h => S.2.2.2.2 w (List.mem_cons_of_mem _ h)
  refine nv_iconst (k := 0) hx hb dX12_findInner_0 rfl ?_
  refine lv_istore (lv' := [(7, .int (nI 0)), (0, .ref mo), (1, .int (nI q)), (2, .long (lN (hi))), (4, .long (lN (lo))), (6, .int (nI port))]) hx hb dX12_findInner_1 hl (by decide) rfl (fun ls hl => ?_)
  have L3 : ∀ (fu : Nat) (i : Nat), nb - i < fu → i ≤ nb → (∀ j, j < i → (fun k => decide (pt k = q ∧ ih k = hi ∧ il k = lo ∧ ip k = port)) j = false) → ∀ ls : Array Slot, lv_has ls 8 [(0, .ref mo), (1, .int (nI q)), (2, .long (lN (hi))), (4, .long (lN (lo))), (6, .int (nI port)), (7, .int (nI i))] → W p l e (rmo 0 0) s m args below meth c s.heap [] 0 0 Q (F0 m 3 ls []) := by
    intro fu
    induction fu with
    | zero => intro i h9; omega
    | succ fu ih =>
      intro i hfu hi9 hno ls hl
      refine lv_iload hx hb dX12_findInner_3 (lv_at hl 5 rfl) ?_
      refine lv_aload_n hx hb dX12_findInner_5 rfl (lv_at hl 0 rfl) ?_
      refine va_get (ci := 9) (C := RX12) (T := TX12) (N := 28) hx hb ht iFX12 hown hK hP km hm0 rfl 11 (by decide) (ht _ kw4_121) (fun _ h9 => h9) hf_bindings dX12_findInner_6 ?_
      refine nv_icmp_ge (tgt := 69) hx hb dX12_findInner_9 (by decide) (by omega) (by omega) (fun h9 => ?_) (fun h9 => ?_)
      · skip
        refine lv_iconst (v := -1) hx hb dX12_findInner_69 (by decide) ?_
        exact hend ((fi_no (fun j hj => hno j (by omega)))) dX12_findInner_70
      refine lv_aload_n hx hb dX12_findInner_12 rfl (lv_at hl 0 rfl) ?_
      refine va_get (ci := 9) (C := RX12) (T := TX12) (N := 28) hx hb ht iFX12 hown hK hP km hm0 rfl 12 (by decide) (ht _ kw4_122) (fun _ h9 => h9) hf_protocol dX12_findInner_13 ?_
      refine lv_iload hx hb dX12_findInner_16 (lv_at hl 5 rfl) ?_
      refine nv_iald hx hb hK hP k_pt hA_pt (by omega) (by omega) dX12_findInner_18 ?_
      have hq18 := hb_pt (i)
      refine lv_iload_n hx hb dX12_findInner_19 rfl (lv_at hl 1 rfl) ?_
      refine nv_icmp_ne (tgt := 63) hx hb dX12_findInner_20 (by decide) (by omega) (by omega) (fun h20 => ?_) (fun h20 => ?_)
      · skip
        refine lv_iinc (v := (nI (i + 1))) (lv' := [(7, .int (nI (i + 1))), (0, .ref mo), (1, .int (nI q)), (2, .long (lN (hi))), (4, .long (lN (lo))), (6, .int (nI port))]) hx hb dX12_findInner_63 hl (k := 5) rfl (nI_inc _ _) (by decide) rfl (fun ls hl => ?_)
        refine lv_goto (tgt := 3) hx hb dX12_findInner_66 (by decide) ?_
        exact ih (i + 1) (by omega) (by omega) (no_step hno (decide_eq_false (by omega))) ls (lv_sub hl [1, 2, 3, 4, 5, 0] rfl)
      refine lv_aload_n hx hb dX12_findInner_23 rfl (lv_at hl 0 rfl) ?_
      refine va_get (ci := 9) (C := RX12) (T := TX12) (N := 28) hx hb ht iFX12 hown hK hP km hm0 rfl 13 (by decide) (ht _ kw4_123) (fun _ h9 => h9) hf_innerHigh dX12_findInner_24 ?_
      refine lv_iload hx hb dX12_findInner_27 (lv_at hl 5 rfl) ?_
      refine nv_lald hx hb hK hP k_ih hA_ih (by omega) (by omega) dX12_findInner_29 ?_
      have hq29 := hb_ih (i)
      refine lv_lload_n hx hb dX12_findInner_30 rfl (lv_at hl 2 rfl) ?_
      refine nv_Lcmp_ne (tgt := 63) hx hb dX12_findInner_31 dX12_findInner_32 (by decide) (by omega) (by omega) (fun h31 => ?_) (fun h31 => ?_)
      · skip
        refine lv_iinc (v := (nI (i + 1))) (lv' := [(7, .int (nI (i + 1))), (0, .ref mo), (1, .int (nI q)), (2, .long (lN (hi))), (4, .long (lN (lo))), (6, .int (nI port))]) hx hb dX12_findInner_63 hl (k := 5) rfl (nI_inc _ _) (by decide) rfl (fun ls hl => ?_)
        refine lv_goto (tgt := 3) hx hb dX12_findInner_66 (by decide) ?_
        exact ih (i + 1) (by omega) (by omega) (no_step hno (decide_eq_false (by omega))) ls (lv_sub hl [1, 2, 3, 4, 5, 0] rfl)
      refine lv_aload_n hx hb dX12_findInner_35 rfl (lv_at hl 0 rfl) ?_
      refine va_get (ci := 9) (C := RX12) (T := TX12) (N := 28) hx hb ht iFX12 hown hK hP km hm0 rfl 14 (by decide) (ht _ kw4_124) (fun _ h9 => h9) hf_innerLow dX12_findInner_36 ?_
      refine lv_iload hx hb dX12_findInner_39 (lv_at hl 5 rfl) ?_
      refine nv_lald hx hb hK hP k_il hA_il (by omega) (by omega) dX12_findInner_41 ?_
      have hq41 := hb_il (i)
      refine lv_lload hx hb dX12_findInner_42 (lv_at hl 3 rfl) ?_
      refine nv_Lcmp_ne (tgt := 63) hx hb dX12_findInner_44 dX12_findInner_45 (by decide) (by omega) (by omega) (fun h44 => ?_) (fun h44 => ?_)
      · skip
        refine lv_iinc (v := (nI (i + 1))) (lv' := [(7, .int (nI (i + 1))), (0, .ref mo), (1, .int (nI q)), (2, .long (lN (hi))), (4, .long (lN (lo))), (6, .int (nI port))]) hx hb dX12_findInner_63 hl (k := 5) rfl (nI_inc _ _) (by decide) rfl (fun ls hl => ?_)
        refine lv_goto (tgt := 3) hx hb dX12_findInner_66 (by decide) ?_
        exact ih (i + 1) (by omega) (by omega) (no_step hno (decide_eq_false (by omega))) ls (lv_sub hl [1, 2, 3, 4, 5, 0] rfl)
      refine lv_aload_n hx hb dX12_findInner_48 rfl (lv_at hl 0 rfl) ?_
      refine va_get (ci := 9) (C := RX12) (T := TX12) (N := 28) hx hb ht iFX12 hown hK hP km hm0 rfl 15 (by decide) (ht _ kw4_125) (fun _ h9 => h9) hf_innerPort dX12_findInner_49 ?_
      refine lv_iload hx hb dX12_findInner_52 (lv_at hl 5 rfl) ?_
      refine nv_iald hx hb hK hP k_ip hA_ip (by omega) (by omega) dX12_findInner_54 ?_
      have hq54 := hb_ip (i)
      refine lv_iload hx hb dX12_findInner_55 (lv_at hl 4 rfl) ?_
      refine nv_icmp_ne (tgt := 63) hx hb dX12_findInner_57 (by decide) (by omega) (by omega) (fun h57 => ?_) (fun h57 => ?_)
      · skip
        refine lv_iinc (v := (nI (i + 1))) (lv' := [(7, .int (nI (i + 1))), (0, .ref mo), (1, .int (nI q)), (2, .long (lN (hi))), (4, .long (lN (lo))), (6, .int (nI port))]) hx hb dX12_findInner_63 hl (k := 5) rfl (nI_inc _ _) (by decide) rfl (fun ls hl => ?_)
        refine lv_goto (tgt := 3) hx hb dX12_findInner_66 (by decide) ?_
        exact ih (i + 1) (by omega) (by omega) (no_step hno (decide_eq_false (by omega))) ls (lv_sub hl [1, 2, 3, 4, 5, 0] rfl)
      refine lv_iload hx hb dX12_findInner_60 (lv_at hl 5 rfl) ?_
      exact hend ((fi_at (by omega) (decide_eq_true (by omega)) hno)) dX12_findInner_62
  exact L3 (nb + 1) 0 (by omega) (by omega) (fun j hj => absurd hj (by omega)) ls (lv_sub hl [1, 2, 3, 4, 5, 0] rfl)
theorem dX12_findOuter_0 : decode cX12_findOuter 0 = .ok (.iconst 0, 1) := by decide +kernel
theorem dX12_findOuter_1 : decode cX12_findOuter 1 = .ok (.istore 4, 2) := by decide +kernel
theorem dX12_findOuter_3 : decode cX12_findOuter 3 = .ok (.iload 4, 2) := by decide +kernel
theorem dX12_findOuter_5 : decode cX12_findOuter 5 = .ok (.aload_n 0, 1) := by decide +kernel
theorem dX12_findOuter_6 : decode cX12_findOuter 6 = .ok (.getfield 80, 3) := by decide +kernel
theorem dX12_findOuter_9 : decode cX12_findOuter 9 = .ok (.if_icmp .ge 45, 3) := by decide +kernel
theorem dX12_findOuter_12 : decode cX12_findOuter 12 = .ok (.aload_n 0, 1) := by decide +kernel
theorem dX12_findOuter_13 : decode cX12_findOuter 13 = .ok (.getfield 23, 3) := by decide +kernel
theorem dX12_findOuter_16 : decode cX12_findOuter 16 = .ok (.iload 4, 2) := by decide +kernel
theorem dX12_findOuter_18 : decode cX12_findOuter 18 = .ok (.iaload, 1) := by decide +kernel
theorem dX12_findOuter_19 : decode cX12_findOuter 19 = .ok (.iload_n 1, 1) := by decide +kernel
theorem dX12_findOuter_20 : decode cX12_findOuter 20 = .ok (.if_icmp .ne 28, 3) := by decide +kernel
theorem dX12_findOuter_23 : decode cX12_findOuter 23 = .ok (.aload_n 0, 1) := by decide +kernel
theorem dX12_findOuter_24 : decode cX12_findOuter 24 = .ok (.getfield 36, 3) := by decide +kernel
theorem dX12_findOuter_27 : decode cX12_findOuter 27 = .ok (.iload 4, 2) := by decide +kernel
theorem dX12_findOuter_29 : decode cX12_findOuter 29 = .ok (.iaload, 1) := by decide +kernel
theorem dX12_findOuter_30 : decode cX12_findOuter 30 = .ok (.iload_n 2, 1) := by decide +kernel
theorem dX12_findOuter_31 : decode cX12_findOuter 31 = .ok (.if_icmp .ne 17, 3) := by decide +kernel
theorem dX12_findOuter_34 : decode cX12_findOuter 34 = .ok (.aload_n 0, 1) := by decide +kernel
theorem dX12_findOuter_35 : decode cX12_findOuter 35 = .ok (.getfield 39, 3) := by decide +kernel
theorem dX12_findOuter_38 : decode cX12_findOuter 38 = .ok (.iload 4, 2) := by decide +kernel
theorem dX12_findOuter_40 : decode cX12_findOuter 40 = .ok (.iaload, 1) := by decide +kernel
theorem dX12_findOuter_41 : decode cX12_findOuter 41 = .ok (.iload_n 3, 1) := by decide +kernel
theorem dX12_findOuter_42 : decode cX12_findOuter 42 = .ok (.if_icmp .ne 6, 3) := by decide +kernel
theorem dX12_findOuter_45 : decode cX12_findOuter 45 = .ok (.iload 4, 2) := by decide +kernel
theorem dX12_findOuter_47 : decode cX12_findOuter 47 = .ok (.ireturn, 1) := by decide +kernel
theorem dX12_findOuter_48 : decode cX12_findOuter 48 = .ok (.iinc 4 1, 3) := by decide +kernel
theorem dX12_findOuter_51 : decode cX12_findOuter 51 = .ok (.goto (-48), 3) := by decide +kernel
theorem dX12_findOuter_54 : decode cX12_findOuter 54 = .ok (.iconst (-1), 1) := by decide +kernel
theorem dX12_findOuter_55 : decode cX12_findOuter 55 = .ok (.ireturn, 1) := by decide +kernel
theorem yv_X12_findOuter : YV RX12 yX12_findOuter cX12_findOuter 5 (some .int) 3 := ⟨kw5_100, kws_35, kw1_10, kw5_101, by decide +kernel⟩
set_option maxHeartbeats 4000000 in
set_option maxRecDepth 100000 in
theorem c_X12_findOuter {l : Launch} {D : va_G} {cy : Nat → ClassId} {ws : va_W} {km mo : Nat} {fs : List Value} (hm0 : ws[km]? = some (mo, .inr (9, fs))) {nb : Nat} {a_pt : Nat} {a_pn : Nat} {a_op : Nat} (hf_bindings : fs[11]? = some (.int (nI nb))) (hf_protocol : fs[12]? = some (.ref a_pt)) (hf_outer : fs[16]? = some (.ref a_pn)) (hf_outerPort : fs[17]? = some (.ref a_op)) {k_pt : Nat} {pt : Nat → Nat} (hA_pt : ws[k_pt]? = some (a_pt, .inl (cy 1, 64, .inl (ni pt)))) (hb_pt : ∀ i, pt i < 2 ^ 31) {k_pn : Nat} {pn : Nat → Nat} (hA_pn : ws[k_pn]? = some (a_pn, .inl (cy 1, 64, .inl (ni pn)))) (hb_pn : ∀ i, pn i < 2 ^ 31) {k_op : Nat} {op : Nat → Nat} (hA_op : ws[k_op]? = some (a_op, .inl (cy 1, 64, .inl (ni op)))) (hb_op : ∀ i, op i < 2 ^ 31) (hnb : nb ≤ 64) {q num port : Nat} (hq9 : q < 2 ^ 31) (hnu : num < 2 ^ 31) (hpo : port < 2 ^ 31) : RO l yX12_findOuter cX12_findOuter 5 (some .int) 0 0 [.ref mo, .int (nI q), .int (nI num), .int (nI port)] D cy ws (.int (tg_num (tg_first (fun k => decide (pt k = q ∧ pn k = num ∧ op k = port)) nb) nb)) := by
  refine ROi (by decide) (lv0 := [(0, .ref mo), (1, .int (nI q)), (2, .int (nI num)), (3, .int (nI port))]) rfl (Nat.le_of_ble_eq_true rfl) ?_
  intro p e s m args below meth c ls Q S hP hK hend hl
  have hx := S.1
  have hb := S.2.1
  have hown : s.vm.findClass RX12 = some m.cls := S.2.2.2.1
  have ht : ∀ w ∈ lw_g, w.before args s = true := fun w h => S.2.2.2.2 w (List.mem_cons_of_mem _ h)
  refine nv_iconst (k := 0) hx hb dX12_findOuter_0 rfl ?_
  refine lv_istore (lv' := [(4, .int (nI 0)), (0, .ref mo), (1, .int (nI q)), (2, .int (nI num)), (3, .int (nI port))]) hx hb dX12_findOuter_1 hl (by decide) rfl (fun ls hl => ?_)
  have L3 : ∀ (fu : Nat) (i : Nat), nb - i < fu → i ≤ nb → (∀ j, j < i → (fun k => decide (pt k = q ∧ pn k = num ∧ op k = port)) j = false) → ∀ ls : Array Slot, lv_has ls 5 [(0, .ref mo), (1, .int (nI q)), (2, .int (nI num)), (3, .int (nI port)), (4, .int (nI i))] → W p l e (rmo 0 0) s m args below meth c s.heap [] 0 0 Q (F0 m 3 ls []) := by
    intro fu
    induction fu with
    | zero => intro i h9; omega
    | succ fu ih =>
      intro i hfu hi9 hno ls hl
      refine lv_iload hx hb dX12_findOuter_3 (lv_at hl 4 rfl) ?_
      refine lv_aload_n hx hb dX12_findOuter_5 rfl (lv_at hl 0 rfl) ?_
      refine va_get (ci := 9) (C := RX12) (T := TX12) (N := 28) hx hb ht iFX12 hown hK hP km hm0 rfl 11 (by decide) (ht _ kw4_121) (fun _ h9 => h9) hf_bindings dX12_findOuter_6 ?_
      refine nv_icmp_ge (tgt := 54) hx hb dX12_findOuter_9 (by decide) (by omega) (by omega) (fun h9 => ?_) (fun h9 => ?_)
      · skip
        refine lv_iconst (v := -1) hx hb dX12_findOuter_54 (by decide) ?_
        exact hend ((fi_no (fun j hj => hno j (by omega)))) dX12_findOuter_55
      refine lv_aload_n hx hb dX12_findOuter_12 rfl (lv_at hl 0 rfl) ?_
      refine va_get (ci := 9) (C := RX12) (T := TX12) (N := 28) hx hb ht iFX12 hown hK hP km hm0 rfl 12 (by decide) (ht _ kw4_122) (fun _ h9 => h9) hf_protocol dX12_findOuter_13 ?_
      refine lv_iload hx hb dX12_findOuter_16 (lv_at hl 4 rfl) ?_
      refine nv_iald hx hb hK hP k_pt hA_pt (by omega) (by omega) dX12_findOuter_18 ?_
      have hq18 := hb_pt (i)
      refine lv_iload_n hx hb dX12_findOuter_19 rfl (lv_at hl 1 rfl) ?_
      refine nv_icmp_ne (tgt := 48) hx hb dX12_findOuter_20 (by decide) (by omega) (by omega) (fun h20 => ?_) (fun h20 => ?_)
      · skip
        refine lv_iinc (v := (nI (i + 1))) (lv' := [(4, .int (nI (i + 1))), (0, .ref mo), (1, .int (nI q)), (2, .int (nI num)), (3, .int (nI port))]) hx hb dX12_findOuter_48 hl (k := 4) rfl (nI_inc _ _) (by decide) rfl (fun ls hl => ?_)
        refine lv_goto (tgt := 3) hx hb dX12_findOuter_51 (by decide) ?_
        exact ih (i + 1) (by omega) (by omega) (no_step hno (decide_eq_false (by omega))) ls (lv_sub hl [1, 2, 3, 4, 0] rfl)
      refine lv_aload_n hx hb dX12_findOuter_23 rfl (lv_at hl 0 rfl) ?_
      refine va_get (ci := 9) (C := RX12) (T := TX12) (N := 28) hx hb ht iFX12 hown hK hP km hm0 rfl 16 (by decide) (ht _ kw4_126) (fun _ h9 => h9) hf_outer dX12_findOuter_24 ?_
      refine lv_iload hx hb dX12_findOuter_27 (lv_at hl 4 rfl) ?_
      refine nv_iald hx hb hK hP k_pn hA_pn (by omega) (by omega) dX12_findOuter_29 ?_
      have hq29 := hb_pn (i)
      refine lv_iload_n hx hb dX12_findOuter_30 rfl (lv_at hl 2 rfl) ?_
      refine nv_icmp_ne (tgt := 48) hx hb dX12_findOuter_31 (by decide) (by omega) (by omega) (fun h31 => ?_) (fun h31 => ?_)
      · skip
        refine lv_iinc (v := (nI (i + 1))) (lv' := [(4, .int (nI (i + 1))), (0, .ref mo), (1, .int (nI q)), (2, .int (nI num)), (3, .int (nI port))]) hx hb dX12_findOuter_48 hl (k := 4) rfl (nI_inc _ _) (by decide) rfl (fun ls hl => ?_)
        refine lv_goto (tgt := 3) hx hb dX12_findOuter_51 (by decide) ?_
        exact ih (i + 1) (by omega) (by omega) (no_step hno (decide_eq_false (by omega))) ls (lv_sub hl [1, 2, 3, 4, 0] rfl)
      refine lv_aload_n hx hb dX12_findOuter_34 rfl (lv_at hl 0 rfl) ?_
      refine va_get (ci := 9) (C := RX12) (T := TX12) (N := 28) hx hb ht iFX12 hown hK hP km hm0 rfl 17 (by decide) (ht _ kw4_127) (fun _ h9 => h9) hf_outerPort dX12_findOuter_35 ?_
      refine lv_iload hx hb dX12_findOuter_38 (lv_at hl 4 rfl) ?_
      refine nv_iald hx hb hK hP k_op hA_op (by omega) (by omega) dX12_findOuter_40 ?_
      have hq40 := hb_op (i)
      refine lv_iload_n hx hb dX12_findOuter_41 rfl (lv_at hl 3 rfl) ?_
      refine nv_icmp_ne (tgt := 48) hx hb dX12_findOuter_42 (by decide) (by omega) (by omega) (fun h42 => ?_) (fun h42 => ?_)
      · skip
        refine lv_iinc (v := (nI (i + 1))) (lv' := [(4, .int (nI (i + 1))), (0, .ref mo), (1, .int (nI q)), (2, .int (nI num)), (3, .int (nI port))]) hx hb dX12_findOuter_48 hl (k := 4) rfl (nI_inc _ _) (by decide) rfl (fun ls hl => ?_)
        refine lv_goto (tgt := 3) hx hb dX12_findOuter_51 (by decide) ?_
        exact ih (i + 1) (by omega) (by omega) (no_step hno (decide_eq_false (by omega))) ls (lv_sub hl [1, 2, 3, 4, 0] rfl)
      refine lv_iload hx hb dX12_findOuter_45 (lv_at hl 4 rfl) ?_
      exact hend ((fi_at (by omega) (decide_eq_true (by omega)) hno)) dX12_findOuter_47
  exact L3 (nb + 1) 0 (by omega) (by omega) (fun j hj => absurd hj (by omega)) ls (lv_sub hl [1, 2, 3, 4, 0] rfl)
theorem dX12_findSession_0 : decode cX12_findSession 0 = .ok (.iconst 0, 1) := by decide +kernel
theorem dX12_findSession_1 : decode cX12_findSession 1 = .ok (.istore 4, 2) := by decide +kernel
theorem dX12_findSession_3 : decode cX12_findSession 3 = .ok (.iload 4, 2) := by decide +kernel
theorem dX12_findSession_5 : decode cX12_findSession 5 = .ok (.aload_n 0, 1) := by decide +kernel
theorem dX12_findSession_6 : decode cX12_findSession 6 = .ok (.getfield 83, 3) := by decide +kernel
theorem dX12_findSession_9 : decode cX12_findSession 9 = .ok (.if_icmp .ge 45, 3) := by decide +kernel
theorem dX12_findSession_12 : decode cX12_findSession 12 = .ok (.aload_n 0, 1) := by decide +kernel
theorem dX12_findSession_13 : decode cX12_findSession 13 = .ok (.getfield 42, 3) := by decide +kernel
theorem dX12_findSession_16 : decode cX12_findSession 16 = .ok (.iload 4, 2) := by decide +kernel
theorem dX12_findSession_18 : decode cX12_findSession 18 = .ok (.iaload, 1) := by decide +kernel
theorem dX12_findSession_19 : decode cX12_findSession 19 = .ok (.iload_n 1, 1) := by decide +kernel
theorem dX12_findSession_20 : decode cX12_findSession 20 = .ok (.if_icmp .ne 28, 3) := by decide +kernel
theorem dX12_findSession_23 : decode cX12_findSession 23 = .ok (.aload_n 0, 1) := by decide +kernel
theorem dX12_findSession_24 : decode cX12_findSession 24 = .ok (.getfield 45, 3) := by decide +kernel
theorem dX12_findSession_27 : decode cX12_findSession 27 = .ok (.iload 4, 2) := by decide +kernel
theorem dX12_findSession_29 : decode cX12_findSession 29 = .ok (.iaload, 1) := by decide +kernel
theorem dX12_findSession_30 : decode cX12_findSession 30 = .ok (.iload_n 2, 1) := by decide +kernel
theorem dX12_findSession_31 : decode cX12_findSession 31 = .ok (.if_icmp .ne 17, 3) := by decide +kernel
theorem dX12_findSession_34 : decode cX12_findSession 34 = .ok (.aload_n 0, 1) := by decide +kernel
theorem dX12_findSession_35 : decode cX12_findSession 35 = .ok (.getfield 48, 3) := by decide +kernel
theorem dX12_findSession_38 : decode cX12_findSession 38 = .ok (.iload 4, 2) := by decide +kernel
theorem dX12_findSession_40 : decode cX12_findSession 40 = .ok (.iaload, 1) := by decide +kernel
theorem dX12_findSession_41 : decode cX12_findSession 41 = .ok (.iload_n 3, 1) := by decide +kernel
theorem dX12_findSession_42 : decode cX12_findSession 42 = .ok (.if_icmp .ne 6, 3) := by decide +kernel
theorem dX12_findSession_45 : decode cX12_findSession 45 = .ok (.iload 4, 2) := by decide +kernel
theorem dX12_findSession_47 : decode cX12_findSession 47 = .ok (.ireturn, 1) := by decide +kernel
theorem dX12_findSession_48 : decode cX12_findSession 48 = .ok (.iinc 4 1, 3) := by decide +kernel
theorem dX12_findSession_51 : decode cX12_findSession 51 = .ok (.goto (-48), 3) := by decide +kernel
theorem dX12_findSession_54 : decode cX12_findSession 54 = .ok (.iconst (-1), 1) := by decide +kernel
theorem dX12_findSession_55 : decode cX12_findSession 55 = .ok (.ireturn, 1) := by decide +kernel
theorem yv_X12_findSession : YV RX12 yX12_findSession cX12_findSession 5 (some .int) 3 := ⟨kw5_88, kws_32, kw1_10, kw5_89, by decide +kernel⟩
set_option maxHeartbeats 4000000 in
set_option maxRecDepth 100000 in
theorem c_X12_findSession {l : Launch} {D : va_G} {cy : Nat → ClassId} {ws : va_W} {km mo : Nat} {fs : List Value} (hm0 : ws[km]? = some (mo, .inr (9, fs))) {ns : Nat} {a_so : Nat} {a_fa : Nat} {a_fp : Nat} (hf_sessions : fs[18]? = some (.int (nI ns))) (hf_bindingOf : fs[19]? = some (.ref a_so)) (hf_far : fs[20]? = some (.ref a_fa)) (hf_farPort : fs[21]? = some (.ref a_fp)) {k_so : Nat} {so : Nat → Nat} (hA_so : ws[k_so]? = some (a_so, .inl (cy 1, 128, .inl (ni so)))) (hb_so : ∀ i, so i < 2 ^ 31) {k_fa : Nat} {fa : Nat → Nat} (hA_fa : ws[k_fa]? = some (a_fa, .inl (cy 1, 128, .inl (ni fa)))) (hb_fa : ∀ i, fa i < 2 ^ 32) {k_fp : Nat} {fp : Nat → Nat} (hA_fp : ws[k_fp]? = some (a_fp, .inl (cy 1, 128, .inl (ni fp)))) (hb_fp : ∀ i, fp i < 2 ^ 31) (hnb : ns ≤ 128) {b x port : Nat} (hb9 : b < 2 ^ 31) (hx0 : x < 2 ^ 32) (hpo : port < 2 ^ 31) : RO l yX12_findSession cX12_findSession 5 (some .int) 0 0 [.ref mo, .int (nI b), .int (nI x), .int (nI port)] D cy ws (.int (tg_num (tg_first (fun k => decide (so k = b ∧ fa k = x ∧ fp k = port)) ns) ns)) := by
  refine ROi (by decide) (lv0 := [(0, .ref mo), (1, .int (nI b)), (2, .int (nI x)), (3, .int (nI port))]) rfl (Nat.le_of_ble_eq_true rfl) ?_
  intro p e s m args below meth c ls Q S hP hK hend hl
  have hx := S.1
  have hb := S.2.1
  have hown : s.vm.findClass RX12 = some m.cls := S.2.2.2.1
  have ht : ∀ w ∈ lw_g, w.before args s = true := fun w h => S.2.2.2.2 w (List.mem_cons_of_mem _ h)
  refine nv_iconst (k := 0) hx hb dX12_findSession_0 rfl ?_
  refine lv_istore (lv' := [(4, .int (nI 0)), (0, .ref mo), (1, .int (nI b)), (2, .int (nI x)), (3, .int (nI port))]) hx hb dX12_findSession_1 hl (by decide) rfl (fun ls hl => ?_)
  have L3 : ∀ (fu : Nat) (i : Nat), ns - i < fu → i ≤ ns → (∀ j, j < i → (fun k => decide (so k = b ∧ fa k = x ∧ fp k = port)) j = false) → ∀ ls : Array Slot, lv_has ls 5 [(0, .ref mo), (1, .int (nI b)), (2, .int (nI x)), (3, .int (nI port)), (4, .int (nI i))] → W p l e (rmo 0 0) s m args below meth c s.heap [] 0 0 Q (F0 m 3 ls []) := by
    intro fu
    induction fu with
    | zero => intro i h9; omega
    | succ fu ih =>
      intro i hfu hi9 hno ls hl
      refine lv_iload hx hb dX12_findSession_3 (lv_at hl 4 rfl) ?_
      refine lv_aload_n hx hb dX12_findSession_5 rfl (lv_at hl 0 rfl) ?_
      refine va_get (ci := 9) (C := RX12) (T := TX12) (N := 28) hx hb ht iFX12 hown hK hP km hm0 rfl 18 (by decide) (ht _ kw4_128) (fun _ h9 => h9) hf_sessions dX12_findSession_6 ?_
      refine nv_icmp_ge (tgt := 54) hx hb dX12_findSession_9 (by decide) (by omega) (by omega) (fun h9 => ?_) (fun h9 => ?_)
      · skip
        refine lv_iconst (v := -1) hx hb dX12_findSession_54 (by decide) ?_
        exact hend ((fi_no (fun j hj => hno j (by omega)))) dX12_findSession_55
      refine lv_aload_n hx hb dX12_findSession_12 rfl (lv_at hl 0 rfl) ?_
      refine va_get (ci := 9) (C := RX12) (T := TX12) (N := 28) hx hb ht iFX12 hown hK hP km hm0 rfl 19 (by decide) (ht _ kw4_129) (fun _ h9 => h9) hf_bindingOf dX12_findSession_13 ?_
      refine lv_iload hx hb dX12_findSession_16 (lv_at hl 4 rfl) ?_
      refine nv_iald hx hb hK hP k_so hA_so (by omega) (by omega) dX12_findSession_18 ?_
      have hq18 := hb_so (i)
      refine lv_iload_n hx hb dX12_findSession_19 rfl (lv_at hl 1 rfl) ?_
      refine nv_icmp_ne (tgt := 48) hx hb dX12_findSession_20 (by decide) (by omega) (by omega) (fun h20 => ?_) (fun h20 => ?_)
      · skip
        refine lv_iinc (v := (nI (i + 1))) (lv' := [(4, .int (nI (i + 1))), (0, .ref mo), (1, .int (nI b)), (2, .int (nI x)), (3, .int (nI port))]) hx hb dX12_findSession_48 hl (k := 4) rfl (nI_inc _ _) (by decide) rfl (fun ls hl => ?_)
        refine lv_goto (tgt := 3) hx hb dX12_findSession_51 (by decide) ?_
        exact ih (i + 1) (by omega) (by omega) (no_step hno (decide_eq_false (by omega))) ls (lv_sub hl [1, 2, 3, 4, 0] rfl)
      refine lv_aload_n hx hb dX12_findSession_23 rfl (lv_at hl 0 rfl) ?_
      refine va_get (ci := 9) (C := RX12) (T := TX12) (N := 28) hx hb ht iFX12 hown hK hP km hm0 rfl 20 (by decide) (ht _ kw4_130) (fun _ h9 => h9) hf_far dX12_findSession_24 ?_
      refine lv_iload hx hb dX12_findSession_27 (lv_at hl 4 rfl) ?_
      refine nv_iald hx hb hK hP k_fa hA_fa (by omega) (by omega) dX12_findSession_29 ?_
      have hq29 := hb_fa (i)
      refine lv_iload_n hx hb dX12_findSession_30 rfl (lv_at hl 2 rfl) ?_
      refine nv_icmp_new (tgt := 48) hx hb dX12_findSession_31 (by decide) (by omega) (by omega) (fun h31 => ?_) (fun h31 => ?_)
      · skip
        refine lv_iinc (v := (nI (i + 1))) (lv' := [(4, .int (nI (i + 1))), (0, .ref mo), (1, .int (nI b)), (2, .int (nI x)), (3, .int (nI port))]) hx hb dX12_findSession_48 hl (k := 4) rfl (nI_inc _ _) (by decide) rfl (fun ls hl => ?_)
        refine lv_goto (tgt := 3) hx hb dX12_findSession_51 (by decide) ?_
        exact ih (i + 1) (by omega) (by omega) (no_step hno (decide_eq_false (by omega))) ls (lv_sub hl [1, 2, 3, 4, 0] rfl)
      refine lv_aload_n hx hb dX12_findSession_34 rfl (lv_at hl 0 rfl) ?_
      refine va_get (ci := 9) (C := RX12) (T := TX12) (N := 28) hx hb ht iFX12 hown hK hP km hm0 rfl 21 (by decide) (ht _ kw4_131) (fun _ h9 => h9) hf_farPort dX12_findSession_35 ?_
      refine lv_iload hx hb dX12_findSession_38 (lv_at hl 4 rfl) ?_
      refine nv_iald hx hb hK hP k_fp hA_fp (by omega) (by omega) dX12_findSession_40 ?_
      have hq40 := hb_fp (i)
      refine lv_iload_n hx hb dX12_findSession_41 rfl (lv_at hl 3 rfl) ?_
      refine nv_icmp_ne (tgt := 48) hx hb dX12_findSession_42 (by decide) (by omega) (by omega) (fun h42 => ?_) (fun h42 => ?_)
      · skip
        refine lv_iinc (v := (nI (i + 1))) (lv' := [(4, .int (nI (i + 1))), (0, .ref mo), (1, .int (nI b)), (2, .int (nI x)), (3, .int (nI port))]) hx hb dX12_findSession_48 hl (k := 4) rfl (nI_inc _ _) (by decide) rfl (fun ls hl => ?_)
        refine lv_goto (tgt := 3) hx hb dX12_findSession_51 (by decide) ?_
        exact ih (i + 1) (by omega) (by omega) (no_step hno (decide_eq_false (by omega))) ls (lv_sub hl [1, 2, 3, 4, 0] rfl)
      refine lv_iload hx hb dX12_findSession_45 (lv_at hl 4 rfl) ?_
      exact hend ((fi_at (by omega) (decide_eq_true (by omega)) hno)) dX12_findSession_47
  exact L3 (ns + 1) 0 (by omega) (by omega) (fun j hj => absurd hj (by omega)) ls (lv_sub hl [1, 2, 3, 4, 0] rfl)
theorem dX12_sessionsOf_0 : decode cX12_sessionsOf 0 = .ok (.iconst 0, 1) := by decide +kernel
theorem dX12_sessionsOf_1 : decode cX12_sessionsOf 1 = .ok (.istore_n 2, 1) := by decide +kernel
theorem dX12_sessionsOf_2 : decode cX12_sessionsOf 2 = .ok (.iconst 0, 1) := by decide +kernel
theorem dX12_sessionsOf_3 : decode cX12_sessionsOf 3 = .ok (.istore_n 3, 1) := by decide +kernel
theorem dX12_sessionsOf_4 : decode cX12_sessionsOf 4 = .ok (.iload_n 3, 1) := by decide +kernel
theorem dX12_sessionsOf_5 : decode cX12_sessionsOf 5 = .ok (.aload_n 0, 1) := by decide +kernel
theorem dX12_sessionsOf_6 : decode cX12_sessionsOf 6 = .ok (.getfield 83, 3) := by decide +kernel
theorem dX12_sessionsOf_9 : decode cX12_sessionsOf 9 = .ok (.if_icmp .ge 27, 3) := by decide +kernel
theorem dX12_sessionsOf_12 : decode cX12_sessionsOf 12 = .ok (.iload_n 2, 1) := by decide +kernel
theorem dX12_sessionsOf_13 : decode cX12_sessionsOf 13 = .ok (.aload_n 0, 1) := by decide +kernel
theorem dX12_sessionsOf_14 : decode cX12_sessionsOf 14 = .ok (.getfield 42, 3) := by decide +kernel
theorem dX12_sessionsOf_17 : decode cX12_sessionsOf 17 = .ok (.iload_n 3, 1) := by decide +kernel
theorem dX12_sessionsOf_18 : decode cX12_sessionsOf 18 = .ok (.iaload, 1) := by decide +kernel
theorem dX12_sessionsOf_19 : decode cX12_sessionsOf 19 = .ok (.iload_n 1, 1) := by decide +kernel
theorem dX12_sessionsOf_20 : decode cX12_sessionsOf 20 = .ok (.if_icmp .ne 7, 3) := by decide +kernel
theorem dX12_sessionsOf_23 : decode cX12_sessionsOf 23 = .ok (.iconst 1, 1) := by decide +kernel
theorem dX12_sessionsOf_24 : decode cX12_sessionsOf 24 = .ok (.goto 4, 3) := by decide +kernel
theorem dX12_sessionsOf_27 : decode cX12_sessionsOf 27 = .ok (.iconst 0, 1) := by decide +kernel
theorem dX12_sessionsOf_28 : decode cX12_sessionsOf 28 = .ok (.iadd, 1) := by decide +kernel
theorem dX12_sessionsOf_29 : decode cX12_sessionsOf 29 = .ok (.istore_n 2, 1) := by decide +kernel
theorem dX12_sessionsOf_30 : decode cX12_sessionsOf 30 = .ok (.iinc 3 1, 3) := by decide +kernel
theorem dX12_sessionsOf_33 : decode cX12_sessionsOf 33 = .ok (.goto (-29), 3) := by decide +kernel
theorem dX12_sessionsOf_36 : decode cX12_sessionsOf 36 = .ok (.iload_n 2, 1) := by decide +kernel
theorem dX12_sessionsOf_37 : decode cX12_sessionsOf 37 = .ok (.ireturn, 1) := by decide +kernel
theorem yv_X12_sessionsOf : YV RX12 yX12_sessionsOf cX12_sessionsOf 4 (some .int) 1 := ⟨kw5_23, kws_24, kw1_10, kw5_24, by decide +kernel⟩
set_option maxHeartbeats 4000000 in
set_option maxRecDepth 100000 in
theorem c_X12_sessionsOf {l : Launch} {D : va_G} {cy : Nat → ClassId} {ws : va_W} {km mo : Nat} {fs : List Value} (hm0 : ws[km]? = some (mo, .inr (9, fs))) {ns : Nat} {a_so : Nat} (hf_sessions : fs[18]? = some (.int (nI ns))) (hf_bindingOf : fs[19]? = some (.ref a_so)) {k_so : Nat} {so : Nat → Nat} (hA_so : ws[k_so]? = some (a_so, .inl (cy 1, 128, .inl (ni so)))) (hb_so : ∀ i, so i < 2 ^ 31) (hns : ns ≤ 128) {b : Nat} (hb9 : b < 2 ^ 31) : RO l yX12_sessionsOf cX12_sessionsOf 4 (some .int) 0 0 [.ref mo, .int (nI b)] D cy ws (.int (nI (tg_cnt (fun k => decide (so k = b)) ns))) := by
  refine ROi (by decide) (lv0 := [(0, .ref mo), (1, .int (nI b))]) rfl (Nat.le_of_ble_eq_true rfl) ?_
  intro p e s m args below meth c ls Q S hP hK hend hl
  have hx := S.1
  have hb := S.2.1
  have hown : s.vm.findClass RX12 = some m.cls := S.2.2.2.1
  have ht : ∀ w ∈ lw_g, w.before args s = true := fun w h => S.2.2.2.2 w (List.mem_cons_of_mem _ h)
  refine nv_iconst (k := 0) hx hb dX12_sessionsOf_0 rfl ?_
  refine lv_istore_n (lv' := [(2, .int (nI 0)), (0, .ref mo), (1, .int (nI b))]) hx hb dX12_sessionsOf_1 rfl hl (by decide) rfl (fun ls hl => ?_)
  refine nv_iconst (k := 0) hx hb dX12_sessionsOf_2 rfl ?_
  refine lv_istore_n (lv' := [(3, .int (nI 0)), (2, .int (nI 0)), (0, .ref mo), (1, .int (nI b))]) hx hb dX12_sessionsOf_3 rfl hl (by decide) rfl (fun ls hl => ?_)
  have L4 : ∀ (fu : Nat) (i : Nat) (t : Nat), ns - i < fu → i ≤ ns → t = tg_cnt (fun k => decide (so k = b)) i → ∀ ls : Array Slot, lv_has ls 4 [(0, .ref mo), (1, .int (nI b)), (2, .int (nI t)), (3, .int (nI i))] → W p l e (rmo 0 0) s m args below meth c s.heap [] 0 0 Q (F0 m 4 ls []) := by
    intro fu
    induction fu with
    | zero => intro i t h9; omega
    | succ fu ih =>
      intro i t hfu hi ht9 ls hl
      have hcl := tg_cnt_le (fun k => decide (so k = b)) i
      refine lv_iload_n hx hb dX12_sessionsOf_4 rfl (lv_at hl 3 rfl) ?_
      refine lv_aload_n hx hb dX12_sessionsOf_5 rfl (lv_at hl 0 rfl) ?_
      refine va_get (ci := 9) (C := RX12) (T := TX12) (N := 28) hx hb ht iFX12 hown hK hP km hm0 rfl 18 (by decide) (ht _ kw4_128) (fun _ h9 => h9) hf_sessions dX12_sessionsOf_6 ?_
      refine nv_icmp_ge (tgt := 36) hx hb dX12_sessionsOf_9 (by decide) (by omega) (by omega) (fun h9 => ?_) (fun h9 => ?_)
      · skip
        refine lv_iload_n hx hb dX12_sessionsOf_36 rfl (lv_at hl 2 rfl) ?_
        exact hend ((congrArg nI (by rw [ht9, show i = ns by omega]))) dX12_sessionsOf_37
      refine lv_iload_n hx hb dX12_sessionsOf_12 rfl (lv_at hl 2 rfl) ?_
      refine lv_aload_n hx hb dX12_sessionsOf_13 rfl (lv_at hl 0 rfl) ?_
      refine va_get (ci := 9) (C := RX12) (T := TX12) (N := 28) hx hb ht iFX12 hown hK hP km hm0 rfl 19 (by decide) (ht _ kw4_129) (fun _ h9 => h9) hf_bindingOf dX12_sessionsOf_14 ?_
      refine lv_iload_n hx hb dX12_sessionsOf_17 rfl (lv_at hl 3 rfl) ?_
      refine nv_iald hx hb hK hP k_so hA_so (by omega) (by omega) dX12_sessionsOf_18 ?_
      have hq18 := hb_so (i)
      refine lv_iload_n hx hb dX12_sessionsOf_19 rfl (lv_at hl 1 rfl) ?_
      refine nv_icmp_ne (tgt := 27) hx hb dX12_sessionsOf_20 (by decide) (by omega) (by omega) (fun h20 => ?_) (fun h20 => ?_)
      · skip
        refine nv_iconst (k := 0) hx hb dX12_sessionsOf_27 rfl ?_
        refine nv_iadd hx hb dX12_sessionsOf_28 ?_
        refine lv_istore_n (lv' := [(2, .int (nI (t + 0))), (0, .ref mo), (1, .int (nI b)), (3, .int (nI i))]) hx hb dX12_sessionsOf_29 rfl hl (by decide) rfl (fun ls hl => ?_)
        refine lv_iinc (v := (nI (i + 1))) (lv' := [(3, .int (nI (i + 1))), (2, .int (nI (t + 0))), (0, .ref mo), (1, .int (nI b))]) hx hb dX12_sessionsOf_30 hl (k := 3) rfl (nI_inc _ _) (by decide) rfl (fun ls hl => ?_)
        refine lv_goto (tgt := 4) hx hb dX12_sessionsOf_33 (by decide) ?_
        exact ih (i + 1) (t + 0) (by omega) (by omega) (by simp only [tg_cnt, decide_eq_true_eq]; split <;> omega) ls (lv_sub hl [2, 3, 1, 0] rfl)
      refine nv_iconst (k := 1) hx hb dX12_sessionsOf_23 rfl ?_
      refine lv_goto (tgt := 28) hx hb dX12_sessionsOf_24 (by decide) ?_
      refine nv_iadd hx hb dX12_sessionsOf_28 ?_
      refine lv_istore_n (lv' := [(2, .int (nI (t + 1))), (0, .ref mo), (1, .int (nI b)), (3, .int (nI i))]) hx hb dX12_sessionsOf_29 rfl hl (by decide) rfl (fun ls hl => ?_)
      refine lv_iinc (v := (nI (i + 1))) (lv' := [(3, .int (nI (i + 1))), (2, .int (nI (t + 1))), (0, .ref mo), (1, .int (nI b))]) hx hb dX12_sessionsOf_30 hl (k := 3) rfl (nI_inc _ _) (by decide) rfl (fun ls hl => ?_)
      refine lv_goto (tgt := 4) hx hb dX12_sessionsOf_33 (by decide) ?_
      exact ih (i + 1) (t + 1) (by omega) (by omega) (by simp only [tg_cnt, decide_eq_true_eq]; split <;> omega) ls (lv_sub hl [2, 3, 1, 0] rfl)
  exact L4 (ns + 1) 0 0 (by omega) (by omega) rfl ls (lv_sub hl [2, 3, 1, 0] rfl)
