theorem dX12_bestPool_0 : decode cX12_bestPool 0 = .ok (.iconst 0, 1) := by decide +kernel
theorem dX12_bestPool_1 : decode cX12_bestPool 1 = .ok (.istore 5, 2) := by decide +kernel
theorem dX12_bestPool_3 : decode cX12_bestPool 3 = .ok (.iload 5, 2) := by decide +kernel
theorem dX12_bestPool_5 : decode cX12_bestPool 5 = .ok (.aload_n 0, 1) := by decide +kernel
theorem dX12_bestPool_6 : decode cX12_bestPool 6 = .ok (.getfield 80, 3) := by decide +kernel
theorem dX12_bestPool_9 : decode cX12_bestPool 9 = .ok (.if_icmp .ge 41, 3) := by decide +kernel
theorem dX12_bestPool_12 : decode cX12_bestPool 12 = .ok (.aload_n 0, 1) := by decide +kernel
theorem dX12_bestPool_13 : decode cX12_bestPool 13 = .ok (.getfield 26, 3) := by decide +kernel
theorem dX12_bestPool_16 : decode cX12_bestPool 16 = .ok (.iload 5, 2) := by decide +kernel
theorem dX12_bestPool_18 : decode cX12_bestPool 18 = .ok (.laload, 1) := by decide +kernel
theorem dX12_bestPool_19 : decode cX12_bestPool 19 = .ok (.lload_n 1, 1) := by decide +kernel
theorem dX12_bestPool_20 : decode cX12_bestPool 20 = .ok (.lcmp, 1) := by decide +kernel
theorem dX12_bestPool_21 : decode cX12_bestPool 21 = .ok (.ifCond .ne 23, 3) := by decide +kernel
theorem dX12_bestPool_24 : decode cX12_bestPool 24 = .ok (.aload_n 0, 1) := by decide +kernel
theorem dX12_bestPool_25 : decode cX12_bestPool 25 = .ok (.getfield 30, 3) := by decide +kernel
theorem dX12_bestPool_28 : decode cX12_bestPool 28 = .ok (.iload 5, 2) := by decide +kernel
theorem dX12_bestPool_30 : decode cX12_bestPool 30 = .ok (.laload, 1) := by decide +kernel
theorem dX12_bestPool_31 : decode cX12_bestPool 31 = .ok (.lload_n 3, 1) := by decide +kernel
theorem dX12_bestPool_32 : decode cX12_bestPool 32 = .ok (.lcmp, 1) := by decide +kernel
theorem dX12_bestPool_33 : decode cX12_bestPool 33 = .ok (.ifCond .ne 11, 3) := by decide +kernel
theorem dX12_bestPool_36 : decode cX12_bestPool 36 = .ok (.aload_n 0, 1) := by decide +kernel
theorem dX12_bestPool_37 : decode cX12_bestPool 37 = .ok (.getfield 36, 3) := by decide +kernel
theorem dX12_bestPool_40 : decode cX12_bestPool 40 = .ok (.iload 5, 2) := by decide +kernel
theorem dX12_bestPool_42 : decode cX12_bestPool 42 = .ok (.iaload, 1) := by decide +kernel
theorem dX12_bestPool_43 : decode cX12_bestPool 43 = .ok (.ireturn, 1) := by decide +kernel
theorem dX12_bestPool_44 : decode cX12_bestPool 44 = .ok (.iinc 5 1, 3) := by decide +kernel
theorem dX12_bestPool_47 : decode cX12_bestPool 47 = .ok (.goto (-44), 3) := by decide +kernel
theorem dX12_bestPool_50 : decode cX12_bestPool 50 = .ok (.iconst 0, 1) := by decide +kernel
theorem dX12_bestPool_51 : decode cX12_bestPool 51 = .ok (.istore 5, 2) := by decide +kernel
theorem dX12_bestPool_53 : decode cX12_bestPool 53 = .ok (.iconst 0, 1) := by decide +kernel
theorem dX12_bestPool_54 : decode cX12_bestPool 54 = .ok (.istore 6, 2) := by decide +kernel
theorem dX12_bestPool_56 : decode cX12_bestPool 56 = .ok (.iconst 0, 1) := by decide +kernel
theorem dX12_bestPool_57 : decode cX12_bestPool 57 = .ok (.istore 7, 2) := by decide +kernel
theorem dX12_bestPool_59 : decode cX12_bestPool 59 = .ok (.iload 7, 2) := by decide +kernel
theorem dX12_bestPool_61 : decode cX12_bestPool 61 = .ok (.aload_n 0, 1) := by decide +kernel
theorem dX12_bestPool_62 : decode cX12_bestPool 62 = .ok (.getfield 86, 3) := by decide +kernel
theorem dX12_bestPool_65 : decode cX12_bestPool 65 = .ok (.if_icmp .ge 72, 3) := by decide +kernel
theorem dX12_bestPool_68 : decode cX12_bestPool 68 = .ok (.iconst 0, 1) := by decide +kernel
theorem dX12_bestPool_69 : decode cX12_bestPool 69 = .ok (.istore 8, 2) := by decide +kernel
theorem dX12_bestPool_71 : decode cX12_bestPool 71 = .ok (.iconst 0, 1) := by decide +kernel
theorem dX12_bestPool_72 : decode cX12_bestPool 72 = .ok (.istore 9, 2) := by decide +kernel
theorem dX12_bestPool_74 : decode cX12_bestPool 74 = .ok (.iload 9, 2) := by decide +kernel
theorem dX12_bestPool_76 : decode cX12_bestPool 76 = .ok (.aload_n 0, 1) := by decide +kernel
theorem dX12_bestPool_77 : decode cX12_bestPool 77 = .ok (.getfield 80, 3) := by decide +kernel
theorem dX12_bestPool_80 : decode cX12_bestPool 80 = .ok (.if_icmp .ge 31, 3) := by decide +kernel
theorem dX12_bestPool_83 : decode cX12_bestPool 83 = .ok (.iload 8, 2) := by decide +kernel
theorem dX12_bestPool_85 : decode cX12_bestPool 85 = .ok (.aload_n 0, 1) := by decide +kernel
theorem dX12_bestPool_86 : decode cX12_bestPool 86 = .ok (.getfield 36, 3) := by decide +kernel
theorem dX12_bestPool_89 : decode cX12_bestPool 89 = .ok (.iload 9, 2) := by decide +kernel
theorem dX12_bestPool_91 : decode cX12_bestPool 91 = .ok (.iaload, 1) := by decide +kernel
theorem dX12_bestPool_92 : decode cX12_bestPool 92 = .ok (.iload 7, 2) := by decide +kernel
theorem dX12_bestPool_94 : decode cX12_bestPool 94 = .ok (.if_icmp .ne 7, 3) := by decide +kernel
theorem dX12_bestPool_97 : decode cX12_bestPool 97 = .ok (.iconst 1, 1) := by decide +kernel
theorem dX12_bestPool_98 : decode cX12_bestPool 98 = .ok (.goto 4, 3) := by decide +kernel
theorem dX12_bestPool_101 : decode cX12_bestPool 101 = .ok (.iconst 0, 1) := by decide +kernel
theorem dX12_bestPool_102 : decode cX12_bestPool 102 = .ok (.iadd, 1) := by decide +kernel
theorem dX12_bestPool_103 : decode cX12_bestPool 103 = .ok (.istore 8, 2) := by decide +kernel
theorem dX12_bestPool_105 : decode cX12_bestPool 105 = .ok (.iinc 9 1, 3) := by decide +kernel
theorem dX12_bestPool_108 : decode cX12_bestPool 108 = .ok (.goto (-34), 3) := by decide +kernel
theorem dX12_bestPool_111 : decode cX12_bestPool 111 = .ok (.iload 7, 2) := by decide +kernel
theorem dX12_bestPool_113 : decode cX12_bestPool 113 = .ok (.ifCond .eq 10, 3) := by decide +kernel
theorem dX12_bestPool_116 : decode cX12_bestPool 116 = .ok (.iload 8, 2) := by decide +kernel
theorem dX12_bestPool_118 : decode cX12_bestPool 118 = .ok (.iload 6, 2) := by decide +kernel
theorem dX12_bestPool_120 : decode cX12_bestPool 120 = .ok (.if_icmp .ge 11, 3) := by decide +kernel
theorem dX12_bestPool_123 : decode cX12_bestPool 123 = .ok (.iload 7, 2) := by decide +kernel
theorem dX12_bestPool_125 : decode cX12_bestPool 125 = .ok (.istore 5, 2) := by decide +kernel
theorem dX12_bestPool_127 : decode cX12_bestPool 127 = .ok (.iload 8, 2) := by decide +kernel
theorem dX12_bestPool_129 : decode cX12_bestPool 129 = .ok (.istore 6, 2) := by decide +kernel
theorem dX12_bestPool_131 : decode cX12_bestPool 131 = .ok (.iinc 7 1, 3) := by decide +kernel
theorem dX12_bestPool_134 : decode cX12_bestPool 134 = .ok (.goto (-75), 3) := by decide +kernel
theorem dX12_bestPool_137 : decode cX12_bestPool 137 = .ok (.iload 5, 2) := by decide +kernel
theorem dX12_bestPool_139 : decode cX12_bestPool 139 = .ok (.ireturn, 1) := by decide +kernel
theorem yv_X12_bestPool : YV RX12 yX12_bestPool cX12_bestPool 10 (some .int) 2 := ⟨kw5_96, kws_34, kw1_10, kw5_97, by decide +kernel⟩
set_option maxHeartbeats 4000000 in
set_option maxRecDepth 100000 in
theorem c_X12_bestPool {l : Launch} {D : va_G} {cy : Nat → ClassId} {ws : va_W} {km mo : Nat} {fs : List Value} (hm0 : ws[km]? = some (mo, .inr (9, fs))) {nb : Nat} {a_ih : Nat} {a_il : Nat} {a_pn : Nat} {u : Nat} (hf_bindings : fs[11]? = some (.int (nI nb))) (hf_innerHigh : fs[13]? = some (.ref a_ih)) (hf_innerLow : fs[14]? = some (.ref a_il)) (hf_outer : fs[16]? = some (.ref a_pn)) (hf_pools : fs[9]? = some (.int (nI u))) {k_ih : Nat} {ih : Nat → Nat} (hA_ih : ws[k_ih]? = some (a_ih, .inl (cy 2, 64, .inr (.inl (ln ih))))) (hb_ih : ∀ i, ih i < 2 ^ 64) {k_il : Nat} {il : Nat → Nat} (hA_il : ws[k_il]? = some (a_il, .inl (cy 2, 64, .inr (.inl (ln il))))) (hb_il : ∀ i, il i < 2 ^ 64) {k_pn : Nat} {pn : Nat → Nat} (hA_pn : ws[k_pn]? = some (a_pn, .inl (cy 1, 64, .inl (ni pn)))) (hb_pn : ∀ i, pn i < 2 ^ 31) (hnb : nb ≤ 64) (hu : u ≤ 4) (hu0 : 1 ≤ u) {hi lo : Nat} (hhi : hi < 2 ^ 64) (hlo : lo < 2 ^ 64) : RO l yX12_bestPool cX12_bestPool 10 (some .int) 0 0 [.ref mo, .long (lN (hi)), .long (lN (lo))] D cy ws (.int (nI (tg_best ih il pn nb u hi lo))) := by
  refine ROi (by decide) (lv0 := [(0, .ref mo), (1, .long (lN (hi))), (3, .long (lN (lo)))]) rfl (Nat.le_of_ble_eq_true rfl) ?_
  intro p e s m args below meth c ls Q S hP hK hend hl
  have hx := S.1
  have hb := S.2.1
  have hown : s.vm.findClass RX12 = some m.cls := S.2.2.2.1
  have ht : ∀ w ∈ lw_g, w.before args s = true := fun w h => S.2.2.2.2 w (List.mem_cons_of_mem _ h)
  refine nv_iconst (k := 0) hx hb dX12_bestPool_0 rfl ?_
  refine lv_istore (lv' := [(5, .int (nI 0)), (0, .ref mo), (1, .long (lN (hi))), (3, .long (lN (lo)))]) hx hb dX12_bestPool_1 hl (by decide) rfl (fun ls hl => ?_)
  have L3 : ∀ (fu : Nat) (i : Nat), nb - i < fu → i ≤ nb → (∀ j, j < i → (fun k => decide (ih k = hi ∧ il k = lo)) j = false) → ∀ ls : Array Slot, lv_has ls 10 [(0, .ref mo), (1, .long (lN (hi))), (3, .long (lN (lo))), (5, .int (nI i))] → W p l e (rmo 0 0) s m args below meth c s.heap [] 0 0 Q (F0 m 3 ls []) := by
    intro fu
    induction fu with
    | zero => intro i h9; omega
    | succ fu ih3 =>
      intro i hfu hi9 hno ls hl
      refine lv_iload hx hb dX12_bestPool_3 (lv_at hl 3 rfl) ?_
      refine lv_aload_n hx hb dX12_bestPool_5 rfl (lv_at hl 0 rfl) ?_
      refine va_get (ci := 9) (C := RX12) (T := TX12) (N := 28) hx hb ht iFX12 hown hK hP km hm0 rfl 11 (by decide) (ht _ kw4_121) (fun _ h9 => h9) hf_bindings dX12_bestPool_6 ?_
      refine nv_icmp_ge (tgt := 50) hx hb dX12_bestPool_9 (by decide) (by omega) (by omega) (fun h9 => ?_) (fun h9 => ?_)
      · skip
        refine nv_iconst (k := 0) hx hb dX12_bestPool_50 rfl ?_
        refine lv_istore (lv' := [(5, .int (nI 0)), (0, .ref mo), (1, .long (lN (hi))), (3, .long (lN (lo)))]) hx hb dX12_bestPool_51 hl (by decide) rfl (fun ls hl => ?_)
        refine nv_iconst (k := 0) hx hb dX12_bestPool_53 rfl ?_
        refine lv_istore (lv' := [(6, .int (nI 0)), (5, .int (nI 0)), (0, .ref mo), (1, .long (lN (hi))), (3, .long (lN (lo)))]) hx hb dX12_bestPool_54 hl (by decide) rfl (fun ls hl => ?_)
        refine nv_iconst (k := 0) hx hb dX12_bestPool_56 rfl ?_
        refine lv_istore (lv' := [(7, .int (nI 0)), (6, .int (nI 0)), (5, .int (nI 0)), (0, .ref mo), (1, .long (lN (hi))), (3, .long (lN (lo)))]) hx hb dX12_bestPool_57 hl (by decide) rfl (fun ls hl => ?_)
        have L59 : ∀ (fu : Nat) (k : Nat) (best : Nat) (few : Nat), u - k < fu → k ≤ u → best ≤ 4 ∧ few ≤ 64 → ((k = 0 ∧ best = 0 ∧ few = 0) ∨ (0 < k ∧ best = tg_few (fun z => tg_cnt (fun k => decide (pn k = z)) nb) (k - 1) ∧ few = (fun z => tg_cnt (fun k => decide (pn k = z)) nb) best)) → ∀ ls : Array Slot, lv_has ls 10 [(0, .ref mo), (1, .long (lN (hi))), (3, .long (lN (lo))), (5, .int (nI best)), (6, .int (nI few)), (7, .int (nI k))] → W p l e (rmo 0 0) s m args below meth c s.heap [] 0 0 Q (F0 m 59 ls []) := by
          intro fu
          induction fu with
          | zero => intro k best few h9; omega
          | succ fu ih59 =>
            intro k best few hfu hk hbf hinv ls hl
            refine lv_iload hx hb dX12_bestPool_59 (lv_at hl 5 rfl) ?_
            refine lv_aload_n hx hb dX12_bestPool_61 rfl (lv_at hl 0 rfl) ?_
            refine va_get (ci := 9) (C := RX12) (T := TX12) (N := 28) hx hb ht iFX12 hown hK hP km hm0 rfl 9 (by decide) (ht _ kw4_119) (fun _ h9 => h9) hf_pools dX12_bestPool_62 ?_
            refine nv_icmp_ge (tgt := 137) hx hb dX12_bestPool_65 (by decide) (by omega) (by omega) (fun h65 => ?_) (fun h65 => ?_)
            · skip
              refine lv_iload hx hb dX12_bestPool_137 (lv_at hl 3 rfl) ?_
              exact hend ((congrArg nI (by unfold tg_best; rw [tg_first_none (q := (fun k => decide (ih k = hi ∧ il k = lo))) (fun j hj => hno j (by omega)), if_neg (by omega)]; rw [show u - 1 = k - 1 by omega]; rcases hinv with z | z; omega; exact z.2.1))) dX12_bestPool_139
            refine nv_iconst (k := 0) hx hb dX12_bestPool_68 rfl ?_
            refine lv_istore (lv' := [(8, .int (nI 0)), (0, .ref mo), (1, .long (lN (hi))), (3, .long (lN (lo))), (5, .int (nI best)), (6, .int (nI few)), (7, .int (nI k))]) hx hb dX12_bestPool_69 hl (by decide) rfl (fun ls hl => ?_)
            refine nv_iconst (k := 0) hx hb dX12_bestPool_71 rfl ?_
            refine lv_istore (lv' := [(9, .int (nI 0)), (8, .int (nI 0)), (0, .ref mo), (1, .long (lN (hi))), (3, .long (lN (lo))), (5, .int (nI best)), (6, .int (nI few)), (7, .int (nI k))]) hx hb dX12_bestPool_72 hl (by decide) rfl (fun ls hl => ?_)
            have L74 : ∀ (fu : Nat) (t : Nat) (b9 : Nat), nb - b9 < fu → b9 ≤ nb → t = tg_cnt (fun x => decide (pn x = k)) b9 → ∀ ls : Array Slot, lv_has ls 10 [(0, .ref mo), (1, .long (lN (hi))), (3, .long (lN (lo))), (5, .int (nI best)), (6, .int (nI few)), (7, .int (nI k)), (8, .int (nI t)), (9, .int (nI b9))] → W p l e (rmo 0 0) s m args below meth c s.heap [] 0 0 Q (F0 m 74 ls []) := by
              intro fu
              induction fu with
              | zero => intro t b9 h9; omega
              | succ fu ih74 =>
                intro t b9 hfu hb8 ht9 ls hl
                have hcl := tg_cnt_le (fun x => decide (pn x = k)) b9
                refine lv_iload hx hb dX12_bestPool_74 (lv_at hl 7 rfl) ?_
                refine lv_aload_n hx hb dX12_bestPool_76 rfl (lv_at hl 0 rfl) ?_
                refine va_get (ci := 9) (C := RX12) (T := TX12) (N := 28) hx hb ht iFX12 hown hK hP km hm0 rfl 11 (by decide) (ht _ kw4_121) (fun _ h9 => h9) hf_bindings dX12_bestPool_77 ?_
                refine nv_icmp_ge (tgt := 111) hx hb dX12_bestPool_80 (by decide) (by omega) (by omega) (fun h80 => ?_) (fun h80 => ?_)
                · skip
                  have hT9 : t = (fun z => tg_cnt (fun k => decide (pn k = z)) nb) k := by rw [ht9, show b9 = nb by omega]
                  refine lv_iload hx hb dX12_bestPool_111 (lv_at hl 5 rfl) ?_
                  refine nv_if_eq (tgt := 123) hx hb dX12_bestPool_113 (by decide) (by omega) (fun h113 => ?_) (fun h113 => ?_)
                  · skip
                    refine lv_iload hx hb dX12_bestPool_123 (lv_at hl 5 rfl) ?_
                    refine lv_istore (lv' := [(5, .int (nI k)), (0, .ref mo), (1, .long (lN (hi))), (3, .long (lN (lo))), (6, .int (nI few)), (7, .int (nI k)), (8, .int (nI t)), (9, .int (nI b9))]) hx hb dX12_bestPool_125 hl (by decide) rfl (fun ls hl => ?_)
                    refine lv_iload hx hb dX12_bestPool_127 (lv_at hl 6 rfl) ?_
                    refine lv_istore (lv' := [(6, .int (nI t)), (5, .int (nI k)), (0, .ref mo), (1, .long (lN (hi))), (3, .long (lN (lo))), (7, .int (nI k)), (8, .int (nI t)), (9, .int (nI b9))]) hx hb dX12_bestPool_129 hl (by decide) rfl (fun ls hl => ?_)
                    refine lv_iinc (v := (nI (k + 1))) (lv' := [(7, .int (nI (k + 1))), (6, .int (nI t)), (5, .int (nI k)), (0, .ref mo), (1, .long (lN (hi))), (3, .long (lN (lo))), (8, .int (nI t)), (9, .int (nI b9))]) hx hb dX12_bestPool_131 hl (k := 5) rfl (nI_inc _ _) (by decide) rfl (fun ls hl => ?_)
                    refine lv_goto (tgt := 59) hx hb dX12_bestPool_134 (by decide) ?_
                    exact ih59 (k + 1) (k) (t) (by omega) (by omega) (by omega) (Or.inr (by first | exact (few_inv hinv hT9).1 (by omega) | exact (few_inv hinv hT9).2 (by omega) (by omega))) ls (lv_sub hl [3, 4, 5, 2, 1, 0] rfl)
                  refine lv_iload hx hb dX12_bestPool_116 (lv_at hl 6 rfl) ?_
                  refine lv_iload hx hb dX12_bestPool_118 (lv_at hl 4 rfl) ?_
                  refine nv_icmp_ge (tgt := 131) hx hb dX12_bestPool_120 (by decide) (by omega) (by omega) (fun h120 => ?_) (fun h120 => ?_)
                  · skip
                    refine lv_iinc (v := (nI (k + 1))) (lv' := [(7, .int (nI (k + 1))), (0, .ref mo), (1, .long (lN (hi))), (3, .long (lN (lo))), (5, .int (nI best)), (6, .int (nI few)), (8, .int (nI t)), (9, .int (nI b9))]) hx hb dX12_bestPool_131 hl (k := 5) rfl (nI_inc _ _) (by decide) rfl (fun ls hl => ?_)
                    refine lv_goto (tgt := 59) hx hb dX12_bestPool_134 (by decide) ?_
                    exact ih59 (k + 1) (best) (few) (by omega) (by omega) (by omega) (Or.inr (by first | exact (few_inv hinv hT9).1 (by omega) | exact (few_inv hinv hT9).2 (by omega) (by omega))) ls (lv_sub hl [1, 2, 3, 4, 5, 0] rfl)
                  refine lv_iload hx hb dX12_bestPool_123 (lv_at hl 5 rfl) ?_
                  refine lv_istore (lv' := [(5, .int (nI k)), (0, .ref mo), (1, .long (lN (hi))), (3, .long (lN (lo))), (6, .int (nI few)), (7, .int (nI k)), (8, .int (nI t)), (9, .int (nI b9))]) hx hb dX12_bestPool_125 hl (by decide) rfl (fun ls hl => ?_)
                  refine lv_iload hx hb dX12_bestPool_127 (lv_at hl 6 rfl) ?_
                  refine lv_istore (lv' := [(6, .int (nI t)), (5, .int (nI k)), (0, .ref mo), (1, .long (lN (hi))), (3, .long (lN (lo))), (7, .int (nI k)), (8, .int (nI t)), (9, .int (nI b9))]) hx hb dX12_bestPool_129 hl (by decide) rfl (fun ls hl => ?_)
                  refine lv_iinc (v := (nI (k + 1))) (lv' := [(7, .int (nI (k + 1))), (6, .int (nI t)), (5, .int (nI k)), (0, .ref mo), (1, .long (lN (hi))), (3, .long (lN (lo))), (8, .int (nI t)), (9, .int (nI b9))]) hx hb dX12_bestPool_131 hl (k := 5) rfl (nI_inc _ _) (by decide) rfl (fun ls hl => ?_)
                  refine lv_goto (tgt := 59) hx hb dX12_bestPool_134 (by decide) ?_
                  exact ih59 (k + 1) (k) (t) (by omega) (by omega) (by omega) (Or.inr (by first | exact (few_inv hinv hT9).1 (by omega) | exact (few_inv hinv hT9).2 (by omega) (by omega))) ls (lv_sub hl [3, 4, 5, 2, 1, 0] rfl)
                refine lv_iload hx hb dX12_bestPool_83 (lv_at hl 6 rfl) ?_
                refine lv_aload_n hx hb dX12_bestPool_85 rfl (lv_at hl 0 rfl) ?_
                refine va_get (ci := 9) (C := RX12) (T := TX12) (N := 28) hx hb ht iFX12 hown hK hP km hm0 rfl 16 (by decide) (ht _ kw4_126) (fun _ h9 => h9) hf_outer dX12_bestPool_86 ?_
                refine lv_iload hx hb dX12_bestPool_89 (lv_at hl 7 rfl) ?_
                refine nv_iald hx hb hK hP k_pn hA_pn (by omega) (by omega) dX12_bestPool_91 ?_
                have hq91 := hb_pn (b9)
                refine lv_iload hx hb dX12_bestPool_92 (lv_at hl 5 rfl) ?_
                refine nv_icmp_ne (tgt := 101) hx hb dX12_bestPool_94 (by decide) (by omega) (by omega) (fun h94 => ?_) (fun h94 => ?_)
                · skip
                  refine nv_iconst (k := 0) hx hb dX12_bestPool_101 rfl ?_
                  refine nv_iadd hx hb dX12_bestPool_102 ?_
                  refine lv_istore (lv' := [(8, .int (nI (t + 0))), (0, .ref mo), (1, .long (lN (hi))), (3, .long (lN (lo))), (5, .int (nI best)), (6, .int (nI few)), (7, .int (nI k)), (9, .int (nI b9))]) hx hb dX12_bestPool_103 hl (by decide) rfl (fun ls hl => ?_)
                  refine lv_iinc (v := (nI (b9 + 1))) (lv' := [(9, .int (nI (b9 + 1))), (8, .int (nI (t + 0))), (0, .ref mo), (1, .long (lN (hi))), (3, .long (lN (lo))), (5, .int (nI best)), (6, .int (nI few)), (7, .int (nI k))]) hx hb dX12_bestPool_105 hl (k := 7) rfl (nI_inc _ _) (by decide) rfl (fun ls hl => ?_)
                  refine lv_goto (tgt := 74) hx hb dX12_bestPool_108 (by decide) ?_
                  exact ih74 (t + 0) (b9 + 1) (by omega) (by omega) (by simp only [tg_cnt, decide_eq_true_eq]; split <;> omega) ls (lv_sub hl [2, 3, 4, 5, 6, 7, 1, 0] rfl)
                refine nv_iconst (k := 1) hx hb dX12_bestPool_97 rfl ?_
                refine lv_goto (tgt := 102) hx hb dX12_bestPool_98 (by decide) ?_
                refine nv_iadd hx hb dX12_bestPool_102 ?_
                refine lv_istore (lv' := [(8, .int (nI (t + 1))), (0, .ref mo), (1, .long (lN (hi))), (3, .long (lN (lo))), (5, .int (nI best)), (6, .int (nI few)), (7, .int (nI k)), (9, .int (nI b9))]) hx hb dX12_bestPool_103 hl (by decide) rfl (fun ls hl => ?_)
                refine lv_iinc (v := (nI (b9 + 1))) (lv' := [(9, .int (nI (b9 + 1))), (8, .int (nI (t + 1))), (0, .ref mo), (1, .long (lN (hi))), (3, .long (lN (lo))), (5, .int (nI best)), (6, .int (nI few)), (7, .int (nI k))]) hx hb dX12_bestPool_105 hl (k := 7) rfl (nI_inc _ _) (by decide) rfl (fun ls hl => ?_)
                refine lv_goto (tgt := 74) hx hb dX12_bestPool_108 (by decide) ?_
                exact ih74 (t + 1) (b9 + 1) (by omega) (by omega) (by simp only [tg_cnt, decide_eq_true_eq]; split <;> omega) ls (lv_sub hl [2, 3, 4, 5, 6, 7, 1, 0] rfl)
            exact L74 (nb + 1) 0 0 (by omega) (by omega) rfl ls (lv_sub hl [2, 3, 4, 5, 6, 7, 1, 0] rfl)
        exact L59 (u + 1) 0 0 0 (by omega) (by omega) (by omega) (Or.inl ⟨rfl, rfl, rfl⟩) ls (lv_sub hl [3, 4, 5, 2, 1, 0] rfl)
      refine lv_aload_n hx hb dX12_bestPool_12 rfl (lv_at hl 0 rfl) ?_
      refine va_get (ci := 9) (C := RX12) (T := TX12) (N := 28) hx hb ht iFX12 hown hK hP km hm0 rfl 13 (by decide) (ht _ kw4_123) (fun _ h9 => h9) hf_innerHigh dX12_bestPool_13 ?_
      refine lv_iload hx hb dX12_bestPool_16 (lv_at hl 3 rfl) ?_
      refine nv_lald hx hb hK hP k_ih hA_ih (by omega) (by omega) dX12_bestPool_18 ?_
      have hq18 := hb_ih (i)
      refine lv_lload_n hx hb dX12_bestPool_19 rfl (lv_at hl 1 rfl) ?_
      refine nv_Lcmp_ne (tgt := 44) hx hb dX12_bestPool_20 dX12_bestPool_21 (by decide) (by omega) (by omega) (fun h20 => ?_) (fun h20 => ?_)
      · skip
        refine lv_iinc (v := (nI (i + 1))) (lv' := [(5, .int (nI (i + 1))), (0, .ref mo), (1, .long (lN (hi))), (3, .long (lN (lo)))]) hx hb dX12_bestPool_44 hl (k := 3) rfl (nI_inc _ _) (by decide) rfl (fun ls hl => ?_)
        refine lv_goto (tgt := 3) hx hb dX12_bestPool_47 (by decide) ?_
        exact ih3 (i + 1) (by omega) (by omega) (no_step hno (decide_eq_false (by omega))) ls (lv_sub hl [1, 2, 3, 0] rfl)
      refine lv_aload_n hx hb dX12_bestPool_24 rfl (lv_at hl 0 rfl) ?_
      refine va_get (ci := 9) (C := RX12) (T := TX12) (N := 28) hx hb ht iFX12 hown hK hP km hm0 rfl 14 (by decide) (ht _ kw4_124) (fun _ h9 => h9) hf_innerLow dX12_bestPool_25 ?_
      refine lv_iload hx hb dX12_bestPool_28 (lv_at hl 3 rfl) ?_
      refine nv_lald hx hb hK hP k_il hA_il (by omega) (by omega) dX12_bestPool_30 ?_
      have hq30 := hb_il (i)
      refine lv_lload_n hx hb dX12_bestPool_31 rfl (lv_at hl 2 rfl) ?_
      refine nv_Lcmp_ne (tgt := 44) hx hb dX12_bestPool_32 dX12_bestPool_33 (by decide) (by omega) (by omega) (fun h32 => ?_) (fun h32 => ?_)
      · skip
        refine lv_iinc (v := (nI (i + 1))) (lv' := [(5, .int (nI (i + 1))), (0, .ref mo), (1, .long (lN (hi))), (3, .long (lN (lo)))]) hx hb dX12_bestPool_44 hl (k := 3) rfl (nI_inc _ _) (by decide) rfl (fun ls hl => ?_)
        refine lv_goto (tgt := 3) hx hb dX12_bestPool_47 (by decide) ?_
        exact ih3 (i + 1) (by omega) (by omega) (no_step hno (decide_eq_false (by omega))) ls (lv_sub hl [1, 2, 3, 0] rfl)
      refine lv_aload_n hx hb dX12_bestPool_36 rfl (lv_at hl 0 rfl) ?_
      refine va_get (ci := 9) (C := RX12) (T := TX12) (N := 28) hx hb ht iFX12 hown hK hP km hm0 rfl 16 (by decide) (ht _ kw4_126) (fun _ h9 => h9) hf_outer dX12_bestPool_37 ?_
      refine lv_iload hx hb dX12_bestPool_40 (lv_at hl 3 rfl) ?_
      refine nv_iald hx hb hK hP k_pn hA_pn (by omega) (by omega) dX12_bestPool_42 ?_
      have hq42 := hb_pn (i)
      exact hend ((congrArg nI (by unfold tg_best; rw [tg_first_at (q := (fun k => decide (ih k = hi ∧ il k = lo))) (k := i) (decide_eq_true (by omega)) hno (by omega), if_pos (by omega)]))) dX12_bestPool_43
  exact L3 (nb + 1) 0 (by omega) (by omega) (fun j hj => absurd hj (by omega)) ls (lv_sub hl [1, 2, 3, 0] rfl)
theorem dX12_word_0 : decode cX12_word 0 = .ok (.iconst 0, 1) := by decide +kernel
theorem dX12_word_1 : decode cX12_word 1 = .ok (.istore_n 2, 1) := by decide +kernel
theorem dX12_word_2 : decode cX12_word 2 = .ok (.ldc2_w 287, 3) := by decide +kernel
theorem dX12_word_5 : decode cX12_word 5 = .ok (.iload_n 1, 1) := by decide +kernel
theorem dX12_word_6 : decode cX12_word 6 = .ok (.i2l, 1) := by decide +kernel
theorem dX12_word_7 : decode cX12_word 7 = .ok (.lmul, 1) := by decide +kernel
theorem dX12_word_8 : decode cX12_word 8 = .ok (.lstore_n 3, 1) := by decide +kernel
theorem dX12_word_9 : decode cX12_word 9 = .ok (.lload_n 3, 1) := by decide +kernel
theorem dX12_word_10 : decode cX12_word 10 = .ok (.ldc2_w 287, 3) := by decide +kernel
theorem dX12_word_13 : decode cX12_word 13 = .ok (.iload_n 1, 1) := by decide +kernel
theorem dX12_word_14 : decode cX12_word 14 = .ok (.i2l, 1) := by decide +kernel
theorem dX12_word_15 : decode cX12_word 15 = .ok (.lmul, 1) := by decide +kernel
theorem dX12_word_16 : decode cX12_word 16 = .ok (.ldc2_w 287, 3) := by decide +kernel
theorem dX12_word_19 : decode cX12_word 19 = .ok (.ladd, 1) := by decide +kernel
theorem dX12_word_20 : decode cX12_word 20 = .ok (.lcmp, 1) := by decide +kernel
theorem dX12_word_21 : decode cX12_word 21 = .ok (.ifCond .ge 43, 3) := by decide +kernel
theorem dX12_word_24 : decode cX12_word 24 = .ok (.iload_n 1, 1) := by decide +kernel
theorem dX12_word_25 : decode cX12_word 25 = .ok (.ifCond .lt 39, 3) := by decide +kernel
theorem dX12_word_28 : decode cX12_word 28 = .ok (.iload_n 2, 1) := by decide +kernel
theorem dX12_word_29 : decode cX12_word 29 = .ok (.bipush 8, 2) := by decide +kernel
theorem dX12_word_31 : decode cX12_word 31 = .ok (.ishl, 1) := by decide +kernel
theorem dX12_word_32 : decode cX12_word 32 = .ok (.lload_n 3, 1) := by decide +kernel
theorem dX12_word_33 : decode cX12_word 33 = .ok (.aload_n 0, 1) := by decide +kernel
theorem dX12_word_34 : decode cX12_word 34 = .ok (.getfield 234, 3) := by decide +kernel
theorem dX12_word_37 : decode cX12_word 37 = .ok (.i2l, 1) := by decide +kernel
theorem dX12_word_38 : decode cX12_word 38 = .ok (.lcmp, 1) := by decide +kernel
theorem dX12_word_39 : decode cX12_word 39 = .ok (.ifCond .ge 15, 3) := by decide +kernel
theorem dX12_word_42 : decode cX12_word 42 = .ok (.aload_n 0, 1) := by decide +kernel
theorem dX12_word_43 : decode cX12_word 43 = .ok (.getfield 13, 3) := by decide +kernel
theorem dX12_word_46 : decode cX12_word 46 = .ok (.lload_n 3, 1) := by decide +kernel
theorem dX12_word_47 : decode cX12_word 47 = .ok (.l2i, 1) := by decide +kernel
theorem dX12_word_48 : decode cX12_word 48 = .ok (.invokestatic 124, 3) := by decide +kernel
theorem dX12_word_51 : decode cX12_word 51 = .ok (.goto 4, 3) := by decide +kernel
theorem dX12_word_54 : decode cX12_word 54 = .ok (.iconst 0, 1) := by decide +kernel
theorem dX12_word_55 : decode cX12_word 55 = .ok (.ior, 1) := by decide +kernel
theorem dX12_word_56 : decode cX12_word 56 = .ok (.istore_n 2, 1) := by decide +kernel
theorem dX12_word_57 : decode cX12_word 57 = .ok (.lload_n 3, 1) := by decide +kernel
theorem dX12_word_58 : decode cX12_word 58 = .ok (.lconst 1, 1) := by decide +kernel
theorem dX12_word_59 : decode cX12_word 59 = .ok (.ladd, 1) := by decide +kernel
theorem dX12_word_60 : decode cX12_word 60 = .ok (.lstore_n 3, 1) := by decide +kernel
theorem dX12_word_61 : decode cX12_word 61 = .ok (.goto (-52), 3) := by decide +kernel
theorem dX12_word_64 : decode cX12_word 64 = .ok (.iload_n 2, 1) := by decide +kernel
theorem dX12_word_65 : decode cX12_word 65 = .ok (.ireturn, 1) := by decide +kernel
theorem yv_X12_word : YV RX12 yX12_word cX12_word 5 (some .int) 1 := ⟨kw5_167, kw5_168, kw1_10, kw5_169, by decide +kernel⟩
set_option maxHeartbeats 4000000 in
set_option maxRecDepth 100000 in
theorem c_X12_word {l : Launch} {D : va_G} {cy : Nat → ClassId} {ws : va_W} {km mo : Nat} {fs : List Value} (hm0 : ws[km]? = some (mo, .inr (9, fs))) {os : Nat} {ao : Nat} (hf_outSize : fs[3]? = some (.int (nI os))) (hf_out : fs[2]? = some (.ref ao)) {fo : Nat → UInt8} (hR : AR cy ws ao fo os) (hos : os ≤ 1700) {i : Nat} (hi : i < 2 ^ 31) : RO l yX12_word cX12_word 5 (some .int) 1 21 [.ref mo, .int (nI i)] D cy ws (.int (nI (tg_qd (tg_rd fo os) (4 * i)))) := by
  refine ROi (by decide) (lv0 := [(0, .ref mo), (1, .int (nI i))]) rfl (Nat.le_of_ble_eq_true rfl) ?_
  intro p e s m args below meth c ls Q S hP hK hend hl
  have hx := S.1
  have hb := S.2.1
  have hown : s.vm.findClass RX12 = some m.cls := S.2.2.2.1
  have ht : ∀ w ∈ lw_g, w.before args s = true := fun w h => S.2.2.2.2 w (List.mem_cons_of_mem _ h)
  refine nv_iconst (k := 0) hx hb dX12_word_0 rfl ?_
  refine lv_istore_n (lv' := [(2, .int (nI 0)), (0, .ref mo), (1, .int (nI i))]) hx hb dX12_word_1 rfl hl (by decide) rfl (fun ls hl => ?_)
  refine nv_ldc2 (k := 4) hx hb hown (ht _ kw5_170) (by decide) dX12_word_2 ?_
  refine lv_iload_n hx hb dX12_word_5 rfl (lv_at hl 2 rfl) ?_
  refine nv_i2l hx hb (by omega) dX12_word_6 ?_
  refine nv_lmul hx hb dX12_word_7 ?_
  refine lv_lstore_n (lv' := [(3, .long (lN (4 * i))), (2, .int (nI 0)), (0, .ref mo), (1, .int (nI i))]) hx hb dX12_word_8 rfl hl (by decide) rfl (fun ls hl => ?_)
  have L9 : ∀ (fu : Nat) (j : Nat) (v : Nat) (kk : Nat), 4 - j < fu → j ≤ 4 → kk = 4 * i + j → v = tg_nb (tg_rd fo os) (4 * i) j → ∀ ls : Array Slot, lv_has ls 5 [(0, .ref mo), (1, .int (nI i)), (2, .int (nI v)), (3, .long (lN (kk)))] → W p l e (rmo 1 21) s m args below meth c s.heap [] 0 0 Q (F0 m 9 ls []) := by
    intro fu
    induction fu with
    | zero => intro j v kk h9; omega
    | succ fu ih =>
      intro j v kk hfu hj hkk hv ls hl
      have hvb : v * 2 ^ 8 + 255 < 2 ^ 40 := by rw [hv]; have := tg_nb_lt fo os (4 * i) j (by omega); omega
      refine lv_lload_n hx hb dX12_word_9 rfl (lv_at hl 3 rfl) ?_
      refine nv_ldc2 (k := 4) hx hb hown (ht _ kw5_170) (by decide) dX12_word_10 ?_
      refine lv_iload_n hx hb dX12_word_13 rfl (lv_at hl 1 rfl) ?_
      refine nv_i2l hx hb (by omega) dX12_word_14 ?_
      refine nv_lmul hx hb dX12_word_15 ?_
      refine nv_ldc2 (k := 4) hx hb hown (ht _ kw5_170) (by decide) dX12_word_16 ?_
      refine nv_ladd hx hb dX12_word_19 ?_
      refine nv_Lcmp_ge (tgt := 64) hx hb dX12_word_20 dX12_word_21 (by decide) (by omega) (by omega) (fun h20 => ?_) (fun h20 => ?_)
      · skip
        refine lv_iload_n hx hb dX12_word_64 rfl (lv_at hl 2 rfl) ?_
        exact hend ((congrArg nI (by rw [hv, show j = 4 by omega, tg_nb_4]))) dX12_word_65
      refine lv_iload_n hx hb dX12_word_24 rfl (lv_at hl 1 rfl) ?_
      refine nv_if_lt (tgt := 64) hx hb dX12_word_25 (by decide) (by omega) ?_
      refine lv_iload_n hx hb dX12_word_28 rfl (lv_at hl 2 rfl) ?_
      refine nv_bipush (k := 8) hx hb dX12_word_29 (by decide) ?_
      refine nv_ishl hx hb (by omega) dX12_word_31 ?_
      refine lv_lload_n hx hb dX12_word_32 rfl (lv_at hl 3 rfl) ?_
      refine lv_aload_n hx hb dX12_word_33 rfl (lv_at hl 0 rfl) ?_
      refine va_get (ci := 9) (C := RX12) (T := TX12) (N := 28) hx hb ht iFX12 hown hK hP km hm0 rfl 3 (by decide) (ht _ kw4_113) (fun _ h9 => h9) hf_outSize dX12_word_34 ?_
      refine nv_i2l hx hb (by omega) dX12_word_37 ?_
      refine nv_Lcmp_ge (tgt := 54) hx hb dX12_word_38 dX12_word_39 (by decide) (by omega) (by omega) (fun h38 => ?_) (fun h38 => ?_)
      · skip
        refine nv_iconst (k := 0) hx hb dX12_word_54 rfl ?_
        refine nv_ior 8 hx hb (by omega) dX12_word_55 ?_
        refine lv_istore_n (lv' := [(2, .int (nI ((v) * 2 ^ 8 + 0))), (0, .ref mo), (1, .int (nI i)), (3, .long (lN (kk)))]) hx hb dX12_word_56 rfl hl (by decide) rfl (fun ls hl => ?_)
        refine lv_lload_n hx hb dX12_word_57 rfl (lv_at hl 3 rfl) ?_
        refine lv_lconst (v := lN 1) hx hb dX12_word_58 (by decide) ?_
        refine nv_ladd hx hb dX12_word_59 ?_
        refine lv_lstore_n (lv' := [(3, .long (lN (kk + (1)))), (2, .int (nI ((v) * 2 ^ 8 + 0))), (0, .ref mo), (1, .int (nI i))]) hx hb dX12_word_60 rfl hl (by decide) rfl (fun ls hl => ?_)
        refine lv_goto (tgt := 9) hx hb dX12_word_61 (by decide) ?_
        exact ih (j + 1) ((v) * 2 ^ 8 + 0) (kk + 1) (by omega) (by omega) (by omega) (by rw [hv]; simp only [tg_nb]; rw [← hkk] <;> first | rfl | (rw [tg_rd_out (by omega)])) ls (lv_sub hl [2, 3, 1, 0] rfl)
      refine lv_aload_n hx hb dX12_word_42 rfl (lv_at hl 0 rfl) ?_
      refine va_get (ci := 9) (C := RX12) (T := TX12) (N := 28) hx hb ht iFX12 hown hK hP km hm0 rfl 2 (by decide) (ht _ kw4_112) (fun _ h9 => h9) hf_out dX12_word_43 ?_
      refine lv_lload_n hx hb dX12_word_46 rfl (lv_at hl 3 rfl) ?_
      refine nv_l2i hx hb dX12_word_47 ?_
      refine ro_S S (c_X12_at hR (i := kk) (by omega)) kw5_41 yv_X12_at ⟨Nat.le_of_ble_eq_true rfl, Nat.le_of_ble_eq_true rfl⟩ hK hP rfl hl.1 rfl (Nat.le_of_ble_eq_true rfl) dX12_word_48 ⟨Nat.zero_le _, Nat.zero_le _⟩ ?_
      have hq48 := tg_rd_lt fo os kk
      refine lv_goto (tgt := 55) hx hb dX12_word_51 (by decide) ?_
      refine nv_ior 8 hx hb (by omega) dX12_word_55 ?_
      refine lv_istore_n (lv' := [(2, .int (nI ((v) * 2 ^ 8 + tg_rd fo os kk))), (0, .ref mo), (1, .int (nI i)), (3, .long (lN (kk)))]) hx hb dX12_word_56 rfl hl (by decide) rfl (fun ls hl => ?_)
      refine lv_lload_n hx hb dX12_word_57 rfl (lv_at hl 3 rfl) ?_
      refine lv_lconst (v := lN 1) hx hb dX12_word_58 (by decide) ?_
      refine nv_ladd hx hb dX12_word_59 ?_
      refine lv_lstore_n (lv' := [(3, .long (lN (kk + (1)))), (2, .int (nI ((v) * 2 ^ 8 + tg_rd fo os kk))), (0, .ref mo), (1, .int (nI i))]) hx hb dX12_word_60 rfl hl (by decide) rfl (fun ls hl => ?_)
      refine lv_goto (tgt := 9) hx hb dX12_word_61 (by decide) ?_
      exact ih (j + 1) ((v) * 2 ^ 8 + tg_rd fo os kk) (kk + 1) (by omega) (by omega) (by omega) (by rw [hv]; simp only [tg_nb]; rw [← hkk] <;> first | rfl | (rw [tg_rd_out (by omega)])) ls (lv_sub hl [2, 3, 1, 0] rfl)
  exact L9 (5) 0 0 (4 * i) (by omega) (by omega) (by omega) rfl ls (lv_sub hl [2, 3, 1, 0] rfl)
set_option maxHeartbeats 4000000 in
set_option maxRecDepth 100000 in
theorem c_X12_wordN {l : Launch} {D : va_G} {cy : Nat → ClassId} {ws : va_W} {km mo : Nat} {fs : List Value} (hm0 : ws[km]? = some (mo, .inr (9, fs))) {os : Nat} {ao : Nat} (hf_outSize : fs[3]? = some (.int (nI os))) (hf_out : fs[2]? = some (.ref ao)) {i : Int32} (hi : i < 0) : RO l yX12_word cX12_word 5 (some .int) 0 0 [.ref mo, .int i] D cy ws (.int (nI 0)) := by
  refine ROi (by decide) (lv0 := [(0, .ref mo), (1, .int i)]) rfl (Nat.le_of_ble_eq_true rfl) ?_
  intro p e s m args below meth c ls Q S hP hK hend hl
  have hx := S.1
  have hb := S.2.1
  have hown : s.vm.findClass RX12 = some m.cls := S.2.2.2.1
  have ht : ∀ w ∈ lw_g, w.before args s = true := fun w h => S.2.2.2.2 w (List.mem_cons_of_mem _ h)
  refine nv_iconst (k := 0) hx hb dX12_word_0 rfl ?_
  refine lv_istore_n (lv' := [(2, .int (nI 0)), (0, .ref mo), (1, .int i)]) hx hb dX12_word_1 rfl hl (by decide) rfl (fun ls hl => ?_)
  refine nv_ldc2 (k := 4) hx hb hown (ht _ kw5_170) (by decide) dX12_word_2 ?_
  refine lv_iload_n hx hb dX12_word_5 rfl (lv_at hl 2 rfl) ?_
  refine lv_i2l hx hb dX12_word_6 rfl ?_
  refine lv_lmul hx hb dX12_word_7 ?_
  refine lv_lstore_n (lv' := [(3, .long (lN (4) * ((i).toInt64))), (2, .int (nI 0)), (0, .ref mo), (1, .int i)]) hx hb dX12_word_8 rfl hl (by decide) rfl (fun ls hl => ?_)
  refine lv_lload_n hx hb dX12_word_9 rfl (lv_at hl 0 rfl) ?_
  refine nv_ldc2 (k := 4) hx hb hown (ht _ kw5_170) (by decide) dX12_word_10 ?_
  refine lv_iload_n hx hb dX12_word_13 rfl (lv_at hl 3 rfl) ?_
  refine lv_i2l hx hb dX12_word_14 rfl ?_
  refine lv_lmul hx hb dX12_word_15 ?_
  refine nv_ldc2 (k := 4) hx hb hown (ht _ kw5_170) (by decide) dX12_word_16 ?_
  refine lv_ladd hx hb dX12_word_19 ?_
  refine nv_lcmp_ge (tgt := 64) hx hb dX12_word_20 dX12_word_21 (by decide) (fun h20 => ?_) (fun h20 => ?_)
  · skip
    refine lv_iload_n hx hb dX12_word_64 rfl (lv_at hl 1 rfl) ?_
    exact hend (rfl) dX12_word_65
  refine lv_iload_n hx hb dX12_word_24 rfl (lv_at hl 3 rfl) ?_
  refine lv_if_lt (tgt := 64) hx hb dX12_word_25 (by decide) (fun h25 => ?_) (fun h25 => ?_)
  · skip
    refine lv_iload_n hx hb dX12_word_64 rfl (lv_at hl 1 rfl) ?_
    exact hend (rfl) dX12_word_65
  exact absurd hi h25
