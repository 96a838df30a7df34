theorem sok_sv {q : Nat → Bool} {so so2 : Nat → Nat} {i s n b : Nat} (hs : s < n) (hq : q i = false) (hn : so s ≠ i) (h2 : so2 s = sv q so i s) (hb : b = tg_cnt q i) : sok so2 b n s = sv q so (i + 1) s := by
  subst hb
  unfold sok
  rw [h2, ← sv_drop hq hn]
  by_cases hc : tg_cnt q i < sv q so i s
  · rw [if_pos hc, if_pos ⟨hs, hc⟩]
  · rw [if_neg hc, if_neg (fun z => hc z.2)]
theorem dX12_sweep_0 : decode cX12_sweep 0 = .ok (.iconst 0, 1) := by decide +kernel
theorem dX12_sweep_1 : decode cX12_sweep 1 = .ok (.istore_n 1, 1) := by decide +kernel
theorem dX12_sweep_2 : decode cX12_sweep 2 = .ok (.iconst 0, 1) := by decide +kernel
theorem dX12_sweep_3 : decode cX12_sweep 3 = .ok (.istore_n 2, 1) := by decide +kernel
theorem dX12_sweep_4 : decode cX12_sweep 4 = .ok (.iload_n 2, 1) := by decide +kernel
theorem dX12_sweep_5 : decode cX12_sweep 5 = .ok (.aload_n 0, 1) := by decide +kernel
theorem dX12_sweep_6 : decode cX12_sweep 6 = .ok (.getfield 83, 3) := by decide +kernel
theorem dX12_sweep_9 : decode cX12_sweep 9 = .ok (.if_icmp .ge 85, 3) := by decide +kernel
theorem dX12_sweep_12 : decode cX12_sweep 12 = .ok (.aload_n 0, 1) := by decide +kernel
theorem dX12_sweep_13 : decode cX12_sweep 13 = .ok (.getfield 54, 3) := by decide +kernel
theorem dX12_sweep_16 : decode cX12_sweep 16 = .ok (.iload_n 2, 1) := by decide +kernel
theorem dX12_sweep_17 : decode cX12_sweep 17 = .ok (.iaload, 1) := by decide +kernel
theorem dX12_sweep_18 : decode cX12_sweep 18 = .ok (.aload_n 0, 1) := by decide +kernel
theorem dX12_sweep_19 : decode cX12_sweep 19 = .ok (.getfield 163, 3) := by decide +kernel
theorem dX12_sweep_22 : decode cX12_sweep 22 = .ok (.if_icmp .le 66, 3) := by decide +kernel
theorem dX12_sweep_25 : decode cX12_sweep 25 = .ok (.aload_n 0, 1) := by decide +kernel
theorem dX12_sweep_26 : decode cX12_sweep 26 = .ok (.getfield 42, 3) := by decide +kernel
theorem dX12_sweep_29 : decode cX12_sweep 29 = .ok (.iload_n 1, 1) := by decide +kernel
theorem dX12_sweep_30 : decode cX12_sweep 30 = .ok (.aload_n 0, 1) := by decide +kernel
theorem dX12_sweep_31 : decode cX12_sweep 31 = .ok (.getfield 42, 3) := by decide +kernel
theorem dX12_sweep_34 : decode cX12_sweep 34 = .ok (.iload_n 2, 1) := by decide +kernel
theorem dX12_sweep_35 : decode cX12_sweep 35 = .ok (.iaload, 1) := by decide +kernel
theorem dX12_sweep_36 : decode cX12_sweep 36 = .ok (.iastore, 1) := by decide +kernel
theorem dX12_sweep_37 : decode cX12_sweep 37 = .ok (.aload_n 0, 1) := by decide +kernel
theorem dX12_sweep_38 : decode cX12_sweep 38 = .ok (.getfield 45, 3) := by decide +kernel
theorem dX12_sweep_41 : decode cX12_sweep 41 = .ok (.iload_n 1, 1) := by decide +kernel
theorem dX12_sweep_42 : decode cX12_sweep 42 = .ok (.aload_n 0, 1) := by decide +kernel
theorem dX12_sweep_43 : decode cX12_sweep 43 = .ok (.getfield 45, 3) := by decide +kernel
theorem dX12_sweep_46 : decode cX12_sweep 46 = .ok (.iload_n 2, 1) := by decide +kernel
theorem dX12_sweep_47 : decode cX12_sweep 47 = .ok (.iaload, 1) := by decide +kernel
theorem dX12_sweep_48 : decode cX12_sweep 48 = .ok (.iastore, 1) := by decide +kernel
theorem dX12_sweep_49 : decode cX12_sweep 49 = .ok (.aload_n 0, 1) := by decide +kernel
theorem dX12_sweep_50 : decode cX12_sweep 50 = .ok (.getfield 48, 3) := by decide +kernel
theorem dX12_sweep_53 : decode cX12_sweep 53 = .ok (.iload_n 1, 1) := by decide +kernel
theorem dX12_sweep_54 : decode cX12_sweep 54 = .ok (.aload_n 0, 1) := by decide +kernel
theorem dX12_sweep_55 : decode cX12_sweep 55 = .ok (.getfield 48, 3) := by decide +kernel
theorem dX12_sweep_58 : decode cX12_sweep 58 = .ok (.iload_n 2, 1) := by decide +kernel
theorem dX12_sweep_59 : decode cX12_sweep 59 = .ok (.iaload, 1) := by decide +kernel
theorem dX12_sweep_60 : decode cX12_sweep 60 = .ok (.iastore, 1) := by decide +kernel
theorem dX12_sweep_61 : decode cX12_sweep 61 = .ok (.aload_n 0, 1) := by decide +kernel
theorem dX12_sweep_62 : decode cX12_sweep 62 = .ok (.getfield 51, 3) := by decide +kernel
theorem dX12_sweep_65 : decode cX12_sweep 65 = .ok (.iload_n 1, 1) := by decide +kernel
theorem dX12_sweep_66 : decode cX12_sweep 66 = .ok (.aload_n 0, 1) := by decide +kernel
theorem dX12_sweep_67 : decode cX12_sweep 67 = .ok (.getfield 51, 3) := by decide +kernel
theorem dX12_sweep_70 : decode cX12_sweep 70 = .ok (.iload_n 2, 1) := by decide +kernel
theorem dX12_sweep_71 : decode cX12_sweep 71 = .ok (.iaload, 1) := by decide +kernel
theorem dX12_sweep_72 : decode cX12_sweep 72 = .ok (.iastore, 1) := by decide +kernel
theorem dX12_sweep_73 : decode cX12_sweep 73 = .ok (.aload_n 0, 1) := by decide +kernel
theorem dX12_sweep_74 : decode cX12_sweep 74 = .ok (.getfield 54, 3) := by decide +kernel
theorem dX12_sweep_77 : decode cX12_sweep 77 = .ok (.iload_n 1, 1) := by decide +kernel
theorem dX12_sweep_78 : decode cX12_sweep 78 = .ok (.aload_n 0, 1) := by decide +kernel
theorem dX12_sweep_79 : decode cX12_sweep 79 = .ok (.getfield 54, 3) := by decide +kernel
theorem dX12_sweep_82 : decode cX12_sweep 82 = .ok (.iload_n 2, 1) := by decide +kernel
theorem dX12_sweep_83 : decode cX12_sweep 83 = .ok (.iaload, 1) := by decide +kernel
theorem dX12_sweep_84 : decode cX12_sweep 84 = .ok (.iastore, 1) := by decide +kernel
theorem dX12_sweep_85 : decode cX12_sweep 85 = .ok (.iinc 1 1, 3) := by decide +kernel
theorem dX12_sweep_88 : decode cX12_sweep 88 = .ok (.iinc 2 1, 3) := by decide +kernel
theorem dX12_sweep_91 : decode cX12_sweep 91 = .ok (.goto (-87), 3) := by decide +kernel
theorem dX12_sweep_94 : decode cX12_sweep 94 = .ok (.aload_n 0, 1) := by decide +kernel
theorem dX12_sweep_95 : decode cX12_sweep 95 = .ok (.getfield 83, 3) := by decide +kernel
theorem dX12_sweep_98 : decode cX12_sweep 98 = .ok (.iload_n 1, 1) := by decide +kernel
theorem dX12_sweep_99 : decode cX12_sweep 99 = .ok (.isub, 1) := by decide +kernel
theorem dX12_sweep_100 : decode cX12_sweep 100 = .ok (.istore_n 2, 1) := by decide +kernel
theorem dX12_sweep_101 : decode cX12_sweep 101 = .ok (.aload_n 0, 1) := by decide +kernel
theorem dX12_sweep_102 : decode cX12_sweep 102 = .ok (.iload_n 1, 1) := by decide +kernel
theorem dX12_sweep_103 : decode cX12_sweep 103 = .ok (.putfield 83, 3) := by decide +kernel
theorem dX12_sweep_106 : decode cX12_sweep 106 = .ok (.iconst 0, 1) := by decide +kernel
theorem dX12_sweep_107 : decode cX12_sweep 107 = .ok (.istore_n 3, 1) := by decide +kernel
theorem dX12_sweep_108 : decode cX12_sweep 108 = .ok (.iload_n 3, 1) := by decide +kernel
theorem dX12_sweep_109 : decode cX12_sweep 109 = .ok (.aload_n 0, 1) := by decide +kernel
theorem dX12_sweep_110 : decode cX12_sweep 110 = .ok (.getfield 80, 3) := by decide +kernel
theorem dX12_sweep_113 : decode cX12_sweep 113 = .ok (.if_icmp .ge 25, 3) := by decide +kernel
theorem dX12_sweep_116 : decode cX12_sweep 116 = .ok (.aload_n 0, 1) := by decide +kernel
theorem dX12_sweep_117 : decode cX12_sweep 117 = .ok (.iload_n 3, 1) := by decide +kernel
theorem dX12_sweep_118 : decode cX12_sweep 118 = .ok (.invokevirtual 170, 3) := by decide +kernel
theorem dX12_sweep_121 : decode cX12_sweep 121 = .ok (.ifCond .le 9, 3) := by decide +kernel
theorem dX12_sweep_124 : decode cX12_sweep 124 = .ok (.iinc 3 1, 3) := by decide +kernel
theorem dX12_sweep_127 : decode cX12_sweep 127 = .ok (.goto (-19), 3) := by decide +kernel
theorem dX12_sweep_130 : decode cX12_sweep 130 = .ok (.aload_n 0, 1) := by decide +kernel
theorem dX12_sweep_131 : decode cX12_sweep 131 = .ok (.iload_n 3, 1) := by decide +kernel
theorem dX12_sweep_132 : decode cX12_sweep 132 = .ok (.invokevirtual 173, 3) := by decide +kernel
theorem dX12_sweep_135 : decode cX12_sweep 135 = .ok (.goto (-27), 3) := by decide +kernel
theorem dX12_sweep_138 : decode cX12_sweep 138 = .ok (.iload_n 2, 1) := by decide +kernel
theorem dX12_sweep_139 : decode cX12_sweep 139 = .ok (.ireturn, 1) := by decide +kernel
theorem yv_X12_sweep : YV RX12 yX12_sweep cX12_sweep 4 (some .int) 0 := ⟨kw5_19, kws_23, kw1_10, kw5_20, by decide +kernel⟩
set_option maxHeartbeats 4000000 in
set_option maxRecDepth 100000 in
theorem c_X12_sweep {l : Launch} {D : va_G} {cy : Nat → ClassId} {o : Nat} {ad : Nat → Nat} {tl : va_W} {tp os sz bits F G u nb ns T M id : Nat} {ft fo fi : Nat → UInt8} {g : Nat → Int32} {pt ih il ip pn op so fa fp st en dr : Nat → Nat} {p9 q9 : Nat → Bool} (hp9 : p9 = fun j => decide (T < en j)) (hq9 : q9 = fun j => decide (0 < tg_cnt (fun k => decide (pk so (LL p9 ns) k = j)) (LL p9 ns).length)) (hnb : nb ≤ 64) (hns : ns ≤ 128) (hb_so : ∀ i, so i < 2 ^ 31) (hb_en : ∀ i, en i < 2 ^ 31) (hT31 : T < 2 ^ 31) (hown9 : ∀ s, s < (LL p9 ns).length → pk so (LL p9 ns) s < nb) : WR (S := ((Nat → Nat) × (Nat → Nat) × (Nat → Nat) × (Nat → Nat) × (Nat → Nat) × (Nat → Nat) × (Nat → Nat))) l yX12_sweep cX12_sweep 4 (some .int) 1 0 0 23 [.ref o] D cy (mW cy o ad tp os sz bits F G u nb ns T M id ft fo fi g pt ih il ip pn op so fa fp st en dr ++ tl) (fun u_ => some (.int (nI (ns - (LL p9 ns).length)))) (fun z9 => (∀ k, k < (LL q9 nb).length → z9.1 k = pt ((LL q9 nb).getD k 0)) ∧ (∀ k, k < (LL q9 nb).length → z9.2.1 k = ih ((LL q9 nb).getD k 0)) ∧ (∀ k, k < (LL q9 nb).length → z9.2.2.1 k = il ((LL q9 nb).getD k 0)) ∧ (∀ k, k < (LL q9 nb).length → z9.2.2.2.1 k = ip ((LL q9 nb).getD k 0)) ∧ (∀ k, k < (LL q9 nb).length → z9.2.2.2.2.1 k = pn ((LL q9 nb).getD k 0)) ∧ (∀ k, k < (LL q9 nb).length → z9.2.2.2.2.2.1 k = op ((LL q9 nb).getD k 0)) ∧ SUB z9.1 pt ∧ SUB z9.2.1 ih ∧ SUB z9.2.2.1 il ∧ SUB z9.2.2.2.1 ip ∧ SUB z9.2.2.2.2.1 pn ∧ SUB z9.2.2.2.2.2.1 op ∧ (∀ s, s < (LL p9 ns).length → z9.2.2.2.2.2.2 s = tg_cnt q9 (pk so (LL p9 ns) s)) ∧ (∀ i, z9.2.2.2.2.2.2 i < 2 ^ 31)) (fun z9 => mW cy o ad tp os sz bits F G u ((LL q9 nb).length) ((LL p9 ns).length) T M id ft fo fi g z9.1 z9.2.1 z9.2.2.1 z9.2.2.2.1 z9.2.2.2.2.1 z9.2.2.2.2.2.1 z9.2.2.2.2.2.2 (ckm fa p9 ns) (ckm fp p9 ns) (ckm st p9 ns) (ckm en p9 ns) dr ++ tl) := by
  refine WRi (by decide) (lv0 := [(0, .ref o)]) rfl (Nat.le_of_ble_eq_true rfl) ?_
  intro p e s m args below meth c ls A Q S hnm hP hK hD hS hA hend hl
  have hx := S.1
  have hb := S.2.1
  have hown : s.vm.findClass RX12 = some m.cls := S.2.2.2.1
  have ht : ∀ w ∈ lw_g, w.before args s = true := fun w h => S.2.2.2.2 w (List.mem_cons_of_mem _ h)
  have hP : va_P D vwCl (mW cy o ad tp os sz bits F G u nb ns T M id ft fo fi g pt ih il ip pn op so fa fp st en dr ++ tl) s.heap := hP
  refine nv_iconst (k := 0) hx hb dX12_sweep_0 rfl ?_
  refine lv_istore_n (lv' := [(1, .int (nI 0)), (0, .ref o)]) hx hb dX12_sweep_1 rfl hl (by decide) rfl (fun ls hl => ?_)
  refine nv_iconst (k := 0) hx hb dX12_sweep_2 rfl ?_
  refine lv_istore_n (lv' := [(2, .int (nI 0)), (1, .int (nI 0)), (0, .ref o)]) hx hb dX12_sweep_3 rfl hl (by decide) rfl (fun ls hl => ?_)
  have L4 : ∀ (fu s9 : Nat) (H : Heap) (locs : List Loc), ns - s9 < fu → s9 ≤ ns → va_P D vwCl (mW cy o ad tp os sz bits F G u nb ns T M id ft fo fi g pt ih il ip pn op (ckm so p9 s9) (ckm fa p9 s9) (ckm fp p9 s9) (ckm st p9 s9) (ckm en p9 s9) dr ++ tl) H → va_D A (mW cy o ad tp os sz bits F G u nb ns T M id ft fo fi g pt ih il ip pn op (ckm so p9 s9) (ckm fa p9 s9) (ckm fp p9 s9) (ckm st p9 s9) (ckm en p9 s9) dr ++ tl) → va_S A s.heap H locs → ∀ ls : Array Slot, lv_has ls 4 [(0, .ref o), (1, .int (nI ((LL p9 s9).length))), (2, .int (nI s9))] → W p l e (rmw 1 0 0 23) s m args below meth c H locs 0 0 Q (F0 m 4 ls []) := by
    intro fu
    induction fu with
    | zero => intro s9 H locs h9; omega
    | succ fu ihh =>
      intro s9 H locs hfu hs1 hP hD hS ls hl
      have hll := LL_le (p := p9) (s := s9)
      have hen9 := hb_en s9
      refine lv_iload_n hx hb dX12_sweep_4 rfl (lv_at hl 2 rfl) ?_
      refine lv_aload_n hx hb dX12_sweep_5 rfl (lv_at hl 0 rfl) ?_
      refine va_get (ci := 9) (C := RX12) (T := TX12) (N := 28) hx hb ht iFX12 hown hK hP 0 rfl rfl 18 (by decide) (ht _ kw4_128) (fun _ h9 => h9) rfl dX12_sweep_6 ?_
      refine nv_icmp_ge (tgt := 94) hx hb dX12_sweep_9 (by decide) (by omega) (by omega) (fun h9 => ?_) (fun h9 => ?_)
      · skip
        have es : s9 = ns := by omega
        subst es
        refine lv_aload_n hx hb dX12_sweep_94 rfl (lv_at hl 0 rfl) ?_
        refine va_get (ci := 9) (C := RX12) (T := TX12) (N := 28) hx hb ht iFX12 hown hK hP 0 rfl rfl 18 (by decide) (ht _ kw4_128) (fun _ h9 => h9) rfl dX12_sweep_95 ?_
        refine lv_iload_n hx hb dX12_sweep_98 rfl (lv_at hl 1 rfl) ?_
        refine nv_isub hx hb (by omega) dX12_sweep_99 ?_
        refine lv_istore_n (lv' := [(2, .int (nI (s9 - ((LL p9 s9).length)))), (0, .ref o), (1, .int (nI ((LL p9 s9).length)))]) hx hb dX12_sweep_100 rfl hl (by decide) rfl (fun ls hl => ?_)
        refine lv_aload_n hx hb dX12_sweep_101 rfl (lv_at hl 1 rfl) ?_
        refine lv_iload_n hx hb dX12_sweep_102 rfl (lv_at hl 2 rfl) ?_
        refine va_put (ci := 9) (C := RX12) (T := TX12) (N := 28) (ty := tyX12 18) hx hb ht iFX12 tyX12 tyX12_ok nmX12 hown hK hP hD hS 0 rfl rfl 18 (by decide) (ht _ kw4_128) (fun _ h9 => h9) rfl (by decide +kernel) (by first | rfl | decide) (by first | rfl | decide) (Nat.le_of_ble_eq_true rfl) dX12_sweep_103 (fun H locs hP hD hS => ?_)
        have hP : va_P D vwCl (mW cy o ad tp os sz bits F G u nb ((LL p9 s9).length) T M id ft fo fi g pt ih il ip pn op (ckm so p9 s9) (ckm fa p9 s9) (ckm fp p9 s9) (ckm st p9 s9) (ckm en p9 s9) dr ++ tl) H := hP
        have hD : va_D A (mW cy o ad tp os sz bits F G u nb ((LL p9 s9).length) T M id ft fo fi g pt ih il ip pn op (ckm so p9 s9) (ckm fa p9 s9) (ckm fp p9 s9) (ckm st p9 s9) (ckm en p9 s9) dr ++ tl) := hD
        refine nv_iconst (k := 0) hx hb dX12_sweep_106 rfl ?_
        refine lv_istore_n (lv' := [(3, .int (nI 0)), (2, .int (nI (s9 - ((LL p9 s9).length)))), (0, .ref o), (1, .int (nI ((LL p9 s9).length)))]) hx hb dX12_sweep_107 rfl hl (by decide) rfl (fun ls hl => ?_)
        have hqk : ∀ k, k < (LL p9 s9).length → q9 (pk so (LL p9 s9) k) = true := fun k hk => by rw [hq9]; exact decide_eq_true (tg_cnt_pos (j := k) hk (decide_eq_true rfl))
        have hb_so0 : ∀ i, ckm so p9 s9 i < 2 ^ 31 := SUB.ck.lt hb_so
        have L108 : ∀ (fu i : Nat) (pt2 ih2 il2 ip2 pn2 op2 so2 : Nat → Nat) (H : Heap) (locs : List Loc), nb - i < fu → i ≤ nb → (∀ k, k < (LB q9 nb i).length → pt2 k = pt ((LB q9 nb i).getD k 0)) → (∀ k, k < (LB q9 nb i).length → ih2 k = ih ((LB q9 nb i).getD k 0)) → (∀ k, k < (LB q9 nb i).length → il2 k = il ((LB q9 nb i).getD k 0)) → (∀ k, k < (LB q9 nb i).length → ip2 k = ip ((LB q9 nb i).getD k 0)) → (∀ k, k < (LB q9 nb i).length → pn2 k = pn ((LB q9 nb i).getD k 0)) → (∀ k, k < (LB q9 nb i).length → op2 k = op ((LB q9 nb i).getD k 0)) → SUB pt2 pt → SUB ih2 ih → SUB il2 il → SUB ip2 ip → SUB pn2 pn → SUB op2 op → (∀ s, s < (LL p9 s9).length → so2 s = sv q9 (pk so (LL p9 s9)) i s) → (∀ i, so2 i < 2 ^ 31) → va_P D vwCl (mW cy o ad tp os sz bits F G u ((LB q9 nb i).length) ((LL p9 s9).length) T M id ft fo fi g pt2 ih2 il2 ip2 pn2 op2 so2 (ckm fa p9 s9) (ckm fp p9 s9) (ckm st p9 s9) (ckm en p9 s9) dr ++ tl) H → va_D A (mW cy o ad tp os sz bits F G u ((LB q9 nb i).length) ((LL p9 s9).length) T M id ft fo fi g pt2 ih2 il2 ip2 pn2 op2 so2 (ckm fa p9 s9) (ckm fp p9 s9) (ckm st p9 s9) (ckm en p9 s9) dr ++ tl) → va_S A s.heap H locs → ∀ ls : Array Slot, lv_has ls 4 [(0, .ref o), (1, .int (nI ((LL p9 s9).length))), (2, .int (nI (s9 - (LL p9 s9).length))), (3, .int (nI ((LL q9 i).length)))] → W p l e (rmw 1 0 0 23) s m args below meth c H locs 0 0 Q (F0 m 108 ls []) := by
          intro fu
          induction fu with
          | zero => intro i pt2 ih2 il2 ip2 pn2 op2 so2 H locs h9; omega
          | succ fu ihh =>
            intro i pt2 ih2 il2 ip2 pn2 op2 so2 H locs hfu hi1 ha_pt ha_ih ha_il ha_ip ha_pn ha_op hs_pt hs_ih hs_il hs_ip hs_pn hs_op hso2 hb_so2 hP hD hS ls hl
            have hbl := LB_len (q := q9) (n := nb) (i := i) hi1
            have hll := LL_le (p := q9) (s := i)
            have hlp := LL_le (p := p9) (s := s9)
            have ecn : tg_cnt (fun k => decide (so2 k = (LL q9 i).length)) (LL p9 s9).length = tg_cnt (fun k => decide (pk so (LL p9 s9) k = i)) (LL p9 s9).length := tg_cnt_cong (fun k hk => decide_eq_decide.mpr (by rw [hso2 k hk, LL_len]; exact sv_eq (hqk k hk)))
            refine lv_iload_n hx hb dX12_sweep_108 rfl (lv_at hl 3 rfl) ?_
            refine lv_aload_n hx hb dX12_sweep_109 rfl (lv_at hl 0 rfl) ?_
            refine va_get (ci := 9) (C := RX12) (T := TX12) (N := 28) hx hb ht iFX12 hown hK hP 0 rfl rfl 11 (by decide) (ht _ kw4_121) (fun _ h9 => h9) rfl dX12_sweep_110 ?_
            refine nv_icmp_ge (tgt := 138) hx hb dX12_sweep_113 (by decide) (by omega) (by omega) (fun h113 => ?_) (fun h113 => ?_)
            · skip
              refine lv_iload_n hx hb dX12_sweep_138 rfl (lv_at hl 2 rfl) ?_
              have ei : i = nb := by omega
              subst ei
              rw [LB_n] at hP hD ha_pt ha_ih ha_il ha_ip ha_pn ha_op
              exact hend (pt2, ih2, il2, ip2, pn2, op2, so2) rfl ⟨ha_pt, ha_ih, ha_il, ha_ip, ha_pn, ha_op, hs_pt, hs_ih, hs_il, hs_ip, hs_pn, hs_op, fun s hs => by show so2 s = _; rw [hso2 s hs, sv_n (hown9 s hs)], hb_so2⟩ hP hD hS dX12_sweep_139
            refine lv_aload_n hx hb dX12_sweep_116 rfl (lv_at hl 0 rfl) ?_
            refine lv_iload_n hx hb dX12_sweep_117 rfl (lv_at hl 3 rfl) ?_
            refine ro_V S (c_X12_sessionsOf (ws := mW cy o ad tp os sz bits F G u ((LB q9 nb i).length) ((LL p9 s9).length) T M id ft fo fi g pt2 ih2 il2 ip2 pn2 op2 so2 (ckm fa p9 s9) (ckm fp p9 s9) (ckm st p9 s9) (ckm en p9 s9) dr ++ tl) (km := 0) rfl rfl rfl (k_so := 11) rfl hb_so2 (by omega) (b := (LL q9 i).length) (by omega)) kw5_21 yv_X12_sessionsOf ⟨Nat.le_of_ble_eq_true rfl, Nat.le_of_ble_eq_true rfl⟩ hK hP (va_recv hK hP (ci := 9) (q0 := 0) rfl rfl) rfl hl.1 rfl (Nat.le_of_ble_eq_true rfl) dX12_sweep_118 ⟨(Nat.zero_le _), (Nat.zero_le _)⟩ ?_
            have hcl := tg_cnt_le (fun k => decide (so2 k = (LL q9 i).length)) (LL p9 s9).length
            refine nv_if_le (tgt := 130) hx hb dX12_sweep_121 (by decide) (by omega) (fun h121 => ?_) (fun h121 => ?_)
            · skip
              refine lv_aload_n hx hb dX12_sweep_130 rfl (lv_at hl 0 rfl) ?_
              refine lv_iload_n hx hb dX12_sweep_131 rfl (lv_at hl 3 rfl) ?_
              refine wr_V S (c_X12_dropBinding (b := (LL q9 i).length) (by omega) (by omega) (by omega) hb_so2) kw5_25 yv_X12_dropBinding ⟨Nat.le_of_ble_eq_true rfl, Nat.le_of_ble_eq_true rfl⟩ hK hP hD hS hA (va_recv hK hP (ci := 9) (q0 := 0) rfl rfl) rfl hl.1 rfl (Nat.le_of_ble_eq_true rfl) dX12_sweep_132 ⟨Nat.zero_le _, Nat.zero_le _⟩ (fun u1 H locs hu1 hP hD hS => ?_)
              have hP : va_P D vwCl (mW cy o ad tp os sz bits F G u ((LB q9 nb i).length - 1) ((LL p9 s9).length) T M id ft fo fi g (shk pt2 (LL q9 i).length ((LB q9 nb i).length - 1)) (shk ih2 (LL q9 i).length ((LB q9 nb i).length - 1)) (shk il2 (LL q9 i).length ((LB q9 nb i).length - 1)) (shk ip2 (LL q9 i).length ((LB q9 nb i).length - 1)) (shk pn2 (LL q9 i).length ((LB q9 nb i).length - 1)) (shk op2 (LL q9 i).length ((LB q9 nb i).length - 1)) (sok so2 (LL q9 i).length (LL p9 s9).length) (ckm fa p9 s9) (ckm fp p9 s9) (ckm st p9 s9) (ckm en p9 s9) dr ++ tl) H := hP
              have hD : va_D A (mW cy o ad tp os sz bits F G u ((LB q9 nb i).length - 1) ((LL p9 s9).length) T M id ft fo fi g (shk pt2 (LL q9 i).length ((LB q9 nb i).length - 1)) (shk ih2 (LL q9 i).length ((LB q9 nb i).length - 1)) (shk il2 (LL q9 i).length ((LB q9 nb i).length - 1)) (shk ip2 (LL q9 i).length ((LB q9 nb i).length - 1)) (shk pn2 (LL q9 i).length ((LB q9 nb i).length - 1)) (shk op2 (LL q9 i).length ((LB q9 nb i).length - 1)) (sok so2 (LL q9 i).length (LL p9 s9).length) (ckm fa p9 s9) (ckm fp p9 s9) (ckm st p9 s9) (ckm en p9 s9) dr ++ tl) := hD
              refine W.eq (g2 := F0 m 135 ls []) rfl ?_
              refine lv_goto (tgt := 108) hx hb dX12_sweep_135 (by decide) ?_
              have hz9 : tg_cnt (fun k => decide (pk so (LL p9 s9) k = i)) (LL p9 s9).length = 0 := by omega
              have hqi : q9 i = false := by rw [hq9]; exact decide_eq_false (by omega)
              have hsn : ∀ s, s < (LL p9 s9).length → pk so (LL p9 s9) s ≠ i := fun s hs => of_decide_eq_false (tg_cnt_no hz9 s hs)
              have hbl2 := LB_len (q := q9) (n := nb) (i := i + 1) (by omega)
              have ell := LL_drop hqi
              have eln : (LL q9 (i + 1)).length = (LL q9 i).length := by rw [← ell]
              have el : (LB q9 nb i).length - 1 = (LB q9 nb (i + 1)).length := by omega
              have hd_pt := LB_drop (by omega) hqi rfl ha_pt
              have hd_ih := LB_drop (by omega) hqi rfl ha_ih
              have hd_il := LB_drop (by omega) hqi rfl ha_il
              have hd_ip := LB_drop (by omega) hqi rfl ha_ip
              have hd_pn := LB_drop (by omega) hqi rfl ha_pn
              have hd_op := LB_drop (by omega) hqi rfl ha_op
              rw [el] at hP hD hd_pt hd_ih hd_il hd_ip hd_pn hd_op
              rw [← eln] at hl
              exact ihh (i + 1) _ _ _ _ _ _ (sok so2 (LL q9 i).length (LL p9 s9).length) H locs (by omega) (by omega) hd_pt hd_ih hd_il hd_ip hd_pn hd_op hs_pt.sh hs_ih.sh hs_il.sh hs_ip.sh hs_pn.sh hs_op.sh (fun s hs => sok_sv hs hqi (hsn s hs) (hso2 s hs) LL_len) (fun s => by have := hb_so2 s; unfold sok; split <;> omega) hP hD hS ls (lv_sub hl [0, 1, 2, 3] rfl)
            refine lv_iinc (v := (nI ((LL q9 i).length + 1))) (lv' := [(3, .int (nI ((LL q9 i).length + 1))), (0, .ref o), (1, .int (nI ((LL p9 s9).length))), (2, .int (nI (s9 - (LL p9 s9).length)))]) hx hb dX12_sweep_124 hl (k := 3) rfl (nI_inc _ _) (by decide) rfl (fun ls hl => ?_)
            refine lv_goto (tgt := 108) hx hb dX12_sweep_127 (by decide) ?_
            have hqi : q9 i = true := by rw [hq9]; exact decide_eq_true (by omega)
            have ell := LL_keep hqi
            rw [ell] at hl
            have elb := LB_keep (by omega) hqi (n := nb)
            rw [← elb] at hP hD ha_pt ha_ih ha_il ha_ip ha_pn ha_op
            exact ihh (i + 1) pt2 ih2 il2 ip2 pn2 op2 so2 H locs (by omega) (by omega) ha_pt ha_ih ha_il ha_ip ha_pn ha_op hs_pt hs_ih hs_il hs_ip hs_pn hs_op (fun s hs => by rw [hso2 s hs, sv_keep hqi]) hb_so2 hP hD hS ls (lv_sub hl [1, 2, 3, 0] rfl)
        exact L108 (nb + 1) 0 pt ih il ip pn op (ckm so p9 s9) H locs (by omega) (by omega) (fun k hk => by rw [LB_0, List.length_range] at *; rw [range_at hk]) (fun k hk => by rw [LB_0, List.length_range] at *; rw [range_at hk]) (fun k hk => by rw [LB_0, List.length_range] at *; rw [range_at hk]) (fun k hk => by rw [LB_0, List.length_range] at *; rw [range_at hk]) (fun k hk => by rw [LB_0, List.length_range] at *; rw [range_at hk]) (fun k hk => by rw [LB_0, List.length_range] at *; rw [range_at hk]) SUB.rf SUB.rf SUB.rf SUB.rf SUB.rf SUB.rf (fun s hs => by rw [sv_0, ckm_pk hs]) hb_so0 (by rw [LB_0, List.length_range]; exact hP) (by rw [LB_0, List.length_range]; exact hD) hS ls (lv_sub hl [2, 3, 1, 0] rfl)
      refine lv_aload_n hx hb dX12_sweep_12 rfl (lv_at hl 0 rfl) ?_
      refine va_get (ci := 9) (C := RX12) (T := TX12) (N := 28) hx hb ht iFX12 hown hK hP 0 rfl rfl 23 (by decide) (ht _ kw4_133) (fun _ h9 => h9) rfl dX12_sweep_13 ?_
      refine lv_iload_n hx hb dX12_sweep_16 rfl (lv_at hl 2 rfl) ?_
      refine nv_iald hx hb hK hP 15 rfl (by omega) (by omega) dX12_sweep_17 ?_
      rw [show ni (ckm en p9 s9) s9 = nI (en s9) from congrArg nI ckm_at]
      refine lv_aload_n hx hb dX12_sweep_18 rfl (lv_at hl 0 rfl) ?_
      refine va_get (ci := 9) (C := RX12) (T := TX12) (N := 28) hx hb ht iFX12 hown hK hP 0 rfl rfl 24 (by decide) (ht _ kw4_134) (fun _ h9 => h9) rfl dX12_sweep_19 ?_
      refine nv_icmp_le (tgt := 88) hx hb dX12_sweep_22 (by decide) (by omega) (by omega) (fun h22 => ?_) (fun h22 => ?_)
      · skip
        refine lv_iinc (v := (nI (s9 + 1))) (lv' := [(2, .int (nI (s9 + 1))), (0, .ref o), (1, .int (nI ((LL p9 s9).length)))]) hx hb dX12_sweep_88 hl (k := 2) rfl (nI_inc _ _) (by decide) rfl (fun ls hl => ?_)
        refine lv_goto (tgt := 4) hx hb dX12_sweep_91 (by decide) ?_
        have hpc : p9 s9 = false := by rw [hp9]; exact decide_eq_false (by omega)
        rw [ckm_drop (f := so) hpc, ckm_drop (f := fa) hpc, ckm_drop (f := fp) hpc, ckm_drop (f := st) hpc, ckm_drop (f := en) hpc] at hP hD
        rw [LL_drop hpc] at hl
        exact ihh (s9 + 1) H locs (by omega) (by omega) hP hD hS ls (lv_sub hl [1, 2, 0] rfl)
      refine lv_aload_n hx hb dX12_sweep_25 rfl (lv_at hl 0 rfl) ?_
      refine va_get (ci := 9) (C := RX12) (T := TX12) (N := 28) hx hb ht iFX12 hown hK hP 0 rfl rfl 19 (by decide) (ht _ kw4_129) (fun _ h9 => h9) rfl dX12_sweep_26 ?_
      refine lv_iload_n hx hb dX12_sweep_29 rfl (lv_at hl 1 rfl) ?_
      refine lv_aload_n hx hb dX12_sweep_30 rfl (lv_at hl 0 rfl) ?_
      refine va_get (ci := 9) (C := RX12) (T := TX12) (N := 28) hx hb ht iFX12 hown hK hP 0 rfl rfl 19 (by decide) (ht _ kw4_129) (fun _ h9 => h9) rfl dX12_sweep_31 ?_
      refine lv_iload_n hx hb dX12_sweep_34 rfl (lv_at hl 2 rfl) ?_
      refine nv_iald hx hb hK hP 11 rfl (by omega) (by omega) dX12_sweep_35 ?_
      refine nv_iast hx hb hK hP hD hS 11 rfl (by omega) (by omega) dX12_sweep_36 (fun H locs hP hD hS => ?_)
      rw [ni_upd] at hP hD
      have hP : va_P D vwCl (mW cy o ad tp os sz bits F G u nb ns T M id ft fo fi g pt ih il ip pn op (va_up (ckm so p9 s9) ((LL p9 s9).length) ((ckm so p9 s9) s9)) (ckm fa p9 s9) (ckm fp p9 s9) (ckm st p9 s9) (ckm en p9 s9) dr ++ tl) H := hP
      have hD : va_D A (mW cy o ad tp os sz bits F G u nb ns T M id ft fo fi g pt ih il ip pn op (va_up (ckm so p9 s9) ((LL p9 s9).length) ((ckm so p9 s9) s9)) (ckm fa p9 s9) (ckm fp p9 s9) (ckm st p9 s9) (ckm en p9 s9) dr ++ tl) := hD
      refine lv_aload_n hx hb dX12_sweep_37 rfl (lv_at hl 0 rfl) ?_
      refine va_get (ci := 9) (C := RX12) (T := TX12) (N := 28) hx hb ht iFX12 hown hK hP 0 rfl rfl 20 (by decide) (ht _ kw4_130) (fun _ h9 => h9) rfl dX12_sweep_38 ?_
      refine lv_iload_n hx hb dX12_sweep_41 rfl (lv_at hl 1 rfl) ?_
      refine lv_aload_n hx hb dX12_sweep_42 rfl (lv_at hl 0 rfl) ?_
      refine va_get (ci := 9) (C := RX12) (T := TX12) (N := 28) hx hb ht iFX12 hown hK hP 0 rfl rfl 20 (by decide) (ht _ kw4_130) (fun _ h9 => h9) rfl dX12_sweep_43 ?_
      refine lv_iload_n hx hb dX12_sweep_46 rfl (lv_at hl 2 rfl) ?_
      refine nv_iald hx hb hK hP 12 rfl (by omega) (by omega) dX12_sweep_47 ?_
      refine nv_iast hx hb hK hP hD hS 12 rfl (by omega) (by omega) dX12_sweep_48 (fun H locs hP hD hS => ?_)
      rw [ni_upd] at hP hD
      have hP : va_P D vwCl (mW cy o ad tp os sz bits F G u nb ns T M id ft fo fi g pt ih il ip pn op (va_up (ckm so p9 s9) ((LL p9 s9).length) ((ckm so p9 s9) s9)) (va_up (ckm fa p9 s9) ((LL p9 s9).length) ((ckm fa p9 s9) s9)) (ckm fp p9 s9) (ckm st p9 s9) (ckm en p9 s9) dr ++ tl) H := hP
      have hD : va_D A (mW cy o ad tp os sz bits F G u nb ns T M id ft fo fi g pt ih il ip pn op (va_up (ckm so p9 s9) ((LL p9 s9).length) ((ckm so p9 s9) s9)) (va_up (ckm fa p9 s9) ((LL p9 s9).length) ((ckm fa p9 s9) s9)) (ckm fp p9 s9) (ckm st p9 s9) (ckm en p9 s9) dr ++ tl) := hD
      refine lv_aload_n hx hb dX12_sweep_49 rfl (lv_at hl 0 rfl) ?_
      refine va_get (ci := 9) (C := RX12) (T := TX12) (N := 28) hx hb ht iFX12 hown hK hP 0 rfl rfl 21 (by decide) (ht _ kw4_131) (fun _ h9 => h9) rfl dX12_sweep_50 ?_
      refine lv_iload_n hx hb dX12_sweep_53 rfl (lv_at hl 1 rfl) ?_
      refine lv_aload_n hx hb dX12_sweep_54 rfl (lv_at hl 0 rfl) ?_
      refine va_get (ci := 9) (C := RX12) (T := TX12) (N := 28) hx hb ht iFX12 hown hK hP 0 rfl rfl 21 (by decide) (ht _ kw4_131) (fun _ h9 => h9) rfl dX12_sweep_55 ?_
      refine lv_iload_n hx hb dX12_sweep_58 rfl (lv_at hl 2 rfl) ?_
      refine nv_iald hx hb hK hP 13 rfl (by omega) (by omega) dX12_sweep_59 ?_
      refine nv_iast hx hb hK hP hD hS 13 rfl (by omega) (by omega) dX12_sweep_60 (fun H locs hP hD hS => ?_)
      rw [ni_upd] at hP hD
      have hP : va_P D vwCl (mW cy o ad tp os sz bits F G u nb ns T M id ft fo fi g pt ih il ip pn op (va_up (ckm so p9 s9) ((LL p9 s9).length) ((ckm so p9 s9) s9)) (va_up (ckm fa p9 s9) ((LL p9 s9).length) ((ckm fa p9 s9) s9)) (va_up (ckm fp p9 s9) ((LL p9 s9).length) ((ckm fp p9 s9) s9)) (ckm st p9 s9) (ckm en p9 s9) dr ++ tl) H := hP
      have hD : va_D A (mW cy o ad tp os sz bits F G u nb ns T M id ft fo fi g pt ih il ip pn op (va_up (ckm so p9 s9) ((LL p9 s9).length) ((ckm so p9 s9) s9)) (va_up (ckm fa p9 s9) ((LL p9 s9).length) ((ckm fa p9 s9) s9)) (va_up (ckm fp p9 s9) ((LL p9 s9).length) ((ckm fp p9 s9) s9)) (ckm st p9 s9) (ckm en p9 s9) dr ++ tl) := hD
      refine lv_aload_n hx hb dX12_sweep_61 rfl (lv_at hl 0 rfl) ?_
      refine va_get (ci := 9) (C := RX12) (T := TX12) (N := 28) hx hb ht iFX12 hown hK hP 0 rfl rfl 22 (by decide) (ht _ kw4_132) (fun _ h9 => h9) rfl dX12_sweep_62 ?_
      refine lv_iload_n hx hb dX12_sweep_65 rfl (lv_at hl 1 rfl) ?_
      refine lv_aload_n hx hb dX12_sweep_66 rfl (lv_at hl 0 rfl) ?_
      refine va_get (ci := 9) (C := RX12) (T := TX12) (N := 28) hx hb ht iFX12 hown hK hP 0 rfl rfl 22 (by decide) (ht _ kw4_132) (fun _ h9 => h9) rfl dX12_sweep_67 ?_
      refine lv_iload_n hx hb dX12_sweep_70 rfl (lv_at hl 2 rfl) ?_
      refine nv_iald hx hb hK hP 14 rfl (by omega) (by omega) dX12_sweep_71 ?_
      refine nv_iast hx hb hK hP hD hS 14 rfl (by omega) (by omega) dX12_sweep_72 (fun H locs hP hD hS => ?_)
      rw [ni_upd] at hP hD
      have hP : va_P D vwCl (mW cy o ad tp os sz bits F G u nb ns T M id ft fo fi g pt ih il ip pn op (va_up (ckm so p9 s9) ((LL p9 s9).length) ((ckm so p9 s9) s9)) (va_up (ckm fa p9 s9) ((LL p9 s9).length) ((ckm fa p9 s9) s9)) (va_up (ckm fp p9 s9) ((LL p9 s9).length) ((ckm fp p9 s9) s9)) (va_up (ckm st p9 s9) ((LL p9 s9).length) ((ckm st p9 s9) s9)) (ckm en p9 s9) dr ++ tl) H := hP
      have hD : va_D A (mW cy o ad tp os sz bits F G u nb ns T M id ft fo fi g pt ih il ip pn op (va_up (ckm so p9 s9) ((LL p9 s9).length) ((ckm so p9 s9) s9)) (va_up (ckm fa p9 s9) ((LL p9 s9).length) ((ckm fa p9 s9) s9)) (va_up (ckm fp p9 s9) ((LL p9 s9).length) ((ckm fp p9 s9) s9)) (va_up (ckm st p9 s9) ((LL p9 s9).length) ((ckm st p9 s9) s9)) (ckm en p9 s9) dr ++ tl) := hD
      refine lv_aload_n hx hb dX12_sweep_73 rfl (lv_at hl 0 rfl) ?_
      refine va_get (ci := 9) (C := RX12) (T := TX12) (N := 28) hx hb ht iFX12 hown hK hP 0 rfl rfl 23 (by decide) (ht _ kw4_133) (fun _ h9 => h9) rfl dX12_sweep_74 ?_
      refine lv_iload_n hx hb dX12_sweep_77 rfl (lv_at hl 1 rfl) ?_
      refine lv_aload_n hx hb dX12_sweep_78 rfl (lv_at hl 0 rfl) ?_
      refine va_get (ci := 9) (C := RX12) (T := TX12) (N := 28) hx hb ht iFX12 hown hK hP 0 rfl rfl 23 (by decide) (ht _ kw4_133) (fun _ h9 => h9) rfl dX12_sweep_79 ?_
      refine lv_iload_n hx hb dX12_sweep_82 rfl (lv_at hl 2 rfl) ?_
      refine nv_iald hx hb hK hP 15 rfl (by omega) (by omega) dX12_sweep_83 ?_
      refine nv_iast hx hb hK hP hD hS 15 rfl (by omega) (by omega) dX12_sweep_84 (fun H locs hP hD hS => ?_)
      rw [ni_upd] at hP hD
      have hP : va_P D vwCl (mW cy o ad tp os sz bits F G u nb ns T M id ft fo fi g pt ih il ip pn op (va_up (ckm so p9 s9) ((LL p9 s9).length) ((ckm so p9 s9) s9)) (va_up (ckm fa p9 s9) ((LL p9 s9).length) ((ckm fa p9 s9) s9)) (va_up (ckm fp p9 s9) ((LL p9 s9).length) ((ckm fp p9 s9) s9)) (va_up (ckm st p9 s9) ((LL p9 s9).length) ((ckm st p9 s9) s9)) (va_up (ckm en p9 s9) ((LL p9 s9).length) ((ckm en p9 s9) s9)) dr ++ tl) H := hP
      have hD : va_D A (mW cy o ad tp os sz bits F G u nb ns T M id ft fo fi g pt ih il ip pn op (va_up (ckm so p9 s9) ((LL p9 s9).length) ((ckm so p9 s9) s9)) (va_up (ckm fa p9 s9) ((LL p9 s9).length) ((ckm fa p9 s9) s9)) (va_up (ckm fp p9 s9) ((LL p9 s9).length) ((ckm fp p9 s9) s9)) (va_up (ckm st p9 s9) ((LL p9 s9).length) ((ckm st p9 s9) s9)) (va_up (ckm en p9 s9) ((LL p9 s9).length) ((ckm en p9 s9) s9)) dr ++ tl) := hD
      refine lv_iinc (v := (nI ((LL p9 s9).length + 1))) (lv' := [(1, .int (nI ((LL p9 s9).length + 1))), (0, .ref o), (2, .int (nI s9))]) hx hb dX12_sweep_85 hl (k := 1) rfl (nI_inc _ _) (by decide) rfl (fun ls hl => ?_)
      refine lv_iinc (v := (nI (s9 + 1))) (lv' := [(2, .int (nI (s9 + 1))), (1, .int (nI ((LL p9 s9).length + 1))), (0, .ref o)]) hx hb dX12_sweep_88 hl (k := 2) rfl (nI_inc _ _) (by decide) rfl (fun ls hl => ?_)
      refine lv_goto (tgt := 4) hx hb dX12_sweep_91 (by decide) ?_
      have hpc : p9 s9 = true := by rw [hp9]; exact decide_eq_true (by omega)
      rw [ckm_at (f := so), ckm_keep (f := so) hpc, ckm_at (f := fa), ckm_keep (f := fa) hpc, ckm_at (f := fp), ckm_keep (f := fp) hpc, ckm_at (f := st), ckm_keep (f := st) hpc, ckm_at (f := en), ckm_keep (f := en) hpc] at hP hD
      have ell := LL_keep hpc
      rw [ell] at hl
      exact ihh (s9 + 1) H locs (by omega) (by omega) hP hD hS ls (lv_sub hl [2, 1, 0] rfl)
  exact L4 (ns + 1) 0 s.heap [] (by omega) (by omega) (by rw [ckm_0 (f := so), ckm_0 (f := fa), ckm_0 (f := fp), ckm_0 (f := st), ckm_0 (f := en)]; exact hP) (by rw [ckm_0 (f := so), ckm_0 (f := fa), ckm_0 (f := fp), ckm_0 (f := st), ckm_0 (f := en)]; exact hD) hS ls (lv_sub hl [2, 1, 0] rfl)
set_option maxHeartbeats 4000000 in
set_option maxRecDepth 100000 in
theorem c_X12_tick {l : Launch} {D : va_G} {cy : Nat → ClassId} {o : Nat} {ad : Nat → Nat} {tl : va_W} {tp os sz bits F G u nb ns T M id : Nat} {ft fo fi : Nat → UInt8} {g : Nat → Int32} {pt ih il ip pn op so fa fp st en dr : Nat → Nat} {n9 : Nat} (hn9 : n9 ≤ 10000) {p9 q9 : Nat → Bool} (hp9 : p9 = fun j => decide (T + n9 < en j)) (hq9 : q9 = fun j => decide (0 < tg_cnt (fun k => decide (pk so (LL p9 ns) k = j)) (LL p9 ns).length)) (hnb : nb ≤ 64) (hns : ns ≤ 128) (hb_so : ∀ i, so i < 2 ^ 31) (hb_en : ∀ i, en i < 2 ^ 31) (hT31 : T + n9 < 2 ^ 31) (hown9 : ∀ s, s < (LL p9 ns).length → pk so (LL p9 ns) s < nb) : WR (S := ((Nat → Nat) × (Nat → Nat) × (Nat → Nat) × (Nat → Nat) × (Nat → Nat) × (Nat → Nat) × (Nat → Nat))) l yX12_tick cX12_tick 2 (some .int) 2 0 0 46 [.ref o, .int (nI n9)] D cy (mW cy o ad tp os sz bits F G u nb ns T M id ft fo fi g pt ih il ip pn op so fa fp st en dr ++ tl) (fun u_ => some (.int (nI (ns - (LL p9 ns).length)))) (fun z9 => (∀ k, k < (LL q9 nb).length → z9.1 k = pt ((LL q9 nb).getD k 0)) ∧ (∀ k, k < (LL q9 nb).length → z9.2.1 k = ih ((LL q9 nb).getD k 0)) ∧ (∀ k, k < (LL q9 nb).length → z9.2.2.1 k = il ((LL q9 nb).getD k 0)) ∧ (∀ k, k < (LL q9 nb).length → z9.2.2.2.1 k = ip ((LL q9 nb).getD k 0)) ∧ (∀ k, k < (LL q9 nb).length → z9.2.2.2.2.1 k = pn ((LL q9 nb).getD k 0)) ∧ (∀ k, k < (LL q9 nb).length → z9.2.2.2.2.2.1 k = op ((LL q9 nb).getD k 0)) ∧ SUB z9.1 pt ∧ SUB z9.2.1 ih ∧ SUB z9.2.2.1 il ∧ SUB z9.2.2.2.1 ip ∧ SUB z9.2.2.2.2.1 pn ∧ SUB z9.2.2.2.2.2.1 op ∧ (∀ s, s < (LL p9 ns).length → z9.2.2.2.2.2.2 s = tg_cnt q9 (pk so (LL p9 ns) s)) ∧ (∀ i, z9.2.2.2.2.2.2 i < 2 ^ 31)) (fun z9 => mW cy o ad tp os sz bits F G u ((LL q9 nb).length) ((LL p9 ns).length) (T + n9) M id ft fo fi g z9.1 z9.2.1 z9.2.2.1 z9.2.2.2.1 z9.2.2.2.2.1 z9.2.2.2.2.2.1 z9.2.2.2.2.2.2 (ckm fa p9 ns) (ckm fp p9 ns) (ckm st p9 ns) (ckm en p9 ns) dr ++ tl) := by
  refine WRi (by decide) (lv0 := [(0, .ref o), (1, .int (nI n9))]) rfl (Nat.le_of_ble_eq_true rfl) ?_
  intro p e s m args below meth c ls A Q S hnm hP hK hD hS hA hend hl
  have hx := S.1
  have hb := S.2.1
  have hown : s.vm.findClass RX12 = some m.cls := S.2.2.2.1
  have ht : ∀ w ∈ lw_g, w.before args s = true := fun w h => S.2.2.2.2 w (List.mem_cons_of_mem _ h)
  have hP : va_P D vwCl (mW cy o ad tp os sz bits F G u nb ns T M id ft fo fi g pt ih il ip pn op so fa fp st en dr ++ tl) s.heap := hP
  refine lv_iload_n hx hb dX12_tick_0 rfl (lv_at hl 1 rfl) ?_
  refine nv_i2l hx hb (by omega) dX12_tick_1 ?_
  refine lv_lconst (v := lN 0) hx hb dX12_tick_2 (by decide) ?_
  refine nv_ldc2 (k := 10000) hx hb hown (ht _ kw5_13) (by decide) dX12_tick_3 ?_
  refine ro_S S (c_X12_isIn (v := lN (n9)) (lo := lN (0)) (hi := lN (10000))) kw5_14 yv_X12_isIn ⟨Nat.le_of_ble_eq_true rfl, Nat.le_of_ble_eq_true rfl⟩ hK hP rfl hl.1 rfl (Nat.le_of_ble_eq_true rfl) dX12_tick_6 ⟨(Nat.zero_le _), (Nat.zero_le _)⟩ ?_
  rw [show tg_isIn (lN (n9)) (lN (0)) (lN (10000)) = true from (by rw [isIn_nat (by omega) (by omega) (by omega)]; exact decide_eq_true (by omega))]
  refine nv_if_neb (tgt := 14) hx hb dX12_tick_9 (by decide) (fun _ => ?_) (fun h => absurd h (by decide))
  refine lv_aload_n hx hb dX12_tick_14 rfl (lv_at hl 0 rfl) ?_
  refine lv_dup hx hb dX12_tick_15 rfl ?_
  refine va_get (ci := 9) (C := RX12) (T := TX12) (N := 28) hx hb ht iFX12 hown hK hP 0 rfl rfl 24 (by decide) (ht _ kw4_134) (fun _ h9 => h9) rfl dX12_tick_16 ?_
  refine lv_iload_n hx hb dX12_tick_19 rfl (lv_at hl 1 rfl) ?_
  refine nv_iadd hx hb dX12_tick_20 ?_
  refine va_put (ci := 9) (C := RX12) (T := TX12) (N := 28) (ty := tyX12 24) hx hb ht iFX12 tyX12 tyX12_ok nmX12 hown hK hP hD hS 0 rfl rfl 24 (by decide) (ht _ kw4_134) (fun _ h9 => h9) rfl (by decide +kernel) (by first | rfl | decide) (by first | rfl | decide) (Nat.le_of_ble_eq_true rfl) dX12_tick_21 (fun H locs hP hD hS => ?_)
  have hP : va_P D vwCl (mW cy o ad tp os sz bits F G u nb ns (T + n9) M id ft fo fi g pt ih il ip pn op so fa fp st en dr ++ tl) H := hP
  have hD : va_D A (mW cy o ad tp os sz bits F G u nb ns (T + n9) M id ft fo fi g pt ih il ip pn op so fa fp st en dr ++ tl) := hD
  refine lv_aload_n hx hb dX12_tick_24 rfl (lv_at hl 0 rfl) ?_
  refine wr_V S (c_X12_sweep hp9 hq9 hnb hns hb_so hb_en hT31 hown9) kw5_17 yv_X12_sweep ⟨Nat.le_of_ble_eq_true rfl, Nat.le_of_ble_eq_true rfl⟩ hK hP hD hS hA (va_recv hK hP (ci := 9) (q0 := 0) rfl rfl) rfl hl.1 rfl (Nat.le_of_ble_eq_true rfl) dX12_tick_25 ⟨Nat.zero_le _, Nat.zero_le _⟩ (fun z1 H locs hz1 hP hD hS => ?_)
  refine W.eq (g2 := F0 m 28 ls [.int (nI (ns - (LL p9 ns).length))]) rfl ?_
  exact hend z1 rfl hz1 hP hD hS dX12_tick_28
theorem dX12_init_0 : decode cX12_init 0 = .ok (.aload_n 0, 1) := by decide +kernel
theorem dX12_init_1 : decode cX12_init 1 = .ok (.invokespecial 1, 3) := by decide +kernel
theorem dX12_init_4 : decode cX12_init 4 = .ok (.aload_n 0, 1) := by decide +kernel
theorem dX12_init_5 : decode cX12_init 5 = .ok (.sipush 1600, 3) := by decide +kernel
theorem dX12_init_8 : decode cX12_init 8 = .ok (.newarray .byte, 2) := by decide +kernel
theorem dX12_init_10 : decode cX12_init 10 = .ok (.putfield 7, 3) := by decide +kernel
theorem dX12_init_13 : decode cX12_init 13 = .ok (.aload_n 0, 1) := by decide +kernel
theorem dX12_init_14 : decode cX12_init 14 = .ok (.sipush 1640, 3) := by decide +kernel
theorem dX12_init_17 : decode cX12_init 17 = .ok (.newarray .byte, 2) := by decide +kernel
theorem dX12_init_19 : decode cX12_init 19 = .ok (.putfield 13, 3) := by decide +kernel
theorem dX12_init_22 : decode cX12_init 22 = .ok (.aload_n 0, 1) := by decide +kernel
theorem dX12_init_23 : decode cX12_init 23 = .ok (.sipush 1600, 3) := by decide +kernel
theorem dX12_init_26 : decode cX12_init 26 = .ok (.newarray .byte, 2) := by decide +kernel
theorem dX12_init_28 : decode cX12_init 28 = .ok (.putfield 16, 3) := by decide +kernel
theorem dX12_init_31 : decode cX12_init 31 = .ok (.aload_n 0, 1) := by decide +kernel
theorem dX12_init_32 : decode cX12_init 32 = .ok (.iconst 4, 1) := by decide +kernel
theorem dX12_init_33 : decode cX12_init 33 = .ok (.newarray .int, 2) := by decide +kernel
theorem dX12_init_35 : decode cX12_init 35 = .ok (.putfield 19, 3) := by decide +kernel
theorem dX12_init_38 : decode cX12_init 38 = .ok (.aload_n 0, 1) := by decide +kernel
theorem dX12_init_39 : decode cX12_init 39 = .ok (.bipush 64, 2) := by decide +kernel
theorem dX12_init_41 : decode cX12_init 41 = .ok (.newarray .int, 2) := by decide +kernel
theorem dX12_init_43 : decode cX12_init 43 = .ok (.putfield 23, 3) := by decide +kernel
theorem dX12_init_46 : decode cX12_init 46 = .ok (.aload_n 0, 1) := by decide +kernel
theorem dX12_init_47 : decode cX12_init 47 = .ok (.bipush 64, 2) := by decide +kernel
theorem dX12_init_49 : decode cX12_init 49 = .ok (.newarray .long, 2) := by decide +kernel
theorem dX12_init_51 : decode cX12_init 51 = .ok (.putfield 26, 3) := by decide +kernel
theorem dX12_init_54 : decode cX12_init 54 = .ok (.aload_n 0, 1) := by decide +kernel
theorem dX12_init_55 : decode cX12_init 55 = .ok (.bipush 64, 2) := by decide +kernel
theorem dX12_init_57 : decode cX12_init 57 = .ok (.newarray .long, 2) := by decide +kernel
theorem dX12_init_59 : decode cX12_init 59 = .ok (.putfield 30, 3) := by decide +kernel
theorem dX12_init_62 : decode cX12_init 62 = .ok (.aload_n 0, 1) := by decide +kernel
theorem dX12_init_63 : decode cX12_init 63 = .ok (.bipush 64, 2) := by decide +kernel
theorem dX12_init_65 : decode cX12_init 65 = .ok (.newarray .int, 2) := by decide +kernel
theorem dX12_init_67 : decode cX12_init 67 = .ok (.putfield 33, 3) := by decide +kernel
theorem dX12_init_70 : decode cX12_init 70 = .ok (.aload_n 0, 1) := by decide +kernel
theorem dX12_init_71 : decode cX12_init 71 = .ok (.bipush 64, 2) := by decide +kernel
theorem dX12_init_73 : decode cX12_init 73 = .ok (.newarray .int, 2) := by decide +kernel
theorem dX12_init_75 : decode cX12_init 75 = .ok (.putfield 36, 3) := by decide +kernel
theorem dX12_init_78 : decode cX12_init 78 = .ok (.aload_n 0, 1) := by decide +kernel
theorem dX12_init_79 : decode cX12_init 79 = .ok (.bipush 64, 2) := by decide +kernel
theorem dX12_init_81 : decode cX12_init 81 = .ok (.newarray .int, 2) := by decide +kernel
theorem dX12_init_83 : decode cX12_init 83 = .ok (.putfield 39, 3) := by decide +kernel
theorem dX12_init_86 : decode cX12_init 86 = .ok (.aload_n 0, 1) := by decide +kernel
theorem dX12_init_87 : decode cX12_init 87 = .ok (.sipush 128, 3) := by decide +kernel
theorem dX12_init_90 : decode cX12_init 90 = .ok (.newarray .int, 2) := by decide +kernel
theorem dX12_init_92 : decode cX12_init 92 = .ok (.putfield 42, 3) := by decide +kernel
theorem dX12_init_95 : decode cX12_init 95 = .ok (.aload_n 0, 1) := by decide +kernel
theorem dX12_init_96 : decode cX12_init 96 = .ok (.sipush 128, 3) := by decide +kernel
theorem dX12_init_99 : decode cX12_init 99 = .ok (.newarray .int, 2) := by decide +kernel
theorem dX12_init_101 : decode cX12_init 101 = .ok (.putfield 45, 3) := by decide +kernel
theorem dX12_init_104 : decode cX12_init 104 = .ok (.aload_n 0, 1) := by decide +kernel
theorem dX12_init_105 : decode cX12_init 105 = .ok (.sipush 128, 3) := by decide +kernel
theorem dX12_init_108 : decode cX12_init 108 = .ok (.newarray .int, 2) := by decide +kernel
theorem dX12_init_110 : decode cX12_init 110 = .ok (.putfield 48, 3) := by decide +kernel
theorem dX12_init_113 : decode cX12_init 113 = .ok (.aload_n 0, 1) := by decide +kernel
theorem dX12_init_114 : decode cX12_init 114 = .ok (.sipush 128, 3) := by decide +kernel
theorem dX12_init_117 : decode cX12_init 117 = .ok (.newarray .int, 2) := by decide +kernel
theorem dX12_init_119 : decode cX12_init 119 = .ok (.putfield 51, 3) := by decide +kernel
theorem dX12_init_122 : decode cX12_init 122 = .ok (.aload_n 0, 1) := by decide +kernel
theorem dX12_init_123 : decode cX12_init 123 = .ok (.sipush 128, 3) := by decide +kernel
theorem dX12_init_126 : decode cX12_init 126 = .ok (.newarray .int, 2) := by decide +kernel
theorem dX12_init_128 : decode cX12_init 128 = .ok (.putfield 54, 3) := by decide +kernel
theorem dX12_init_131 : decode cX12_init 131 = .ok (.aload_n 0, 1) := by decide +kernel
theorem dX12_init_132 : decode cX12_init 132 = .ok (.bipush 16, 2) := by decide +kernel
theorem dX12_init_134 : decode cX12_init 134 = .ok (.newarray .int, 2) := by decide +kernel
theorem dX12_init_136 : decode cX12_init 136 = .ok (.putfield 57, 3) := by decide +kernel
theorem dX12_init_139 : decode cX12_init 139 = .ok (.aload_n 0, 1) := by decide +kernel
theorem dX12_init_140 : decode cX12_init 140 = .ok (.iconst 1, 1) := by decide +kernel
theorem dX12_init_141 : decode cX12_init 141 = .ok (.putfield 60, 3) := by decide +kernel
theorem dX12_init_144 : decode cX12_init 144 = .ok (.return_, 1) := by decide +kernel
theorem yv_X12_init : YI yX12_init cX12_init 1 0 := ⟨kw4_107, kw1_10, kw4_108, rfl, by decide +kernel⟩
set_option maxHeartbeats 4000000 in
set_option maxRecDepth 100000 in
theorem c_X12_init {l : Launch} {D : va_G} {cy : Nat → ClassId} {w0 : va_W} {x9 : Nat} : WR (S := (Nat → Nat)) l yX12_init cX12_init 1 none 1 16 6000 12 [.ref x9] D cy (w0 ++ [(x9, .inr (9, [.null, .int 0, .null, .int 0, .null, .int 0, .int 0, .long 0, .long 0, .int 0, .null, .int 0, .null, .null, .null, .null, .null, .null, .int 0, .null, .null, .null, .null, .null, .int 0, .int 0, .null, .int 0]))]) (fun _ => none) (fun _ => True) (fun z => w0 ++ mW cy x9 z 0 0 0 0 0 0 0 0 0 0 0 1 (fun _ => 0) (fun _ => 0) (fun _ => 0) (fun _ => 0) (fun _ => 0) (fun _ => 0) (fun _ => 0) (fun _ => 0) (fun _ => 0) (fun _ => 0) (fun _ => 0) (fun _ => 0) (fun _ => 0) (fun _ => 0) (fun _ => 0) (fun _ => 0)) := by
  refine WRv (by decide) (lv0 := [(0, .ref x9)]) rfl (Nat.le_of_ble_eq_true rfl) ?_
  intro p e s m args below meth c ls A Q S hnm hP hK hD hS hA hend hl
  have hx := S.1
  have hb := S.2.1
  have hown : s.vm.findClass RX12 = some m.cls := S.2.2.2.1
  have ht : ∀ w ∈ lw_g, w.before args s = true := fun w h => S.2.2.2.2 w (List.mem_cons_of_mem _ h)
  have hP : va_P D vwCl (w0 ++ [(x9, .inr (9, [.null, .int 0, .null, .int 0, .null, .int 0, .int 0, .long 0, .long 0, .int 0, .null, .int 0, .null, .null, .null, .null, .null, .null, .int 0, .null, .null, .null, .null, .null, .int 0, .int 0, .null, .int 0]))]) s.heap := hP
  refine lv_aload_n hx hb dX12_init_0 rfl (lv_at hl 0 rfl) ?_
  refine W.objInit hx hb hown (ht _ kw4_109) (ht _ kw1_29) (ht _ kw1_30) rfl (hl.1.trans S.2.2.1.symm) rfl dX12_init_1 (Nat.le_of_ble_eq_true rfl) (Nat.le_of_ble_eq_true rfl) ?_
  refine W.eq (g2 := F0 m 4 ls []) rfl ?_
  refine lv_aload_n hx hb dX12_init_4 rfl (lv_at hl 0 rfl) ?_
  refine nv_sipush (k := 1600) hx hb dX12_init_5 (by decide) ?_
  refine va_newa (atype := .byte) (a0 := (1600, .inl (fun _ => 0))) hx hb (ht _ kw1_47) (ty := .byte) rfl hK hP hD hS hA (fun _ => rfl) (nI_pos (n := 1600) (by omega)) (nI_clamp (n := 1600) (by omega)) (by show 1600 * 1 ≤ _; omega) (by show _ ≤ 16; omega) (by show _ ≤ 6000; omega) dX12_init_8 (fun q8 cA H hK2 hP hD hS => ?_)
  have ecA := a_cls 0 hK hK2 rfl (fun C h9 => by cases h9)
  subst ecA
  rw [List.append_assoc] at hP hD
  have hP : va_P D vwCl (w0 ++ [(x9, .inr (9, [.null, .int 0, .null, .int 0, .null, .int 0, .int 0, .long 0, .long 0, .int 0, .null, .int 0, .null, .null, .null, .null, .null, .null, .int 0, .null, .null, .null, .null, .null, .int 0, .int 0, .null, .int 0])), (q8, .inl (cy 0, 1600, .inl (fun _ => 0)))]) H := hP
  have hD : va_D A (w0 ++ [(x9, .inr (9, [.null, .int 0, .null, .int 0, .null, .int 0, .int 0, .long 0, .long 0, .int 0, .null, .int 0, .null, .null, .null, .null, .null, .null, .int 0, .null, .null, .null, .null, .null, .int 0, .int 0, .null, .int 0])), (q8, .inl (cy 0, 1600, .inl (fun _ => 0)))]) := hD
  refine va_putF (ci := 9) (C := RX12) (T := TX12) (N := 28) (ty := tyX12 0) hx hb ht iFX12 tyX12 tyX12_ok nmX12 hown hK hP hD hS (w0.length + 0) (app_r rfl) rfl 0 (by decide) (ht _ kw4_110) (fun _ h9 => h9) rfl hnm rfl (by decide +kernel) (by first | rfl | decide) (by first | rfl | decide) (Nat.le_of_ble_eq_true rfl) dX12_init_10 (fun H locs hP hD hS => ?_)
  rw [app_setr] at hP hD
  have hP : va_P D vwCl (w0 ++ [(x9, .inr (9, [.ref q8, .int 0, .null, .int 0, .null, .int 0, .int 0, .long 0, .long 0, .int 0, .null, .int 0, .null, .null, .null, .null, .null, .null, .int 0, .null, .null, .null, .null, .null, .int 0, .int 0, .null, .int 0])), (q8, .inl (cy 0, 1600, .inl (fun _ => 0)))]) H := hP
  have hD : va_D A (w0 ++ [(x9, .inr (9, [.ref q8, .int 0, .null, .int 0, .null, .int 0, .int 0, .long 0, .long 0, .int 0, .null, .int 0, .null, .null, .null, .null, .null, .null, .int 0, .null, .null, .null, .null, .null, .int 0, .int 0, .null, .int 0])), (q8, .inl (cy 0, 1600, .inl (fun _ => 0)))]) := hD
  refine lv_aload_n hx hb dX12_init_13 rfl (lv_at hl 0 rfl) ?_
  refine nv_sipush (k := 1640) hx hb dX12_init_14 (by decide) ?_
  refine va_newa (atype := .byte) (a0 := (1640, .inl (fun _ => 0))) hx hb (ht _ kw1_47) (ty := .byte) rfl hK hP hD hS hA (fun _ => rfl) (nI_pos (n := 1640) (by omega)) (nI_clamp (n := 1640) (by omega)) (by show 1640 * 1 ≤ _; omega) (by show _ ≤ 16; omega) (by show _ ≤ 6000; omega) dX12_init_17 (fun q17 cA H hK2 hP hD hS => ?_)
  have ecA := a_cls 0 hK hK2 rfl (fun C h9 => by cases h9)
  subst ecA
  rw [List.append_assoc] at hP hD
  have hP : va_P D vwCl (w0 ++ [(x9, .inr (9, [.ref q8, .int 0, .null, .int 0, .null, .int 0, .int 0, .long 0, .long 0, .int 0, .null, .int 0, .null, .null, .null, .null, .null, .null, .int 0, .null, .null, .null, .null, .null, .int 0, .int 0, .null, .int 0])), (q8, .inl (cy 0, 1600, .inl (fun _ => 0))), (q17, .inl (cy 0, 1640, .inl (fun _ => 0)))]) H := hP
  have hD : va_D A (w0 ++ [(x9, .inr (9, [.ref q8, .int 0, .null, .int 0, .null, .int 0, .int 0, .long 0, .long 0, .int 0, .null, .int 0, .null, .null, .null, .null, .null, .null, .int 0, .null, .null, .null, .null, .null, .int 0, .int 0, .null, .int 0])), (q8, .inl (cy 0, 1600, .inl (fun _ => 0))), (q17, .inl (cy 0, 1640, .inl (fun _ => 0)))]) := hD
  refine va_putF (ci := 9) (C := RX12) (T := TX12) (N := 28) (ty := tyX12 2) hx hb ht iFX12 tyX12 tyX12_ok nmX12 hown hK hP hD hS (w0.length + 0) (app_r rfl) rfl 2 (by decide) (ht _ kw4_112) (fun _ h9 => h9) rfl hnm rfl (by decide +kernel) (by first | rfl | decide) (by first | rfl | decide) (Nat.le_of_ble_eq_true rfl) dX12_init_19 (fun H locs hP hD hS => ?_)
  rw [app_setr] at hP hD
  have hP : va_P D vwCl (w0 ++ [(x9, .inr (9, [.ref q8, .int 0, .ref q17, .int 0, .null, .int 0, .int 0, .long 0, .long 0, .int 0, .null, .int 0, .null, .null, .null, .null, .null, .null, .int 0, .null, .null, .null, .null, .null, .int 0, .int 0, .null, .int 0])), (q8, .inl (cy 0, 1600, .inl (fun _ => 0))), (q17, .inl (cy 0, 1640, .inl (fun _ => 0)))]) H := hP
  have hD : va_D A (w0 ++ [(x9, .inr (9, [.ref q8, .int 0, .ref q17, .int 0, .null, .int 0, .int 0, .long 0, .long 0, .int 0, .null, .int 0, .null, .null, .null, .null, .null, .null, .int 0, .null, .null, .null, .null, .null, .int 0, .int 0, .null, .int 0])), (q8, .inl (cy 0, 1600, .inl (fun _ => 0))), (q17, .inl (cy 0, 1640, .inl (fun _ => 0)))]) := hD
  refine lv_aload_n hx hb dX12_init_22 rfl (lv_at hl 0 rfl) ?_
  refine nv_sipush (k := 1600) hx hb dX12_init_23 (by decide) ?_
  refine va_newa (atype := .byte) (a0 := (1600, .inl (fun _ => 0))) hx hb (ht _ kw1_47) (ty := .byte) rfl hK hP hD hS hA (fun _ => rfl) (nI_pos (n := 1600) (by omega)) (nI_clamp (n := 1600) (by omega)) (by show 1600 * 1 ≤ _; omega) (by show _ ≤ 16; omega) (by show _ ≤ 6000; omega) dX12_init_26 (fun q26 cA H hK2 hP hD hS => ?_)
  have ecA := a_cls 0 hK hK2 rfl (fun C h9 => by cases h9)
  subst ecA
  rw [List.append_assoc] at hP hD
  have hP : va_P D vwCl (w0 ++ [(x9, .inr (9, [.ref q8, .int 0, .ref q17, .int 0, .null, .int 0, .int 0, .long 0, .long 0, .int 0, .null, .int 0, .null, .null, .null, .null, .null, .null, .int 0, .null, .null, .null, .null, .null, .int 0, .int 0, .null, .int 0])), (q8, .inl (cy 0, 1600, .inl (fun _ => 0))), (q17, .inl (cy 0, 1640, .inl (fun _ => 0))), (q26, .inl (cy 0, 1600, .inl (fun _ => 0)))]) H := hP
  have hD : va_D A (w0 ++ [(x9, .inr (9, [.ref q8, .int 0, .ref q17, .int 0, .null, .int 0, .int 0, .long 0, .long 0, .int 0, .null, .int 0, .null, .null, .null, .null, .null, .null, .int 0, .null, .null, .null, .null, .null, .int 0, .int 0, .null, .int 0])), (q8, .inl (cy 0, 1600, .inl (fun _ => 0))), (q17, .inl (cy 0, 1640, .inl (fun _ => 0))), (q26, .inl (cy 0, 1600, .inl (fun _ => 0)))]) := hD
  refine va_putF (ci := 9) (C := RX12) (T := TX12) (N := 28) (ty := tyX12 4) hx hb ht iFX12 tyX12 tyX12_ok nmX12 hown hK hP hD hS (w0.length + 0) (app_r rfl) rfl 4 (by decide) (ht _ kw4_114) (fun _ h9 => h9) rfl hnm rfl (by decide +kernel) (by first | rfl | decide) (by first | rfl | decide) (Nat.le_of_ble_eq_true rfl) dX12_init_28 (fun H locs hP hD hS => ?_)
  rw [app_setr] at hP hD
  have hP : va_P D vwCl (w0 ++ [(x9, .inr (9, [.ref q8, .int 0, .ref q17, .int 0, .ref q26, .int 0, .int 0, .long 0, .long 0, .int 0, .null, .int 0, .null, .null, .null, .null, .null, .null, .int 0, .null, .null, .null, .null, .null, .int 0, .int 0, .null, .int 0])), (q8, .inl (cy 0, 1600, .inl (fun _ => 0))), (q17, .inl (cy 0, 1640, .inl (fun _ => 0))), (q26, .inl (cy 0, 1600, .inl (fun _ => 0)))]) H := hP
  have hD : va_D A (w0 ++ [(x9, .inr (9, [.ref q8, .int 0, .ref q17, .int 0, .ref q26, .int 0, .int 0, .long 0, .long 0, .int 0, .null, .int 0, .null, .null, .null, .null, .null, .null, .int 0, .null, .null, .null, .null, .null, .int 0, .int 0, .null, .int 0])), (q8, .inl (cy 0, 1600, .inl (fun _ => 0))), (q17, .inl (cy 0, 1640, .inl (fun _ => 0))), (q26, .inl (cy 0, 1600, .inl (fun _ => 0)))]) := hD
  refine lv_aload_n hx hb dX12_init_31 rfl (lv_at hl 0 rfl) ?_
  refine nv_iconst (k := 4) hx hb dX12_init_32 rfl ?_
  refine va_newa (atype := .int) (a0 := (4, .inl (fun _ => 0))) hx hb (ht _ kw1_80) (ty := .int) rfl hK hP hD hS hA (fun _ => rfl) (nI_pos (n := 4) (by omega)) (nI_clamp (n := 4) (by omega)) (by show 4 * 4 ≤ _; omega) (by show _ ≤ 16; omega) (by show _ ≤ 6000; omega) dX12_init_33 (fun q33 cA H hK2 hP hD hS => ?_)
  have ecA := a_cls 1 hK hK2 rfl (fun C h9 => by cases h9)
  subst ecA
  rw [List.append_assoc] at hP hD
  have hP : va_P D vwCl (w0 ++ [(x9, .inr (9, [.ref q8, .int 0, .ref q17, .int 0, .ref q26, .int 0, .int 0, .long 0, .long 0, .int 0, .null, .int 0, .null, .null, .null, .null, .null, .null, .int 0, .null, .null, .null, .null, .null, .int 0, .int 0, .null, .int 0])), (q8, .inl (cy 0, 1600, .inl (fun _ => 0))), (q17, .inl (cy 0, 1640, .inl (fun _ => 0))), (q26, .inl (cy 0, 1600, .inl (fun _ => 0))), (q33, .inl (cy 1, 4, .inl (fun _ => 0)))]) H := hP
  have hD : va_D A (w0 ++ [(x9, .inr (9, [.ref q8, .int 0, .ref q17, .int 0, .ref q26, .int 0, .int 0, .long 0, .long 0, .int 0, .null, .int 0, .null, .null, .null, .null, .null, .null, .int 0, .null, .null, .null, .null, .null, .int 0, .int 0, .null, .int 0])), (q8, .inl (cy 0, 1600, .inl (fun _ => 0))), (q17, .inl (cy 0, 1640, .inl (fun _ => 0))), (q26, .inl (cy 0, 1600, .inl (fun _ => 0))), (q33, .inl (cy 1, 4, .inl (fun _ => 0)))]) := hD
  refine va_putF (ci := 9) (C := RX12) (T := TX12) (N := 28) (ty := tyX12 10) hx hb ht iFX12 tyX12 tyX12_ok nmX12 hown hK hP hD hS (w0.length + 0) (app_r rfl) rfl 10 (by decide) (ht _ kw4_120) (fun _ h9 => h9) rfl hnm rfl (by decide +kernel) (by first | rfl | decide) (by first | rfl | decide) (Nat.le_of_ble_eq_true rfl) dX12_init_35 (fun H locs hP hD hS => ?_)
  rw [app_setr] at hP hD
  have hP : va_P D vwCl (w0 ++ [(x9, .inr (9, [.ref q8, .int 0, .ref q17, .int 0, .ref q26, .int 0, .int 0, .long 0, .long 0, .int 0, .ref q33, .int 0, .null, .null, .null, .null, .null, .null, .int 0, .null, .null, .null, .null, .null, .int 0, .int 0, .null, .int 0])), (q8, .inl (cy 0, 1600, .inl (fun _ => 0))), (q17, .inl (cy 0, 1640, .inl (fun _ => 0))), (q26, .inl (cy 0, 1600, .inl (fun _ => 0))), (q33, .inl (cy 1, 4, .inl (fun _ => 0)))]) H := hP
  have hD : va_D A (w0 ++ [(x9, .inr (9, [.ref q8, .int 0, .ref q17, .int 0, .ref q26, .int 0, .int 0, .long 0, .long 0, .int 0, .ref q33, .int 0, .null, .null, .null, .null, .null, .null, .int 0, .null, .null, .null, .null, .null, .int 0, .int 0, .null, .int 0])), (q8, .inl (cy 0, 1600, .inl (fun _ => 0))), (q17, .inl (cy 0, 1640, .inl (fun _ => 0))), (q26, .inl (cy 0, 1600, .inl (fun _ => 0))), (q33, .inl (cy 1, 4, .inl (fun _ => 0)))]) := hD
  refine lv_aload_n hx hb dX12_init_38 rfl (lv_at hl 0 rfl) ?_
  refine nv_bipush (k := 64) hx hb dX12_init_39 (by decide) ?_
  refine va_newa (atype := .int) (a0 := (64, .inl (fun _ => 0))) hx hb (ht _ kw1_80) (ty := .int) rfl hK hP hD hS hA (fun _ => rfl) (nI_pos (n := 64) (by omega)) (nI_clamp (n := 64) (by omega)) (by show 64 * 4 ≤ _; omega) (by show _ ≤ 16; omega) (by show _ ≤ 6000; omega) dX12_init_41 (fun q41 cA H hK2 hP hD hS => ?_)
  have ecA := a_cls 1 hK hK2 rfl (fun C h9 => by cases h9)
  subst ecA
  rw [List.append_assoc] at hP hD
  have hP : va_P D vwCl (w0 ++ [(x9, .inr (9, [.ref q8, .int 0, .ref q17, .int 0, .ref q26, .int 0, .int 0, .long 0, .long 0, .int 0, .ref q33, .int 0, .null, .null, .null, .null, .null, .null, .int 0, .null, .null, .null, .null, .null, .int 0, .int 0, .null, .int 0])), (q8, .inl (cy 0, 1600, .inl (fun _ => 0))), (q17, .inl (cy 0, 1640, .inl (fun _ => 0))), (q26, .inl (cy 0, 1600, .inl (fun _ => 0))), (q33, .inl (cy 1, 4, .inl (fun _ => 0))), (q41, .inl (cy 1, 64, .inl (fun _ => 0)))]) H := hP
  have hD : va_D A (w0 ++ [(x9, .inr (9, [.ref q8, .int 0, .ref q17, .int 0, .ref q26, .int 0, .int 0, .long 0, .long 0, .int 0, .ref q33, .int 0, .null, .null, .null, .null, .null, .null, .int 0, .null, .null, .null, .null, .null, .int 0, .int 0, .null, .int 0])), (q8, .inl (cy 0, 1600, .inl (fun _ => 0))), (q17, .inl (cy 0, 1640, .inl (fun _ => 0))), (q26, .inl (cy 0, 1600, .inl (fun _ => 0))), (q33, .inl (cy 1, 4, .inl (fun _ => 0))), (q41, .inl (cy 1, 64, .inl (fun _ => 0)))]) := hD
  refine va_putF (ci := 9) (C := RX12) (T := TX12) (N := 28) (ty := tyX12 12) hx hb ht iFX12 tyX12 tyX12_ok nmX12 hown hK hP hD hS (w0.length + 0) (app_r rfl) rfl 12 (by decide) (ht _ kw4_122) (fun _ h9 => h9) rfl hnm rfl (by decide +kernel) (by first | rfl | decide) (by first | rfl | decide) (Nat.le_of_ble_eq_true rfl) dX12_init_43 (fun H locs hP hD hS => ?_)
  rw [app_setr] at hP hD
  have hP : va_P D vwCl (w0 ++ [(x9, .inr (9, [.ref q8, .int 0, .ref q17, .int 0, .ref q26, .int 0, .int 0, .long 0, .long 0, .int 0, .ref q33, .int 0, .ref q41, .null, .null, .null, .null, .null, .int 0, .null, .null, .null, .null, .null, .int 0, .int 0, .null, .int 0])), (q8, .inl (cy 0, 1600, .inl (fun _ => 0))), (q17, .inl (cy 0, 1640, .inl (fun _ => 0))), (q26, .inl (cy 0, 1600, .inl (fun _ => 0))), (q33, .inl (cy 1, 4, .inl (fun _ => 0))), (q41, .inl (cy 1, 64, .inl (fun _ => 0)))]) H := hP
  have hD : va_D A (w0 ++ [(x9, .inr (9, [.ref q8, .int 0, .ref q17, .int 0, .ref q26, .int 0, .int 0, .long 0, .long 0, .int 0, .ref q33, .int 0, .ref q41, .null, .null, .null, .null, .null, .int 0, .null, .null, .null, .null, .null, .int 0, .int 0, .null, .int 0])), (q8, .inl (cy 0, 1600, .inl (fun _ => 0))), (q17, .inl (cy 0, 1640, .inl (fun _ => 0))), (q26, .inl (cy 0, 1600, .inl (fun _ => 0))), (q33, .inl (cy 1, 4, .inl (fun _ => 0))), (q41, .inl (cy 1, 64, .inl (fun _ => 0)))]) := hD
  refine lv_aload_n hx hb dX12_init_46 rfl (lv_at hl 0 rfl) ?_
  refine nv_bipush (k := 64) hx hb dX12_init_47 (by decide) ?_
  refine va_newa (atype := .long) (a0 := (64, .inr (.inl (fun _ => 0)))) hx hb (ht _ kw4_195) (ty := .long) rfl hK hP hD hS hA (fun _ => rfl) (nI_pos (n := 64) (by omega)) (nI_clamp (n := 64) (by omega)) (by show 64 * 8 ≤ _; omega) (by show _ ≤ 16; omega) (by show _ ≤ 6000; omega) dX12_init_49 (fun q49 cA H hK2 hP hD hS => ?_)
  have ecA := a_cls 2 hK hK2 rfl (fun C h9 => by cases h9)
  subst ecA
  rw [List.append_assoc] at hP hD
  have hP : va_P D vwCl (w0 ++ [(x9, .inr (9, [.ref q8, .int 0, .ref q17, .int 0, .ref q26, .int 0, .int 0, .long 0, .long 0, .int 0, .ref q33, .int 0, .ref q41, .null, .null, .null, .null, .null, .int 0, .null, .null, .null, .null, .null, .int 0, .int 0, .null, .int 0])), (q8, .inl (cy 0, 1600, .inl (fun _ => 0))), (q17, .inl (cy 0, 1640, .inl (fun _ => 0))), (q26, .inl (cy 0, 1600, .inl (fun _ => 0))), (q33, .inl (cy 1, 4, .inl (fun _ => 0))), (q41, .inl (cy 1, 64, .inl (fun _ => 0))), (q49, .inl (cy 2, 64, .inr (.inl (fun _ => 0))))]) H := hP
  have hD : va_D A (w0 ++ [(x9, .inr (9, [.ref q8, .int 0, .ref q17, .int 0, .ref q26, .int 0, .int 0, .long 0, .long 0, .int 0, .ref q33, .int 0, .ref q41, .null, .null, .null, .null, .null, .int 0, .null, .null, .null, .null, .null, .int 0, .int 0, .null, .int 0])), (q8, .inl (cy 0, 1600, .inl (fun _ => 0))), (q17, .inl (cy 0, 1640, .inl (fun _ => 0))), (q26, .inl (cy 0, 1600, .inl (fun _ => 0))), (q33, .inl (cy 1, 4, .inl (fun _ => 0))), (q41, .inl (cy 1, 64, .inl (fun _ => 0))), (q49, .inl (cy 2, 64, .inr (.inl (fun _ => 0))))]) := hD
  refine va_putF (ci := 9) (C := RX12) (T := TX12) (N := 28) (ty := tyX12 13) hx hb ht iFX12 tyX12 tyX12_ok nmX12 hown hK hP hD hS (w0.length + 0) (app_r rfl) rfl 13 (by decide) (ht _ kw4_123) (fun _ h9 => h9) rfl hnm rfl (by decide +kernel) (by first | rfl | decide) (by first | rfl | decide) (Nat.le_of_ble_eq_true rfl) dX12_init_51 (fun H locs hP hD hS => ?_)
  rw [app_setr] at hP hD
  have hP : va_P D vwCl (w0 ++ [(x9, .inr (9, [.ref q8, .int 0, .ref q17, .int 0, .ref q26, .int 0, .int 0, .long 0, .long 0, .int 0, .ref q33, .int 0, .ref q41, .ref q49, .null, .null, .null, .null, .int 0, .null, .null, .null, .null, .null, .int 0, .int 0, .null, .int 0])), (q8, .inl (cy 0, 1600, .inl (fun _ => 0))), (q17, .inl (cy 0, 1640, .inl (fun _ => 0))), (q26, .inl (cy 0, 1600, .inl (fun _ => 0))), (q33, .inl (cy 1, 4, .inl (fun _ => 0))), (q41, .inl (cy 1, 64, .inl (fun _ => 0))), (q49, .inl (cy 2, 64, .inr (.inl (fun _ => 0))))]) H := hP
  have hD : va_D A (w0 ++ [(x9, .inr (9, [.ref q8, .int 0, .ref q17, .int 0, .ref q26, .int 0, .int 0, .long 0, .long 0, .int 0, .ref q33, .int 0, .ref q41, .ref q49, .null, .null, .null, .null, .int 0, .null, .null, .null, .null, .null, .int 0, .int 0, .null, .int 0])), (q8, .inl (cy 0, 1600, .inl (fun _ => 0))), (q17, .inl (cy 0, 1640, .inl (fun _ => 0))), (q26, .inl (cy 0, 1600, .inl (fun _ => 0))), (q33, .inl (cy 1, 4, .inl (fun _ => 0))), (q41, .inl (cy 1, 64, .inl (fun _ => 0))), (q49, .inl (cy 2, 64, .inr (.inl (fun _ => 0))))]) := hD
  refine lv_aload_n hx hb dX12_init_54 rfl (lv_at hl 0 rfl) ?_
  refine nv_bipush (k := 64) hx hb dX12_init_55 (by decide) ?_
  refine va_newa (atype := .long) (a0 := (64, .inr (.inl (fun _ => 0)))) hx hb (ht _ kw4_195) (ty := .long) rfl hK hP hD hS hA (fun _ => rfl) (nI_pos (n := 64) (by omega)) (nI_clamp (n := 64) (by omega)) (by show 64 * 8 ≤ _; omega) (by show _ ≤ 16; omega) (by show _ ≤ 6000; omega) dX12_init_57 (fun q57 cA H hK2 hP hD hS => ?_)
  have ecA := a_cls 2 hK hK2 rfl (fun C h9 => by cases h9)
  subst ecA
  rw [List.append_assoc] at hP hD
  have hP : va_P D vwCl (w0 ++ [(x9, .inr (9, [.ref q8, .int 0, .ref q17, .int 0, .ref q26, .int 0, .int 0, .long 0, .long 0, .int 0, .ref q33, .int 0, .ref q41, .ref q49, .null, .null, .null, .null, .int 0, .null, .null, .null, .null, .null, .int 0, .int 0, .null, .int 0])), (q8, .inl (cy 0, 1600, .inl (fun _ => 0))), (q17, .inl (cy 0, 1640, .inl (fun _ => 0))), (q26, .inl (cy 0, 1600, .inl (fun _ => 0))), (q33, .inl (cy 1, 4, .inl (fun _ => 0))), (q41, .inl (cy 1, 64, .inl (fun _ => 0))), (q49, .inl (cy 2, 64, .inr (.inl (fun _ => 0)))), (q57, .inl (cy 2, 64, .inr (.inl (fun _ => 0))))]) H := hP
  have hD : va_D A (w0 ++ [(x9, .inr (9, [.ref q8, .int 0, .ref q17, .int 0, .ref q26, .int 0, .int 0, .long 0, .long 0, .int 0, .ref q33, .int 0, .ref q41, .ref q49, .null, .null, .null, .null, .int 0, .null, .null, .null, .null, .null, .int 0, .int 0, .null, .int 0])), (q8, .inl (cy 0, 1600, .inl (fun _ => 0))), (q17, .inl (cy 0, 1640, .inl (fun _ => 0))), (q26, .inl (cy 0, 1600, .inl (fun _ => 0))), (q33, .inl (cy 1, 4, .inl (fun _ => 0))), (q41, .inl (cy 1, 64, .inl (fun _ => 0))), (q49, .inl (cy 2, 64, .inr (.inl (fun _ => 0)))), (q57, .inl (cy 2, 64, .inr (.inl (fun _ => 0))))]) := hD
  refine va_putF (ci := 9) (C := RX12) (T := TX12) (N := 28) (ty := tyX12 14) hx hb ht iFX12 tyX12 tyX12_ok nmX12 hown hK hP hD hS (w0.length + 0) (app_r rfl) rfl 14 (by decide) (ht _ kw4_124) (fun _ h9 => h9) rfl hnm rfl (by decide +kernel) (by first | rfl | decide) (by first | rfl | decide) (Nat.le_of_ble_eq_true rfl) dX12_init_59 (fun H locs hP hD hS => ?_)
  rw [app_setr] at hP hD
  have hP : va_P D vwCl (w0 ++ [(x9, .inr (9, [.ref q8, .int 0, .ref q17, .int 0, .ref q26, .int 0, .int 0, .long 0, .long 0, .int 0, .ref q33, .int 0, .ref q41, .ref q49, .ref q57, .null, .null, .null, .int 0, .null, .null, .null, .null, .null, .int 0, .int 0, .null, .int 0])), (q8, .inl (cy 0, 1600, .inl (fun _ => 0))), (q17, .inl (cy 0, 1640, .inl (fun _ => 0))), (q26, .inl (cy 0, 1600, .inl (fun _ => 0))), (q33, .inl (cy 1, 4, .inl (fun _ => 0))), (q41, .inl (cy 1, 64, .inl (fun _ => 0))), (q49, .inl (cy 2, 64, .inr (.inl (fun _ => 0)))), (q57, .inl (cy 2, 64, .inr (.inl (fun _ => 0))))]) H := hP
  have hD : va_D A (w0 ++ [(x9, .inr (9, [.ref q8, .int 0, .ref q17, .int 0, .ref q26, .int 0, .int 0, .long 0, .long 0, .int 0, .ref q33, .int 0, .ref q41, .ref q49, .ref q57, .null, .null, .null, .int 0, .null, .null, .null, .null, .null, .int 0, .int 0, .null, .int 0])), (q8, .inl (cy 0, 1600, .inl (fun _ => 0))), (q17, .inl (cy 0, 1640, .inl (fun _ => 0))), (q26, .inl (cy 0, 1600, .inl (fun _ => 0))), (q33, .inl (cy 1, 4, .inl (fun _ => 0))), (q41, .inl (cy 1, 64, .inl (fun _ => 0))), (q49, .inl (cy 2, 64, .inr (.inl (fun _ => 0)))), (q57, .inl (cy 2, 64, .inr (.inl (fun _ => 0))))]) := hD
  refine lv_aload_n hx hb dX12_init_62 rfl (lv_at hl 0 rfl) ?_
  refine nv_bipush (k := 64) hx hb dX12_init_63 (by decide) ?_
  refine va_newa (atype := .int) (a0 := (64, .inl (fun _ => 0))) hx hb (ht _ kw1_80) (ty := .int) rfl hK hP hD hS hA (fun _ => rfl) (nI_pos (n := 64) (by omega)) (nI_clamp (n := 64) (by omega)) (by show 64 * 4 ≤ _; omega) (by show _ ≤ 16; omega) (by show _ ≤ 6000; omega) dX12_init_65 (fun q65 cA H hK2 hP hD hS => ?_)
  have ecA := a_cls 1 hK hK2 rfl (fun C h9 => by cases h9)
  subst ecA
  rw [List.append_assoc] at hP hD
  have hP : va_P D vwCl (w0 ++ [(x9, .inr (9, [.ref q8, .int 0, .ref q17, .int 0, .ref q26, .int 0, .int 0, .long 0, .long 0, .int 0, .ref q33, .int 0, .ref q41, .ref q49, .ref q57, .null, .null, .null, .int 0, .null, .null, .null, .null, .null, .int 0, .int 0, .null, .int 0])), (q8, .inl (cy 0, 1600, .inl (fun _ => 0))), (q17, .inl (cy 0, 1640, .inl (fun _ => 0))), (q26, .inl (cy 0, 1600, .inl (fun _ => 0))), (q33, .inl (cy 1, 4, .inl (fun _ => 0))), (q41, .inl (cy 1, 64, .inl (fun _ => 0))), (q49, .inl (cy 2, 64, .inr (.inl (fun _ => 0)))), (q57, .inl (cy 2, 64, .inr (.inl (fun _ => 0)))), (q65, .inl (cy 1, 64, .inl (fun _ => 0)))]) H := hP
  have hD : va_D A (w0 ++ [(x9, .inr (9, [.ref q8, .int 0, .ref q17, .int 0, .ref q26, .int 0, .int 0, .long 0, .long 0, .int 0, .ref q33, .int 0, .ref q41, .ref q49, .ref q57, .null, .null, .null, .int 0, .null, .null, .null, .null, .null, .int 0, .int 0, .null, .int 0])), (q8, .inl (cy 0, 1600, .inl (fun _ => 0))), (q17, .inl (cy 0, 1640, .inl (fun _ => 0))), (q26, .inl (cy 0, 1600, .inl (fun _ => 0))), (q33, .inl (cy 1, 4, .inl (fun _ => 0))), (q41, .inl (cy 1, 64, .inl (fun _ => 0))), (q49, .inl (cy 2, 64, .inr (.inl (fun _ => 0)))), (q57, .inl (cy 2, 64, .inr (.inl (fun _ => 0)))), (q65, .inl (cy 1, 64, .inl (fun _ => 0)))]) := hD
  refine va_putF (ci := 9) (C := RX12) (T := TX12) (N := 28) (ty := tyX12 15) hx hb ht iFX12 tyX12 tyX12_ok nmX12 hown hK hP hD hS (w0.length + 0) (app_r rfl) rfl 15 (by decide) (ht _ kw4_125) (fun _ h9 => h9) rfl hnm rfl (by decide +kernel) (by first | rfl | decide) (by first | rfl | decide) (Nat.le_of_ble_eq_true rfl) dX12_init_67 (fun H locs hP hD hS => ?_)
  rw [app_setr] at hP hD
  have hP : va_P D vwCl (w0 ++ [(x9, .inr (9, [.ref q8, .int 0, .ref q17, .int 0, .ref q26, .int 0, .int 0, .long 0, .long 0, .int 0, .ref q33, .int 0, .ref q41, .ref q49, .ref q57, .ref q65, .null, .null, .int 0, .null, .null, .null, .null, .null, .int 0, .int 0, .null, .int 0])), (q8, .inl (cy 0, 1600, .inl (fun _ => 0))), (q17, .inl (cy 0, 1640, .inl (fun _ => 0))), (q26, .inl (cy 0, 1600, .inl (fun _ => 0))), (q33, .inl (cy 1, 4, .inl (fun _ => 0))), (q41, .inl (cy 1, 64, .inl (fun _ => 0))), (q49, .inl (cy 2, 64, .inr (.inl (fun _ => 0)))), (q57, .inl (cy 2, 64, .inr (.inl (fun _ => 0)))), (q65, .inl (cy 1, 64, .inl (fun _ => 0)))]) H := hP
  have hD : va_D A (w0 ++ [(x9, .inr (9, [.ref q8, .int 0, .ref q17, .int 0, .ref q26, .int 0, .int 0, .long 0, .long 0, .int 0, .ref q33, .int 0, .ref q41, .ref q49, .ref q57, .ref q65, .null, .null, .int 0, .null, .null, .null, .null, .null, .int 0, .int 0, .null, .int 0])), (q8, .inl (cy 0, 1600, .inl (fun _ => 0))), (q17, .inl (cy 0, 1640, .inl (fun _ => 0))), (q26, .inl (cy 0, 1600, .inl (fun _ => 0))), (q33, .inl (cy 1, 4, .inl (fun _ => 0))), (q41, .inl (cy 1, 64, .inl (fun _ => 0))), (q49, .inl (cy 2, 64, .inr (.inl (fun _ => 0)))), (q57, .inl (cy 2, 64, .inr (.inl (fun _ => 0)))), (q65, .inl (cy 1, 64, .inl (fun _ => 0)))]) := hD
  refine lv_aload_n hx hb dX12_init_70 rfl (lv_at hl 0 rfl) ?_
  refine nv_bipush (k := 64) hx hb dX12_init_71 (by decide) ?_
  refine va_newa (atype := .int) (a0 := (64, .inl (fun _ => 0))) hx hb (ht _ kw1_80) (ty := .int) rfl hK hP hD hS hA (fun _ => rfl) (nI_pos (n := 64) (by omega)) (nI_clamp (n := 64) (by omega)) (by show 64 * 4 ≤ _; omega) (by show _ ≤ 16; omega) (by show _ ≤ 6000; omega) dX12_init_73 (fun q73 cA H hK2 hP hD hS => ?_)
  have ecA := a_cls 1 hK hK2 rfl (fun C h9 => by cases h9)
  subst ecA
  rw [List.append_assoc] at hP hD
  have hP : va_P D vwCl (w0 ++ [(x9, .inr (9, [.ref q8, .int 0, .ref q17, .int 0, .ref q26, .int 0, .int 0, .long 0, .long 0, .int 0, .ref q33, .int 0, .ref q41, .ref q49, .ref q57, .ref q65, .null, .null, .int 0, .null, .null, .null, .null, .null, .int 0, .int 0, .null, .int 0])), (q8, .inl (cy 0, 1600, .inl (fun _ => 0))), (q17, .inl (cy 0, 1640, .inl (fun _ => 0))), (q26, .inl (cy 0, 1600, .inl (fun _ => 0))), (q33, .inl (cy 1, 4, .inl (fun _ => 0))), (q41, .inl (cy 1, 64, .inl (fun _ => 0))), (q49, .inl (cy 2, 64, .inr (.inl (fun _ => 0)))), (q57, .inl (cy 2, 64, .inr (.inl (fun _ => 0)))), (q65, .inl (cy 1, 64, .inl (fun _ => 0))), (q73, .inl (cy 1, 64, .inl (fun _ => 0)))]) H := hP
  have hD : va_D A (w0 ++ [(x9, .inr (9, [.ref q8, .int 0, .ref q17, .int 0, .ref q26, .int 0, .int 0, .long 0, .long 0, .int 0, .ref q33, .int 0, .ref q41, .ref q49, .ref q57, .ref q65, .null, .null, .int 0, .null, .null, .null, .null, .null, .int 0, .int 0, .null, .int 0])), (q8, .inl (cy 0, 1600, .inl (fun _ => 0))), (q17, .inl (cy 0, 1640, .inl (fun _ => 0))), (q26, .inl (cy 0, 1600, .inl (fun _ => 0))), (q33, .inl (cy 1, 4, .inl (fun _ => 0))), (q41, .inl (cy 1, 64, .inl (fun _ => 0))), (q49, .inl (cy 2, 64, .inr (.inl (fun _ => 0)))), (q57, .inl (cy 2, 64, .inr (.inl (fun _ => 0)))), (q65, .inl (cy 1, 64, .inl (fun _ => 0))), (q73, .inl (cy 1, 64, .inl (fun _ => 0)))]) := hD
  refine va_putF (ci := 9) (C := RX12) (T := TX12) (N := 28) (ty := tyX12 16) hx hb ht iFX12 tyX12 tyX12_ok nmX12 hown hK hP hD hS (w0.length + 0) (app_r rfl) rfl 16 (by decide) (ht _ kw4_126) (fun _ h9 => h9) rfl hnm rfl (by decide +kernel) (by first | rfl | decide) (by first | rfl | decide) (Nat.le_of_ble_eq_true rfl) dX12_init_75 (fun H locs hP hD hS => ?_)
  rw [app_setr] at hP hD
  have hP : va_P D vwCl (w0 ++ [(x9, .inr (9, [.ref q8, .int 0, .ref q17, .int 0, .ref q26, .int 0, .int 0, .long 0, .long 0, .int 0, .ref q33, .int 0, .ref q41, .ref q49, .ref q57, .ref q65, .ref q73, .null, .int 0, .null, .null, .null, .null, .null, .int 0, .int 0, .null, .int 0])), (q8, .inl (cy 0, 1600, .inl (fun _ => 0))), (q17, .inl (cy 0, 1640, .inl (fun _ => 0))), (q26, .inl (cy 0, 1600, .inl (fun _ => 0))), (q33, .inl (cy 1, 4, .inl (fun _ => 0))), (q41, .inl (cy 1, 64, .inl (fun _ => 0))), (q49, .inl (cy 2, 64, .inr (.inl (fun _ => 0)))), (q57, .inl (cy 2, 64, .inr (.inl (fun _ => 0)))), (q65, .inl (cy 1, 64, .inl (fun _ => 0))), (q73, .inl (cy 1, 64, .inl (fun _ => 0)))]) H := hP
  have hD : va_D A (w0 ++ [(x9, .inr (9, [.ref q8, .int 0, .ref q17, .int 0, .ref q26, .int 0, .int 0, .long 0, .long 0, .int 0, .ref q33, .int 0, .ref q41, .ref q49, .ref q57, .ref q65, .ref q73, .null, .int 0, .null, .null, .null, .null, .null, .int 0, .int 0, .null, .int 0])), (q8, .inl (cy 0, 1600, .inl (fun _ => 0))), (q17, .inl (cy 0, 1640, .inl (fun _ => 0))), (q26, .inl (cy 0, 1600, .inl (fun _ => 0))), (q33, .inl (cy 1, 4, .inl (fun _ => 0))), (q41, .inl (cy 1, 64, .inl (fun _ => 0))), (q49, .inl (cy 2, 64, .inr (.inl (fun _ => 0)))), (q57, .inl (cy 2, 64, .inr (.inl (fun _ => 0)))), (q65, .inl (cy 1, 64, .inl (fun _ => 0))), (q73, .inl (cy 1, 64, .inl (fun _ => 0)))]) := hD
  refine lv_aload_n hx hb dX12_init_78 rfl (lv_at hl 0 rfl) ?_
  refine nv_bipush (k := 64) hx hb dX12_init_79 (by decide) ?_
  refine va_newa (atype := .int) (a0 := (64, .inl (fun _ => 0))) hx hb (ht _ kw1_80) (ty := .int) rfl hK hP hD hS hA (fun _ => rfl) (nI_pos (n := 64) (by omega)) (nI_clamp (n := 64) (by omega)) (by show 64 * 4 ≤ _; omega) (by show _ ≤ 16; omega) (by show _ ≤ 6000; omega) dX12_init_81 (fun q81 cA H hK2 hP hD hS => ?_)
  have ecA := a_cls 1 hK hK2 rfl (fun C h9 => by cases h9)
  subst ecA
  rw [List.append_assoc] at hP hD
  have hP : va_P D vwCl (w0 ++ [(x9, .inr (9, [.ref q8, .int 0, .ref q17, .int 0, .ref q26, .int 0, .int 0, .long 0, .long 0, .int 0, .ref q33, .int 0, .ref q41, .ref q49, .ref q57, .ref q65, .ref q73, .null, .int 0, .null, .null, .null, .null, .null, .int 0, .int 0, .null, .int 0])), (q8, .inl (cy 0, 1600, .inl (fun _ => 0))), (q17, .inl (cy 0, 1640, .inl (fun _ => 0))), (q26, .inl (cy 0, 1600, .inl (fun _ => 0))), (q33, .inl (cy 1, 4, .inl (fun _ => 0))), (q41, .inl (cy 1, 64, .inl (fun _ => 0))), (q49, .inl (cy 2, 64, .inr (.inl (fun _ => 0)))), (q57, .inl (cy 2, 64, .inr (.inl (fun _ => 0)))), (q65, .inl (cy 1, 64, .inl (fun _ => 0))), (q73, .inl (cy 1, 64, .inl (fun _ => 0))), (q81, .inl (cy 1, 64, .inl (fun _ => 0)))]) H := hP
  have hD : va_D A (w0 ++ [(x9, .inr (9, [.ref q8, .int 0, .ref q17, .int 0, .ref q26, .int 0, .int 0, .long 0, .long 0, .int 0, .ref q33, .int 0, .ref q41, .ref q49, .ref q57, .ref q65, .ref q73, .null, .int 0, .null, .null, .null, .null, .null, .int 0, .int 0, .null, .int 0])), (q8, .inl (cy 0, 1600, .inl (fun _ => 0))), (q17, .inl (cy 0, 1640, .inl (fun _ => 0))), (q26, .inl (cy 0, 1600, .inl (fun _ => 0))), (q33, .inl (cy 1, 4, .inl (fun _ => 0))), (q41, .inl (cy 1, 64, .inl (fun _ => 0))), (q49, .inl (cy 2, 64, .inr (.inl (fun _ => 0)))), (q57, .inl (cy 2, 64, .inr (.inl (fun _ => 0)))), (q65, .inl (cy 1, 64, .inl (fun _ => 0))), (q73, .inl (cy 1, 64, .inl (fun _ => 0))), (q81, .inl (cy 1, 64, .inl (fun _ => 0)))]) := hD
  refine va_putF (ci := 9) (C := RX12) (T := TX12) (N := 28) (ty := tyX12 17) hx hb ht iFX12 tyX12 tyX12_ok nmX12 hown hK hP hD hS (w0.length + 0) (app_r rfl) rfl 17 (by decide) (ht _ kw4_127) (fun _ h9 => h9) rfl hnm rfl (by decide +kernel) (by first | rfl | decide) (by first | rfl | decide) (Nat.le_of_ble_eq_true rfl) dX12_init_83 (fun H locs hP hD hS => ?_)
  rw [app_setr] at hP hD
  have hP : va_P D vwCl (w0 ++ [(x9, .inr (9, [.ref q8, .int 0, .ref q17, .int 0, .ref q26, .int 0, .int 0, .long 0, .long 0, .int 0, .ref q33, .int 0, .ref q41, .ref q49, .ref q57, .ref q65, .ref q73, .ref q81, .int 0, .null, .null, .null, .null, .null, .int 0, .int 0, .null, .int 0])), (q8, .inl (cy 0, 1600, .inl (fun _ => 0))), (q17, .inl (cy 0, 1640, .inl (fun _ => 0))), (q26, .inl (cy 0, 1600, .inl (fun _ => 0))), (q33, .inl (cy 1, 4, .inl (fun _ => 0))), (q41, .inl (cy 1, 64, .inl (fun _ => 0))), (q49, .inl (cy 2, 64, .inr (.inl (fun _ => 0)))), (q57, .inl (cy 2, 64, .inr (.inl (fun _ => 0)))), (q65, .inl (cy 1, 64, .inl (fun _ => 0))), (q73, .inl (cy 1, 64, .inl (fun _ => 0))), (q81, .inl (cy 1, 64, .inl (fun _ => 0)))]) H := hP
  have hD : va_D A (w0 ++ [(x9, .inr (9, [.ref q8, .int 0, .ref q17, .int 0, .ref q26, .int 0, .int 0, .long 0, .long 0, .int 0, .ref q33, .int 0, .ref q41, .ref q49, .ref q57, .ref q65, .ref q73, .ref q81, .int 0, .null, .null, .null, .null, .null, .int 0, .int 0, .null, .int 0])), (q8, .inl (cy 0, 1600, .inl (fun _ => 0))), (q17, .inl (cy 0, 1640, .inl (fun _ => 0))), (q26, .inl (cy 0, 1600, .inl (fun _ => 0))), (q33, .inl (cy 1, 4, .inl (fun _ => 0))), (q41, .inl (cy 1, 64, .inl (fun _ => 0))), (q49, .inl (cy 2, 64, .inr (.inl (fun _ => 0)))), (q57, .inl (cy 2, 64, .inr (.inl (fun _ => 0)))), (q65, .inl (cy 1, 64, .inl (fun _ => 0))), (q73, .inl (cy 1, 64, .inl (fun _ => 0))), (q81, .inl (cy 1, 64, .inl (fun _ => 0)))]) := hD
  refine lv_aload_n hx hb dX12_init_86 rfl (lv_at hl 0 rfl) ?_
  refine nv_sipush (k := 128) hx hb dX12_init_87 (by decide) ?_
  refine va_newa (atype := .int) (a0 := (128, .inl (fun _ => 0))) hx hb (ht _ kw1_80) (ty := .int) rfl hK hP hD hS hA (fun _ => rfl) (nI_pos (n := 128) (by omega)) (nI_clamp (n := 128) (by omega)) (by show 128 * 4 ≤ _; omega) (by show _ ≤ 16; omega) (by show _ ≤ 6000; omega) dX12_init_90 (fun q90 cA H hK2 hP hD hS => ?_)
  have ecA := a_cls 1 hK hK2 rfl (fun C h9 => by cases h9)
  subst ecA
  rw [List.append_assoc] at hP hD
  have hP : va_P D vwCl (w0 ++ [(x9, .inr (9, [.ref q8, .int 0, .ref q17, .int 0, .ref q26, .int 0, .int 0, .long 0, .long 0, .int 0, .ref q33, .int 0, .ref q41, .ref q49, .ref q57, .ref q65, .ref q73, .ref q81, .int 0, .null, .null, .null, .null, .null, .int 0, .int 0, .null, .int 0])), (q8, .inl (cy 0, 1600, .inl (fun _ => 0))), (q17, .inl (cy 0, 1640, .inl (fun _ => 0))), (q26, .inl (cy 0, 1600, .inl (fun _ => 0))), (q33, .inl (cy 1, 4, .inl (fun _ => 0))), (q41, .inl (cy 1, 64, .inl (fun _ => 0))), (q49, .inl (cy 2, 64, .inr (.inl (fun _ => 0)))), (q57, .inl (cy 2, 64, .inr (.inl (fun _ => 0)))), (q65, .inl (cy 1, 64, .inl (fun _ => 0))), (q73, .inl (cy 1, 64, .inl (fun _ => 0))), (q81, .inl (cy 1, 64, .inl (fun _ => 0))), (q90, .inl (cy 1, 128, .inl (fun _ => 0)))]) H := hP
  have hD : va_D A (w0 ++ [(x9, .inr (9, [.ref q8, .int 0, .ref q17, .int 0, .ref q26, .int 0, .int 0, .long 0, .long 0, .int 0, .ref q33, .int 0, .ref q41, .ref q49, .ref q57, .ref q65, .ref q73, .ref q81, .int 0, .null, .null, .null, .null, .null, .int 0, .int 0, .null, .int 0])), (q8, .inl (cy 0, 1600, .inl (fun _ => 0))), (q17, .inl (cy 0, 1640, .inl (fun _ => 0))), (q26, .inl (cy 0, 1600, .inl (fun _ => 0))), (q33, .inl (cy 1, 4, .inl (fun _ => 0))), (q41, .inl (cy 1, 64, .inl (fun _ => 0))), (q49, .inl (cy 2, 64, .inr (.inl (fun _ => 0)))), (q57, .inl (cy 2, 64, .inr (.inl (fun _ => 0)))), (q65, .inl (cy 1, 64, .inl (fun _ => 0))), (q73, .inl (cy 1, 64, .inl (fun _ => 0))), (q81, .inl (cy 1, 64, .inl (fun _ => 0))), (q90, .inl (cy 1, 128, .inl (fun _ => 0)))]) := hD
  refine va_putF (ci := 9) (C := RX12) (T := TX12) (N := 28) (ty := tyX12 19) hx hb ht iFX12 tyX12 tyX12_ok nmX12 hown hK hP hD hS (w0.length + 0) (app_r rfl) rfl 19 (by decide) (ht _ kw4_129) (fun _ h9 => h9) rfl hnm rfl (by decide +kernel) (by first | rfl | decide) (by first | rfl | decide) (Nat.le_of_ble_eq_true rfl) dX12_init_92 (fun H locs hP hD hS => ?_)
  rw [app_setr] at hP hD
  have hP : va_P D vwCl (w0 ++ [(x9, .inr (9, [.ref q8, .int 0, .ref q17, .int 0, .ref q26, .int 0, .int 0, .long 0, .long 0, .int 0, .ref q33, .int 0, .ref q41, .ref q49, .ref q57, .ref q65, .ref q73, .ref q81, .int 0, .ref q90, .null, .null, .null, .null, .int 0, .int 0, .null, .int 0])), (q8, .inl (cy 0, 1600, .inl (fun _ => 0))), (q17, .inl (cy 0, 1640, .inl (fun _ => 0))), (q26, .inl (cy 0, 1600, .inl (fun _ => 0))), (q33, .inl (cy 1, 4, .inl (fun _ => 0))), (q41, .inl (cy 1, 64, .inl (fun _ => 0))), (q49, .inl (cy 2, 64, .inr (.inl (fun _ => 0)))), (q57, .inl (cy 2, 64, .inr (.inl (fun _ => 0)))), (q65, .inl (cy 1, 64, .inl (fun _ => 0))), (q73, .inl (cy 1, 64, .inl (fun _ => 0))), (q81, .inl (cy 1, 64, .inl (fun _ => 0))), (q90, .inl (cy 1, 128, .inl (fun _ => 0)))]) H := hP
  have hD : va_D A (w0 ++ [(x9, .inr (9, [.ref q8, .int 0, .ref q17, .int 0, .ref q26, .int 0, .int 0, .long 0, .long 0, .int 0, .ref q33, .int 0, .ref q41, .ref q49, .ref q57, .ref q65, .ref q73, .ref q81, .int 0, .ref q90, .null, .null, .null, .null, .int 0, .int 0, .null, .int 0])), (q8, .inl (cy 0, 1600, .inl (fun _ => 0))), (q17, .inl (cy 0, 1640, .inl (fun _ => 0))), (q26, .inl (cy 0, 1600, .inl (fun _ => 0))), (q33, .inl (cy 1, 4, .inl (fun _ => 0))), (q41, .inl (cy 1, 64, .inl (fun _ => 0))), (q49, .inl (cy 2, 64, .inr (.inl (fun _ => 0)))), (q57, .inl (cy 2, 64, .inr (.inl (fun _ => 0)))), (q65, .inl (cy 1, 64, .inl (fun _ => 0))), (q73, .inl (cy 1, 64, .inl (fun _ => 0))), (q81, .inl (cy 1, 64, .inl (fun _ => 0))), (q90, .inl (cy 1, 128, .inl (fun _ => 0)))]) := hD
  refine lv_aload_n hx hb dX12_init_95 rfl (lv_at hl 0 rfl) ?_
  refine nv_sipush (k := 128) hx hb dX12_init_96 (by decide) ?_
  refine va_newa (atype := .int) (a0 := (128, .inl (fun _ => 0))) hx hb (ht _ kw1_80) (ty := .int) rfl hK hP hD hS hA (fun _ => rfl) (nI_pos (n := 128) (by omega)) (nI_clamp (n := 128) (by omega)) (by show 128 * 4 ≤ _; omega) (by show _ ≤ 16; omega) (by show _ ≤ 6000; omega) dX12_init_99 (fun q99 cA H hK2 hP hD hS => ?_)
  have ecA := a_cls 1 hK hK2 rfl (fun C h9 => by cases h9)
  subst ecA
  rw [List.append_assoc] at hP hD
  have hP : va_P D vwCl (w0 ++ [(x9, .inr (9, [.ref q8, .int 0, .ref q17, .int 0, .ref q26, .int 0, .int 0, .long 0, .long 0, .int 0, .ref q33, .int 0, .ref q41, .ref q49, .ref q57, .ref q65, .ref q73, .ref q81, .int 0, .ref q90, .null, .null, .null, .null, .int 0, .int 0, .null, .int 0])), (q8, .inl (cy 0, 1600, .inl (fun _ => 0))), (q17, .inl (cy 0, 1640, .inl (fun _ => 0))), (q26, .inl (cy 0, 1600, .inl (fun _ => 0))), (q33, .inl (cy 1, 4, .inl (fun _ => 0))), (q41, .inl (cy 1, 64, .inl (fun _ => 0))), (q49, .inl (cy 2, 64, .inr (.inl (fun _ => 0)))), (q57, .inl (cy 2, 64, .inr (.inl (fun _ => 0)))), (q65, .inl (cy 1, 64, .inl (fun _ => 0))), (q73, .inl (cy 1, 64, .inl (fun _ => 0))), (q81, .inl (cy 1, 64, .inl (fun _ => 0))), (q90, .inl (cy 1, 128, .inl (fun _ => 0))), (q99, .inl (cy 1, 128, .inl (fun _ => 0)))]) H := hP
  have hD : va_D A (w0 ++ [(x9, .inr (9, [.ref q8, .int 0, .ref q17, .int 0, .ref q26, .int 0, .int 0, .long 0, .long 0, .int 0, .ref q33, .int 0, .ref q41, .ref q49, .ref q57, .ref q65, .ref q73, .ref q81, .int 0, .ref q90, .null, .null, .null, .null, .int 0, .int 0, .null, .int 0])), (q8, .inl (cy 0, 1600, .inl (fun _ => 0))), (q17, .inl (cy 0, 1640, .inl (fun _ => 0))), (q26, .inl (cy 0, 1600, .inl (fun _ => 0))), (q33, .inl (cy 1, 4, .inl (fun _ => 0))), (q41, .inl (cy 1, 64, .inl (fun _ => 0))), (q49, .inl (cy 2, 64, .inr (.inl (fun _ => 0)))), (q57, .inl (cy 2, 64, .inr (.inl (fun _ => 0)))), (q65, .inl (cy 1, 64, .inl (fun _ => 0))), (q73, .inl (cy 1, 64, .inl (fun _ => 0))), (q81, .inl (cy 1, 64, .inl (fun _ => 0))), (q90, .inl (cy 1, 128, .inl (fun _ => 0))), (q99, .inl (cy 1, 128, .inl (fun _ => 0)))]) := hD
  refine va_putF (ci := 9) (C := RX12) (T := TX12) (N := 28) (ty := tyX12 20) hx hb ht iFX12 tyX12 tyX12_ok nmX12 hown hK hP hD hS (w0.length + 0) (app_r rfl) rfl 20 (by decide) (ht _ kw4_130) (fun _ h9 => h9) rfl hnm rfl (by decide +kernel) (by first | rfl | decide) (by first | rfl | decide) (Nat.le_of_ble_eq_true rfl) dX12_init_101 (fun H locs hP hD hS => ?_)
  rw [app_setr] at hP hD
  have hP : va_P D vwCl (w0 ++ [(x9, .inr (9, [.ref q8, .int 0, .ref q17, .int 0, .ref q26, .int 0, .int 0, .long 0, .long 0, .int 0, .ref q33, .int 0, .ref q41, .ref q49, .ref q57, .ref q65, .ref q73, .ref q81, .int 0, .ref q90, .ref q99, .null, .null, .null, .int 0, .int 0, .null, .int 0])), (q8, .inl (cy 0, 1600, .inl (fun _ => 0))), (q17, .inl (cy 0, 1640, .inl (fun _ => 0))), (q26, .inl (cy 0, 1600, .inl (fun _ => 0))), (q33, .inl (cy 1, 4, .inl (fun _ => 0))), (q41, .inl (cy 1, 64, .inl (fun _ => 0))), (q49, .inl (cy 2, 64, .inr (.inl (fun _ => 0)))), (q57, .inl (cy 2, 64, .inr (.inl (fun _ => 0)))), (q65, .inl (cy 1, 64, .inl (fun _ => 0))), (q73, .inl (cy 1, 64, .inl (fun _ => 0))), (q81, .inl (cy 1, 64, .inl (fun _ => 0))), (q90, .inl (cy 1, 128, .inl (fun _ => 0))), (q99, .inl (cy 1, 128, .inl (fun _ => 0)))]) H := hP
  have hD : va_D A (w0 ++ [(x9, .inr (9, [.ref q8, .int 0, .ref q17, .int 0, .ref q26, .int 0, .int 0, .long 0, .long 0, .int 0, .ref q33, .int 0, .ref q41, .ref q49, .ref q57, .ref q65, .ref q73, .ref q81, .int 0, .ref q90, .ref q99, .null, .null, .null, .int 0, .int 0, .null, .int 0])), (q8, .inl (cy 0, 1600, .inl (fun _ => 0))), (q17, .inl (cy 0, 1640, .inl (fun _ => 0))), (q26, .inl (cy 0, 1600, .inl (fun _ => 0))), (q33, .inl (cy 1, 4, .inl (fun _ => 0))), (q41, .inl (cy 1, 64, .inl (fun _ => 0))), (q49, .inl (cy 2, 64, .inr (.inl (fun _ => 0)))), (q57, .inl (cy 2, 64, .inr (.inl (fun _ => 0)))), (q65, .inl (cy 1, 64, .inl (fun _ => 0))), (q73, .inl (cy 1, 64, .inl (fun _ => 0))), (q81, .inl (cy 1, 64, .inl (fun _ => 0))), (q90, .inl (cy 1, 128, .inl (fun _ => 0))), (q99, .inl (cy 1, 128, .inl (fun _ => 0)))]) := hD
  refine lv_aload_n hx hb dX12_init_104 rfl (lv_at hl 0 rfl) ?_
  refine nv_sipush (k := 128) hx hb dX12_init_105 (by decide) ?_
  refine va_newa (atype := .int) (a0 := (128, .inl (fun _ => 0))) hx hb (ht _ kw1_80) (ty := .int) rfl hK hP hD hS hA (fun _ => rfl) (nI_pos (n := 128) (by omega)) (nI_clamp (n := 128) (by omega)) (by show 128 * 4 ≤ _; omega) (by show _ ≤ 16; omega) (by show _ ≤ 6000; omega) dX12_init_108 (fun q108 cA H hK2 hP hD hS => ?_)
  have ecA := a_cls 1 hK hK2 rfl (fun C h9 => by cases h9)
  subst ecA
  rw [List.append_assoc] at hP hD
  have hP : va_P D vwCl (w0 ++ [(x9, .inr (9, [.ref q8, .int 0, .ref q17, .int 0, .ref q26, .int 0, .int 0, .long 0, .long 0, .int 0, .ref q33, .int 0, .ref q41, .ref q49, .ref q57, .ref q65, .ref q73, .ref q81, .int 0, .ref q90, .ref q99, .null, .null, .null, .int 0, .int 0, .null, .int 0])), (q8, .inl (cy 0, 1600, .inl (fun _ => 0))), (q17, .inl (cy 0, 1640, .inl (fun _ => 0))), (q26, .inl (cy 0, 1600, .inl (fun _ => 0))), (q33, .inl (cy 1, 4, .inl (fun _ => 0))), (q41, .inl (cy 1, 64, .inl (fun _ => 0))), (q49, .inl (cy 2, 64, .inr (.inl (fun _ => 0)))), (q57, .inl (cy 2, 64, .inr (.inl (fun _ => 0)))), (q65, .inl (cy 1, 64, .inl (fun _ => 0))), (q73, .inl (cy 1, 64, .inl (fun _ => 0))), (q81, .inl (cy 1, 64, .inl (fun _ => 0))), (q90, .inl (cy 1, 128, .inl (fun _ => 0))), (q99, .inl (cy 1, 128, .inl (fun _ => 0))), (q108, .inl (cy 1, 128, .inl (fun _ => 0)))]) H := hP
  have hD : va_D A (w0 ++ [(x9, .inr (9, [.ref q8, .int 0, .ref q17, .int 0, .ref q26, .int 0, .int 0, .long 0, .long 0, .int 0, .ref q33, .int 0, .ref q41, .ref q49, .ref q57, .ref q65, .ref q73, .ref q81, .int 0, .ref q90, .ref q99, .null, .null, .null, .int 0, .int 0, .null, .int 0])), (q8, .inl (cy 0, 1600, .inl (fun _ => 0))), (q17, .inl (cy 0, 1640, .inl (fun _ => 0))), (q26, .inl (cy 0, 1600, .inl (fun _ => 0))), (q33, .inl (cy 1, 4, .inl (fun _ => 0))), (q41, .inl (cy 1, 64, .inl (fun _ => 0))), (q49, .inl (cy 2, 64, .inr (.inl (fun _ => 0)))), (q57, .inl (cy 2, 64, .inr (.inl (fun _ => 0)))), (q65, .inl (cy 1, 64, .inl (fun _ => 0))), (q73, .inl (cy 1, 64, .inl (fun _ => 0))), (q81, .inl (cy 1, 64, .inl (fun _ => 0))), (q90, .inl (cy 1, 128, .inl (fun _ => 0))), (q99, .inl (cy 1, 128, .inl (fun _ => 0))), (q108, .inl (cy 1, 128, .inl (fun _ => 0)))]) := hD
  refine va_putF (ci := 9) (C := RX12) (T := TX12) (N := 28) (ty := tyX12 21) hx hb ht iFX12 tyX12 tyX12_ok nmX12 hown hK hP hD hS (w0.length + 0) (app_r rfl) rfl 21 (by decide) (ht _ kw4_131) (fun _ h9 => h9) rfl hnm rfl (by decide +kernel) (by first | rfl | decide) (by first | rfl | decide) (Nat.le_of_ble_eq_true rfl) dX12_init_110 (fun H locs hP hD hS => ?_)
  rw [app_setr] at hP hD
  have hP : va_P D vwCl (w0 ++ [(x9, .inr (9, [.ref q8, .int 0, .ref q17, .int 0, .ref q26, .int 0, .int 0, .long 0, .long 0, .int 0, .ref q33, .int 0, .ref q41, .ref q49, .ref q57, .ref q65, .ref q73, .ref q81, .int 0, .ref q90, .ref q99, .ref q108, .null, .null, .int 0, .int 0, .null, .int 0])), (q8, .inl (cy 0, 1600, .inl (fun _ => 0))), (q17, .inl (cy 0, 1640, .inl (fun _ => 0))), (q26, .inl (cy 0, 1600, .inl (fun _ => 0))), (q33, .inl (cy 1, 4, .inl (fun _ => 0))), (q41, .inl (cy 1, 64, .inl (fun _ => 0))), (q49, .inl (cy 2, 64, .inr (.inl (fun _ => 0)))), (q57, .inl (cy 2, 64, .inr (.inl (fun _ => 0)))), (q65, .inl (cy 1, 64, .inl (fun _ => 0))), (q73, .inl (cy 1, 64, .inl (fun _ => 0))), (q81, .inl (cy 1, 64, .inl (fun _ => 0))), (q90, .inl (cy 1, 128, .inl (fun _ => 0))), (q99, .inl (cy 1, 128, .inl (fun _ => 0))), (q108, .inl (cy 1, 128, .inl (fun _ => 0)))]) H := hP
  have hD : va_D A (w0 ++ [(x9, .inr (9, [.ref q8, .int 0, .ref q17, .int 0, .ref q26, .int 0, .int 0, .long 0, .long 0, .int 0, .ref q33, .int 0, .ref q41, .ref q49, .ref q57, .ref q65, .ref q73, .ref q81, .int 0, .ref q90, .ref q99, .ref q108, .null, .null, .int 0, .int 0, .null, .int 0])), (q8, .inl (cy 0, 1600, .inl (fun _ => 0))), (q17, .inl (cy 0, 1640, .inl (fun _ => 0))), (q26, .inl (cy 0, 1600, .inl (fun _ => 0))), (q33, .inl (cy 1, 4, .inl (fun _ => 0))), (q41, .inl (cy 1, 64, .inl (fun _ => 0))), (q49, .inl (cy 2, 64, .inr (.inl (fun _ => 0)))), (q57, .inl (cy 2, 64, .inr (.inl (fun _ => 0)))), (q65, .inl (cy 1, 64, .inl (fun _ => 0))), (q73, .inl (cy 1, 64, .inl (fun _ => 0))), (q81, .inl (cy 1, 64, .inl (fun _ => 0))), (q90, .inl (cy 1, 128, .inl (fun _ => 0))), (q99, .inl (cy 1, 128, .inl (fun _ => 0))), (q108, .inl (cy 1, 128, .inl (fun _ => 0)))]) := hD
  refine lv_aload_n hx hb dX12_init_113 rfl (lv_at hl 0 rfl) ?_
  refine nv_sipush (k := 128) hx hb dX12_init_114 (by decide) ?_
  refine va_newa (atype := .int) (a0 := (128, .inl (fun _ => 0))) hx hb (ht _ kw1_80) (ty := .int) rfl hK hP hD hS hA (fun _ => rfl) (nI_pos (n := 128) (by omega)) (nI_clamp (n := 128) (by omega)) (by show 128 * 4 ≤ _; omega) (by show _ ≤ 16; omega) (by show _ ≤ 6000; omega) dX12_init_117 (fun q117 cA H hK2 hP hD hS => ?_)
  have ecA := a_cls 1 hK hK2 rfl (fun C h9 => by cases h9)
  subst ecA
  rw [List.append_assoc] at hP hD
  have hP : va_P D vwCl (w0 ++ [(x9, .inr (9, [.ref q8, .int 0, .ref q17, .int 0, .ref q26, .int 0, .int 0, .long 0, .long 0, .int 0, .ref q33, .int 0, .ref q41, .ref q49, .ref q57, .ref q65, .ref q73, .ref q81, .int 0, .ref q90, .ref q99, .ref q108, .null, .null, .int 0, .int 0, .null, .int 0])), (q8, .inl (cy 0, 1600, .inl (fun _ => 0))), (q17, .inl (cy 0, 1640, .inl (fun _ => 0))), (q26, .inl (cy 0, 1600, .inl (fun _ => 0))), (q33, .inl (cy 1, 4, .inl (fun _ => 0))), (q41, .inl (cy 1, 64, .inl (fun _ => 0))), (q49, .inl (cy 2, 64, .inr (.inl (fun _ => 0)))), (q57, .inl (cy 2, 64, .inr (.inl (fun _ => 0)))), (q65, .inl (cy 1, 64, .inl (fun _ => 0))), (q73, .inl (cy 1, 64, .inl (fun _ => 0))), (q81, .inl (cy 1, 64, .inl (fun _ => 0))), (q90, .inl (cy 1, 128, .inl (fun _ => 0))), (q99, .inl (cy 1, 128, .inl (fun _ => 0))), (q108, .inl (cy 1, 128, .inl (fun _ => 0))), (q117, .inl (cy 1, 128, .inl (fun _ => 0)))]) H := hP
  have hD : va_D A (w0 ++ [(x9, .inr (9, [.ref q8, .int 0, .ref q17, .int 0, .ref q26, .int 0, .int 0, .long 0, .long 0, .int 0, .ref q33, .int 0, .ref q41, .ref q49, .ref q57, .ref q65, .ref q73, .ref q81, .int 0, .ref q90, .ref q99, .ref q108, .null, .null, .int 0, .int 0, .null, .int 0])), (q8, .inl (cy 0, 1600, .inl (fun _ => 0))), (q17, .inl (cy 0, 1640, .inl (fun _ => 0))), (q26, .inl (cy 0, 1600, .inl (fun _ => 0))), (q33, .inl (cy 1, 4, .inl (fun _ => 0))), (q41, .inl (cy 1, 64, .inl (fun _ => 0))), (q49, .inl (cy 2, 64, .inr (.inl (fun _ => 0)))), (q57, .inl (cy 2, 64, .inr (.inl (fun _ => 0)))), (q65, .inl (cy 1, 64, .inl (fun _ => 0))), (q73, .inl (cy 1, 64, .inl (fun _ => 0))), (q81, .inl (cy 1, 64, .inl (fun _ => 0))), (q90, .inl (cy 1, 128, .inl (fun _ => 0))), (q99, .inl (cy 1, 128, .inl (fun _ => 0))), (q108, .inl (cy 1, 128, .inl (fun _ => 0))), (q117, .inl (cy 1, 128, .inl (fun _ => 0)))]) := hD
  refine va_putF (ci := 9) (C := RX12) (T := TX12) (N := 28) (ty := tyX12 22) hx hb ht iFX12 tyX12 tyX12_ok nmX12 hown hK hP hD hS (w0.length + 0) (app_r rfl) rfl 22 (by decide) (ht _ kw4_132) (fun _ h9 => h9) rfl hnm rfl (by decide +kernel) (by first | rfl | decide) (by first | rfl | decide) (Nat.le_of_ble_eq_true rfl) dX12_init_119 (fun H locs hP hD hS => ?_)
  rw [app_setr] at hP hD
  have hP : va_P D vwCl (w0 ++ [(x9, .inr (9, [.ref q8, .int 0, .ref q17, .int 0, .ref q26, .int 0, .int 0, .long 0, .long 0, .int 0, .ref q33, .int 0, .ref q41, .ref q49, .ref q57, .ref q65, .ref q73, .ref q81, .int 0, .ref q90, .ref q99, .ref q108, .ref q117, .null, .int 0, .int 0, .null, .int 0])), (q8, .inl (cy 0, 1600, .inl (fun _ => 0))), (q17, .inl (cy 0, 1640, .inl (fun _ => 0))), (q26, .inl (cy 0, 1600, .inl (fun _ => 0))), (q33, .inl (cy 1, 4, .inl (fun _ => 0))), (q41, .inl (cy 1, 64, .inl (fun _ => 0))), (q49, .inl (cy 2, 64, .inr (.inl (fun _ => 0)))), (q57, .inl (cy 2, 64, .inr (.inl (fun _ => 0)))), (q65, .inl (cy 1, 64, .inl (fun _ => 0))), (q73, .inl (cy 1, 64, .inl (fun _ => 0))), (q81, .inl (cy 1, 64, .inl (fun _ => 0))), (q90, .inl (cy 1, 128, .inl (fun _ => 0))), (q99, .inl (cy 1, 128, .inl (fun _ => 0))), (q108, .inl (cy 1, 128, .inl (fun _ => 0))), (q117, .inl (cy 1, 128, .inl (fun _ => 0)))]) H := hP
  have hD : va_D A (w0 ++ [(x9, .inr (9, [.ref q8, .int 0, .ref q17, .int 0, .ref q26, .int 0, .int 0, .long 0, .long 0, .int 0, .ref q33, .int 0, .ref q41, .ref q49, .ref q57, .ref q65, .ref q73, .ref q81, .int 0, .ref q90, .ref q99, .ref q108, .ref q117, .null, .int 0, .int 0, .null, .int 0])), (q8, .inl (cy 0, 1600, .inl (fun _ => 0))), (q17, .inl (cy 0, 1640, .inl (fun _ => 0))), (q26, .inl (cy 0, 1600, .inl (fun _ => 0))), (q33, .inl (cy 1, 4, .inl (fun _ => 0))), (q41, .inl (cy 1, 64, .inl (fun _ => 0))), (q49, .inl (cy 2, 64, .inr (.inl (fun _ => 0)))), (q57, .inl (cy 2, 64, .inr (.inl (fun _ => 0)))), (q65, .inl (cy 1, 64, .inl (fun _ => 0))), (q73, .inl (cy 1, 64, .inl (fun _ => 0))), (q81, .inl (cy 1, 64, .inl (fun _ => 0))), (q90, .inl (cy 1, 128, .inl (fun _ => 0))), (q99, .inl (cy 1, 128, .inl (fun _ => 0))), (q108, .inl (cy 1, 128, .inl (fun _ => 0))), (q117, .inl (cy 1, 128, .inl (fun _ => 0)))]) := hD
  refine lv_aload_n hx hb dX12_init_122 rfl (lv_at hl 0 rfl) ?_
  refine nv_sipush (k := 128) hx hb dX12_init_123 (by decide) ?_
  refine va_newa (atype := .int) (a0 := (128, .inl (fun _ => 0))) hx hb (ht _ kw1_80) (ty := .int) rfl hK hP hD hS hA (fun _ => rfl) (nI_pos (n := 128) (by omega)) (nI_clamp (n := 128) (by omega)) (by show 128 * 4 ≤ _; omega) (by show _ ≤ 16; omega) (by show _ ≤ 6000; omega) dX12_init_126 (fun q126 cA H hK2 hP hD hS => ?_)
  have ecA := a_cls 1 hK hK2 rfl (fun C h9 => by cases h9)
  subst ecA
  rw [List.append_assoc] at hP hD
  have hP : va_P D vwCl (w0 ++ [(x9, .inr (9, [.ref q8, .int 0, .ref q17, .int 0, .ref q26, .int 0, .int 0, .long 0, .long 0, .int 0, .ref q33, .int 0, .ref q41, .ref q49, .ref q57, .ref q65, .ref q73, .ref q81, .int 0, .ref q90, .ref q99, .ref q108, .ref q117, .null, .int 0, .int 0, .null, .int 0])), (q8, .inl (cy 0, 1600, .inl (fun _ => 0))), (q17, .inl (cy 0, 1640, .inl (fun _ => 0))), (q26, .inl (cy 0, 1600, .inl (fun _ => 0))), (q33, .inl (cy 1, 4, .inl (fun _ => 0))), (q41, .inl (cy 1, 64, .inl (fun _ => 0))), (q49, .inl (cy 2, 64, .inr (.inl (fun _ => 0)))), (q57, .inl (cy 2, 64, .inr (.inl (fun _ => 0)))), (q65, .inl (cy 1, 64, .inl (fun _ => 0))), (q73, .inl (cy 1, 64, .inl (fun _ => 0))), (q81, .inl (cy 1, 64, .inl (fun _ => 0))), (q90, .inl (cy 1, 128, .inl (fun _ => 0))), (q99, .inl (cy 1, 128, .inl (fun _ => 0))), (q108, .inl (cy 1, 128, .inl (fun _ => 0))), (q117, .inl (cy 1, 128, .inl (fun _ => 0))), (q126, .inl (cy 1, 128, .inl (fun _ => 0)))]) H := hP
  have hD : va_D A (w0 ++ [(x9, .inr (9, [.ref q8, .int 0, .ref q17, .int 0, .ref q26, .int 0, .int 0, .long 0, .long 0, .int 0, .ref q33, .int 0, .ref q41, .ref q49, .ref q57, .ref q65, .ref q73, .ref q81, .int 0, .ref q90, .ref q99, .ref q108, .ref q117, .null, .int 0, .int 0, .null, .int 0])), (q8, .inl (cy 0, 1600, .inl (fun _ => 0))), (q17, .inl (cy 0, 1640, .inl (fun _ => 0))), (q26, .inl (cy 0, 1600, .inl (fun _ => 0))), (q33, .inl (cy 1, 4, .inl (fun _ => 0))), (q41, .inl (cy 1, 64, .inl (fun _ => 0))), (q49, .inl (cy 2, 64, .inr (.inl (fun _ => 0)))), (q57, .inl (cy 2, 64, .inr (.inl (fun _ => 0)))), (q65, .inl (cy 1, 64, .inl (fun _ => 0))), (q73, .inl (cy 1, 64, .inl (fun _ => 0))), (q81, .inl (cy 1, 64, .inl (fun _ => 0))), (q90, .inl (cy 1, 128, .inl (fun _ => 0))), (q99, .inl (cy 1, 128, .inl (fun _ => 0))), (q108, .inl (cy 1, 128, .inl (fun _ => 0))), (q117, .inl (cy 1, 128, .inl (fun _ => 0))), (q126, .inl (cy 1, 128, .inl (fun _ => 0)))]) := hD
  refine va_putF (ci := 9) (C := RX12) (T := TX12) (N := 28) (ty := tyX12 23) hx hb ht iFX12 tyX12 tyX12_ok nmX12 hown hK hP hD hS (w0.length + 0) (app_r rfl) rfl 23 (by decide) (ht _ kw4_133) (fun _ h9 => h9) rfl hnm rfl (by decide +kernel) (by first | rfl | decide) (by first | rfl | decide) (Nat.le_of_ble_eq_true rfl) dX12_init_128 (fun H locs hP hD hS => ?_)
  rw [app_setr] at hP hD
  have hP : va_P D vwCl (w0 ++ [(x9, .inr (9, [.ref q8, .int 0, .ref q17, .int 0, .ref q26, .int 0, .int 0, .long 0, .long 0, .int 0, .ref q33, .int 0, .ref q41, .ref q49, .ref q57, .ref q65, .ref q73, .ref q81, .int 0, .ref q90, .ref q99, .ref q108, .ref q117, .ref q126, .int 0, .int 0, .null, .int 0])), (q8, .inl (cy 0, 1600, .inl (fun _ => 0))), (q17, .inl (cy 0, 1640, .inl (fun _ => 0))), (q26, .inl (cy 0, 1600, .inl (fun _ => 0))), (q33, .inl (cy 1, 4, .inl (fun _ => 0))), (q41, .inl (cy 1, 64, .inl (fun _ => 0))), (q49, .inl (cy 2, 64, .inr (.inl (fun _ => 0)))), (q57, .inl (cy 2, 64, .inr (.inl (fun _ => 0)))), (q65, .inl (cy 1, 64, .inl (fun _ => 0))), (q73, .inl (cy 1, 64, .inl (fun _ => 0))), (q81, .inl (cy 1, 64, .inl (fun _ => 0))), (q90, .inl (cy 1, 128, .inl (fun _ => 0))), (q99, .inl (cy 1, 128, .inl (fun _ => 0))), (q108, .inl (cy 1, 128, .inl (fun _ => 0))), (q117, .inl (cy 1, 128, .inl (fun _ => 0))), (q126, .inl (cy 1, 128, .inl (fun _ => 0)))]) H := hP
  have hD : va_D A (w0 ++ [(x9, .inr (9, [.ref q8, .int 0, .ref q17, .int 0, .ref q26, .int 0, .int 0, .long 0, .long 0, .int 0, .ref q33, .int 0, .ref q41, .ref q49, .ref q57, .ref q65, .ref q73, .ref q81, .int 0, .ref q90, .ref q99, .ref q108, .ref q117, .ref q126, .int 0, .int 0, .null, .int 0])), (q8, .inl (cy 0, 1600, .inl (fun _ => 0))), (q17, .inl (cy 0, 1640, .inl (fun _ => 0))), (q26, .inl (cy 0, 1600, .inl (fun _ => 0))), (q33, .inl (cy 1, 4, .inl (fun _ => 0))), (q41, .inl (cy 1, 64, .inl (fun _ => 0))), (q49, .inl (cy 2, 64, .inr (.inl (fun _ => 0)))), (q57, .inl (cy 2, 64, .inr (.inl (fun _ => 0)))), (q65, .inl (cy 1, 64, .inl (fun _ => 0))), (q73, .inl (cy 1, 64, .inl (fun _ => 0))), (q81, .inl (cy 1, 64, .inl (fun _ => 0))), (q90, .inl (cy 1, 128, .inl (fun _ => 0))), (q99, .inl (cy 1, 128, .inl (fun _ => 0))), (q108, .inl (cy 1, 128, .inl (fun _ => 0))), (q117, .inl (cy 1, 128, .inl (fun _ => 0))), (q126, .inl (cy 1, 128, .inl (fun _ => 0)))]) := hD
  refine lv_aload_n hx hb dX12_init_131 rfl (lv_at hl 0 rfl) ?_
  refine nv_bipush (k := 16) hx hb dX12_init_132 (by decide) ?_
  refine va_newa (atype := .int) (a0 := (16, .inl (fun _ => 0))) hx hb (ht _ kw1_80) (ty := .int) rfl hK hP hD hS hA (fun _ => rfl) (nI_pos (n := 16) (by omega)) (nI_clamp (n := 16) (by omega)) (by show 16 * 4 ≤ _; omega) (by show _ ≤ 16; omega) (by show _ ≤ 6000; omega) dX12_init_134 (fun q134 cA H hK2 hP hD hS => ?_)
  have ecA := a_cls 1 hK hK2 rfl (fun C h9 => by cases h9)
  subst ecA
  rw [List.append_assoc] at hP hD
  have hP : va_P D vwCl (w0 ++ [(x9, .inr (9, [.ref q8, .int 0, .ref q17, .int 0, .ref q26, .int 0, .int 0, .long 0, .long 0, .int 0, .ref q33, .int 0, .ref q41, .ref q49, .ref q57, .ref q65, .ref q73, .ref q81, .int 0, .ref q90, .ref q99, .ref q108, .ref q117, .ref q126, .int 0, .int 0, .null, .int 0])), (q8, .inl (cy 0, 1600, .inl (fun _ => 0))), (q17, .inl (cy 0, 1640, .inl (fun _ => 0))), (q26, .inl (cy 0, 1600, .inl (fun _ => 0))), (q33, .inl (cy 1, 4, .inl (fun _ => 0))), (q41, .inl (cy 1, 64, .inl (fun _ => 0))), (q49, .inl (cy 2, 64, .inr (.inl (fun _ => 0)))), (q57, .inl (cy 2, 64, .inr (.inl (fun _ => 0)))), (q65, .inl (cy 1, 64, .inl (fun _ => 0))), (q73, .inl (cy 1, 64, .inl (fun _ => 0))), (q81, .inl (cy 1, 64, .inl (fun _ => 0))), (q90, .inl (cy 1, 128, .inl (fun _ => 0))), (q99, .inl (cy 1, 128, .inl (fun _ => 0))), (q108, .inl (cy 1, 128, .inl (fun _ => 0))), (q117, .inl (cy 1, 128, .inl (fun _ => 0))), (q126, .inl (cy 1, 128, .inl (fun _ => 0))), (q134, .inl (cy 1, 16, .inl (fun _ => 0)))]) H := hP
  have hD : va_D A (w0 ++ [(x9, .inr (9, [.ref q8, .int 0, .ref q17, .int 0, .ref q26, .int 0, .int 0, .long 0, .long 0, .int 0, .ref q33, .int 0, .ref q41, .ref q49, .ref q57, .ref q65, .ref q73, .ref q81, .int 0, .ref q90, .ref q99, .ref q108, .ref q117, .ref q126, .int 0, .int 0, .null, .int 0])), (q8, .inl (cy 0, 1600, .inl (fun _ => 0))), (q17, .inl (cy 0, 1640, .inl (fun _ => 0))), (q26, .inl (cy 0, 1600, .inl (fun _ => 0))), (q33, .inl (cy 1, 4, .inl (fun _ => 0))), (q41, .inl (cy 1, 64, .inl (fun _ => 0))), (q49, .inl (cy 2, 64, .inr (.inl (fun _ => 0)))), (q57, .inl (cy 2, 64, .inr (.inl (fun _ => 0)))), (q65, .inl (cy 1, 64, .inl (fun _ => 0))), (q73, .inl (cy 1, 64, .inl (fun _ => 0))), (q81, .inl (cy 1, 64, .inl (fun _ => 0))), (q90, .inl (cy 1, 128, .inl (fun _ => 0))), (q99, .inl (cy 1, 128, .inl (fun _ => 0))), (q108, .inl (cy 1, 128, .inl (fun _ => 0))), (q117, .inl (cy 1, 128, .inl (fun _ => 0))), (q126, .inl (cy 1, 128, .inl (fun _ => 0))), (q134, .inl (cy 1, 16, .inl (fun _ => 0)))]) := hD
  refine va_putF (ci := 9) (C := RX12) (T := TX12) (N := 28) (ty := tyX12 26) hx hb ht iFX12 tyX12 tyX12_ok nmX12 hown hK hP hD hS (w0.length + 0) (app_r rfl) rfl 26 (by decide) (ht _ kw4_136) (fun _ h9 => h9) rfl hnm rfl (by decide +kernel) (by first | rfl | decide) (by first | rfl | decide) (Nat.le_of_ble_eq_true rfl) dX12_init_136 (fun H locs hP hD hS => ?_)
  rw [app_setr] at hP hD
  have hP : va_P D vwCl (w0 ++ [(x9, .inr (9, [.ref q8, .int 0, .ref q17, .int 0, .ref q26, .int 0, .int 0, .long 0, .long 0, .int 0, .ref q33, .int 0, .ref q41, .ref q49, .ref q57, .ref q65, .ref q73, .ref q81, .int 0, .ref q90, .ref q99, .ref q108, .ref q117, .ref q126, .int 0, .int 0, .ref q134, .int 0])), (q8, .inl (cy 0, 1600, .inl (fun _ => 0))), (q17, .inl (cy 0, 1640, .inl (fun _ => 0))), (q26, .inl (cy 0, 1600, .inl (fun _ => 0))), (q33, .inl (cy 1, 4, .inl (fun _ => 0))), (q41, .inl (cy 1, 64, .inl (fun _ => 0))), (q49, .inl (cy 2, 64, .inr (.inl (fun _ => 0)))), (q57, .inl (cy 2, 64, .inr (.inl (fun _ => 0)))), (q65, .inl (cy 1, 64, .inl (fun _ => 0))), (q73, .inl (cy 1, 64, .inl (fun _ => 0))), (q81, .inl (cy 1, 64, .inl (fun _ => 0))), (q90, .inl (cy 1, 128, .inl (fun _ => 0))), (q99, .inl (cy 1, 128, .inl (fun _ => 0))), (q108, .inl (cy 1, 128, .inl (fun _ => 0))), (q117, .inl (cy 1, 128, .inl (fun _ => 0))), (q126, .inl (cy 1, 128, .inl (fun _ => 0))), (q134, .inl (cy 1, 16, .inl (fun _ => 0)))]) H := hP
  have hD : va_D A (w0 ++ [(x9, .inr (9, [.ref q8, .int 0, .ref q17, .int 0, .ref q26, .int 0, .int 0, .long 0, .long 0, .int 0, .ref q33, .int 0, .ref q41, .ref q49, .ref q57, .ref q65, .ref q73, .ref q81, .int 0, .ref q90, .ref q99, .ref q108, .ref q117, .ref q126, .int 0, .int 0, .ref q134, .int 0])), (q8, .inl (cy 0, 1600, .inl (fun _ => 0))), (q17, .inl (cy 0, 1640, .inl (fun _ => 0))), (q26, .inl (cy 0, 1600, .inl (fun _ => 0))), (q33, .inl (cy 1, 4, .inl (fun _ => 0))), (q41, .inl (cy 1, 64, .inl (fun _ => 0))), (q49, .inl (cy 2, 64, .inr (.inl (fun _ => 0)))), (q57, .inl (cy 2, 64, .inr (.inl (fun _ => 0)))), (q65, .inl (cy 1, 64, .inl (fun _ => 0))), (q73, .inl (cy 1, 64, .inl (fun _ => 0))), (q81, .inl (cy 1, 64, .inl (fun _ => 0))), (q90, .inl (cy 1, 128, .inl (fun _ => 0))), (q99, .inl (cy 1, 128, .inl (fun _ => 0))), (q108, .inl (cy 1, 128, .inl (fun _ => 0))), (q117, .inl (cy 1, 128, .inl (fun _ => 0))), (q126, .inl (cy 1, 128, .inl (fun _ => 0))), (q134, .inl (cy 1, 16, .inl (fun _ => 0)))]) := hD
  refine lv_aload_n hx hb dX12_init_139 rfl (lv_at hl 0 rfl) ?_
  refine nv_iconst (k := 1) hx hb dX12_init_140 rfl ?_
  refine va_put (ci := 9) (C := RX12) (T := TX12) (N := 28) (ty := tyX12 27) hx hb ht iFX12 tyX12 tyX12_ok nmX12 hown hK hP hD hS (w0.length + 0) (app_r rfl) rfl 27 (by decide) (ht _ kw4_137) (fun _ h9 => h9) rfl (by decide +kernel) (by first | rfl | decide) (by first | rfl | decide) (Nat.le_of_ble_eq_true rfl) dX12_init_141 (fun H locs hP hD hS => ?_)
  rw [app_setr] at hP hD
  have hP : va_P D vwCl (w0 ++ [(x9, .inr (9, [.ref q8, .int 0, .ref q17, .int 0, .ref q26, .int 0, .int 0, .long 0, .long 0, .int 0, .ref q33, .int 0, .ref q41, .ref q49, .ref q57, .ref q65, .ref q73, .ref q81, .int 0, .ref q90, .ref q99, .ref q108, .ref q117, .ref q126, .int 0, .int 0, .ref q134, .int (nI 1)])), (q8, .inl (cy 0, 1600, .inl (fun _ => 0))), (q17, .inl (cy 0, 1640, .inl (fun _ => 0))), (q26, .inl (cy 0, 1600, .inl (fun _ => 0))), (q33, .inl (cy 1, 4, .inl (fun _ => 0))), (q41, .inl (cy 1, 64, .inl (fun _ => 0))), (q49, .inl (cy 2, 64, .inr (.inl (fun _ => 0)))), (q57, .inl (cy 2, 64, .inr (.inl (fun _ => 0)))), (q65, .inl (cy 1, 64, .inl (fun _ => 0))), (q73, .inl (cy 1, 64, .inl (fun _ => 0))), (q81, .inl (cy 1, 64, .inl (fun _ => 0))), (q90, .inl (cy 1, 128, .inl (fun _ => 0))), (q99, .inl (cy 1, 128, .inl (fun _ => 0))), (q108, .inl (cy 1, 128, .inl (fun _ => 0))), (q117, .inl (cy 1, 128, .inl (fun _ => 0))), (q126, .inl (cy 1, 128, .inl (fun _ => 0))), (q134, .inl (cy 1, 16, .inl (fun _ => 0)))]) H := hP
  have hD : va_D A (w0 ++ [(x9, .inr (9, [.ref q8, .int 0, .ref q17, .int 0, .ref q26, .int 0, .int 0, .long 0, .long 0, .int 0, .ref q33, .int 0, .ref q41, .ref q49, .ref q57, .ref q65, .ref q73, .ref q81, .int 0, .ref q90, .ref q99, .ref q108, .ref q117, .ref q126, .int 0, .int 0, .ref q134, .int (nI 1)])), (q8, .inl (cy 0, 1600, .inl (fun _ => 0))), (q17, .inl (cy 0, 1640, .inl (fun _ => 0))), (q26, .inl (cy 0, 1600, .inl (fun _ => 0))), (q33, .inl (cy 1, 4, .inl (fun _ => 0))), (q41, .inl (cy 1, 64, .inl (fun _ => 0))), (q49, .inl (cy 2, 64, .inr (.inl (fun _ => 0)))), (q57, .inl (cy 2, 64, .inr (.inl (fun _ => 0)))), (q65, .inl (cy 1, 64, .inl (fun _ => 0))), (q73, .inl (cy 1, 64, .inl (fun _ => 0))), (q81, .inl (cy 1, 64, .inl (fun _ => 0))), (q90, .inl (cy 1, 128, .inl (fun _ => 0))), (q99, .inl (cy 1, 128, .inl (fun _ => 0))), (q108, .inl (cy 1, 128, .inl (fun _ => 0))), (q117, .inl (cy 1, 128, .inl (fun _ => 0))), (q126, .inl (cy 1, 128, .inl (fun _ => 0))), (q134, .inl (cy 1, 16, .inl (fun _ => 0)))]) := hD
  refine W.widen (k := 16) (n := 6000) (by omega) (by omega) ?_
  exact hend (fun k => [q8, q17, q26, q33, q41, q49, q57, q65, q73, q81, q90, q99, q108, q117, q126, q134].getD k 0) trivial (by unfold mW; rw [bt_0]; exact hP) (by unfold mW; rw [bt_0]; exact hD) hS dX12_init_144
