theorem dX7_lifetime_0 : decode cX7_lifetime 0 = .ok (.iload_n 0, 1) := by decide +kernel
theorem dX7_lifetime_1 : decode cX7_lifetime 1 = .ok (.tableswitch 61 0 5 #[39, 61, 54, 57, 57, 57], 39) := by decide +kernel
theorem dX7_lifetime_40 : decode cX7_lifetime 40 = .ok (.iload_n 1, 1) := by decide +kernel
theorem dX7_lifetime_41 : decode cX7_lifetime 41 = .ok (.bipush 17, 2) := by decide +kernel
theorem dX7_lifetime_43 : decode cX7_lifetime 43 = .ok (.if_icmp .ne 9, 3) := by decide +kernel
theorem dX7_lifetime_46 : decode cX7_lifetime 46 = .ok (.sipush 300, 3) := by decide +kernel
theorem dX7_lifetime_49 : decode cX7_lifetime 49 = .ok (.goto 5, 3) := by decide +kernel
theorem dX7_lifetime_52 : decode cX7_lifetime 52 = .ok (.bipush 60, 2) := by decide +kernel
theorem dX7_lifetime_54 : decode cX7_lifetime 54 = .ok (.ireturn, 1) := by decide +kernel
theorem dX7_lifetime_55 : decode cX7_lifetime 55 = .ok (.bipush 6, 2) := by decide +kernel
theorem dX7_lifetime_57 : decode cX7_lifetime 57 = .ok (.ireturn, 1) := by decide +kernel
theorem dX7_lifetime_58 : decode cX7_lifetime 58 = .ok (.sipush 7200, 3) := by decide +kernel
theorem dX7_lifetime_61 : decode cX7_lifetime 61 = .ok (.ireturn, 1) := by decide +kernel
theorem dX7_lifetime_62 : decode cX7_lifetime 62 = .ok (.sipush 240, 3) := by decide +kernel
theorem dX7_lifetime_65 : decode cX7_lifetime 65 = .ok (.ireturn, 1) := by decide +kernel
theorem yv_X7_lifetime : YS yX7_lifetime cX7_lifetime 2 (some .int) 2 := ⟨kw2_195, kw1_17, kw2_196, by decide +kernel⟩
set_option maxHeartbeats 4000000 in
set_option maxRecDepth 100000 in
theorem c_X7_lifetime {l : Launch} {D : va_G} {cy : Nat → ClassId} {ws : va_W} {s9 q : Nat} (hs9 : s9 < 2 ^ 31) (hq9 : q < 2 ^ 31) (hs8 : s9 ≤ 7) : RO l yX7_lifetime cX7_lifetime 2 (some .int) 0 0 [.int (nI s9), .int (nI q)] D cy ws (.int (nI (tg_life s9 q))) := by
  refine ROi (by decide) (lv0 := [(0, .int (nI s9)), (1, .int (nI q))]) rfl (Nat.le_of_ble_eq_true rfl) ?_
  intro p e s m args below meth c ls Q S hP hK hend hl
  have hx := S.1
  have hb := S.2.1
  have hown : s.vm.findClass RX7 = some m.cls := S.2.2.2.1
  have ht : ∀ w ∈ lw_g, w.before args s = true := fun w h => S.2.2.2.2 w (List.mem_cons_of_mem _ h)
  refine lv_iload_n hx hb dX7_lifetime_0 rfl (lv_at hl 0 rfl) ?_
  by_cases hs1_0 : s9 = 0
  · refine lv_tableIn (off := 39) (tgt := 40) hx hb dX7_lifetime_1 (by rw [hs1_0]; decide) (by rw [hs1_0]; decide) (by rw [hs1_0]; decide) (by decide) ?_
    refine lv_iload_n hx hb dX7_lifetime_40 rfl (lv_at hl 1 rfl) ?_
    refine nv_bipush (k := 17) hx hb dX7_lifetime_41 (by decide) ?_
    refine nv_icmp_ne (tgt := 52) hx hb dX7_lifetime_43 (by decide) (by omega) (by omega) (fun h43 => ?_) (fun h43 => ?_)
    · skip
      refine nv_bipush (k := 60) hx hb dX7_lifetime_52 (by decide) ?_
      exact hend ((congrArg nI (by unfold tg_life; (repeat' split) <;> omega))) dX7_lifetime_54
    refine nv_sipush (k := 300) hx hb dX7_lifetime_46 (by decide) ?_
    refine lv_goto (tgt := 54) hx hb dX7_lifetime_49 (by decide) ?_
    exact hend ((congrArg nI (by unfold tg_life; (repeat' split) <;> omega))) dX7_lifetime_54
  by_cases hs1_1 : s9 = 1
  · refine lv_tableIn (off := 61) (tgt := 62) hx hb dX7_lifetime_1 (by rw [hs1_1]; decide) (by rw [hs1_1]; decide) (by rw [hs1_1]; decide) (by decide) ?_
    refine nv_sipush (k := 240) hx hb dX7_lifetime_62 (by decide) ?_
    exact hend ((congrArg nI (by unfold tg_life; (repeat' split) <;> omega))) dX7_lifetime_65
  by_cases hs1_2 : s9 = 2
  · refine lv_tableIn (off := 54) (tgt := 55) hx hb dX7_lifetime_1 (by rw [hs1_2]; decide) (by rw [hs1_2]; decide) (by rw [hs1_2]; decide) (by decide) ?_
    refine nv_bipush (k := 6) hx hb dX7_lifetime_55 (by decide) ?_
    exact hend ((congrArg nI (by unfold tg_life; (repeat' split) <;> omega))) dX7_lifetime_57
  by_cases hs1_3 : s9 = 3
  · refine lv_tableIn (off := 57) (tgt := 58) hx hb dX7_lifetime_1 (by rw [hs1_3]; decide) (by rw [hs1_3]; decide) (by rw [hs1_3]; decide) (by decide) ?_
    refine nv_sipush (k := 7200) hx hb dX7_lifetime_58 (by decide) ?_
    exact hend ((congrArg nI (by unfold tg_life; (repeat' split) <;> omega))) dX7_lifetime_61
  by_cases hs1_4 : s9 = 4
  · refine lv_tableIn (off := 57) (tgt := 58) hx hb dX7_lifetime_1 (by rw [hs1_4]; decide) (by rw [hs1_4]; decide) (by rw [hs1_4]; decide) (by decide) ?_
    refine nv_sipush (k := 7200) hx hb dX7_lifetime_58 (by decide) ?_
    exact hend ((congrArg nI (by unfold tg_life; (repeat' split) <;> omega))) dX7_lifetime_61
  by_cases hs1_5 : s9 = 5
  · refine lv_tableIn (off := 57) (tgt := 58) hx hb dX7_lifetime_1 (by rw [hs1_5]; decide) (by rw [hs1_5]; decide) (by rw [hs1_5]; decide) (by decide) ?_
    refine nv_sipush (k := 7200) hx hb dX7_lifetime_58 (by decide) ?_
    exact hend ((congrArg nI (by unfold tg_life; (repeat' split) <;> omega))) dX7_lifetime_61
  refine lv_tableOut (tgt := 62) hx hb dX7_lifetime_1 (by rw [nI_toInt (by omega)]; omega) (by decide) ?_
  refine nv_sipush (k := 240) hx hb dX7_lifetime_62 (by decide) ?_
  exact hend ((congrArg nI (by unfold tg_life; (repeat' split) <;> omega))) dX7_lifetime_65
theorem dX7_firstState_0 : decode cX7_firstState 0 = .ok (.aload_n 0, 1) := by decide +kernel
theorem dX7_firstState_1 : decode cX7_firstState 1 = .ok (.getfield 33, 3) := by decide +kernel
theorem dX7_firstState_4 : decode cX7_firstState 4 = .ok (.bipush 6, 2) := by decide +kernel
theorem dX7_firstState_6 : decode cX7_firstState 6 = .ok (.if_icmp .eq 5, 3) := by decide +kernel
theorem dX7_firstState_9 : decode cX7_firstState 9 = .ok (.iconst 0, 1) := by decide +kernel
theorem dX7_firstState_10 : decode cX7_firstState 10 = .ok (.ireturn, 1) := by decide +kernel
theorem dX7_firstState_11 : decode cX7_firstState 11 = .ok (.aload_n 0, 1) := by decide +kernel
theorem dX7_firstState_12 : decode cX7_firstState 12 = .ok (.getfield 47, 3) := by decide +kernel
theorem dX7_firstState_15 : decode cX7_firstState 15 = .ok (.ifCond .eq 7, 3) := by decide +kernel
theorem dX7_firstState_18 : decode cX7_firstState 18 = .ok (.iconst 1, 1) := by decide +kernel
theorem dX7_firstState_19 : decode cX7_firstState 19 = .ok (.goto 4, 3) := by decide +kernel
theorem dX7_firstState_22 : decode cX7_firstState 22 = .ok (.iconst 2, 1) := by decide +kernel
theorem dX7_firstState_23 : decode cX7_firstState 23 = .ok (.ireturn, 1) := by decide +kernel
theorem yv_X7_firstState : YS yX7_firstState cX7_firstState 1 (some .int) 1 := ⟨kw3_85, kw1_17, kw3_86, by decide +kernel⟩
set_option maxHeartbeats 4000000 in
set_option maxRecDepth 100000 in
theorem c_X7_firstState {l : Launch} {D : va_G} {cy : Nat → ClassId} {ws : va_W} {kf fl q port fa fp ev : Nat} {ins : Bool} (hf0 : ws[kf]? = some (fl, .inr (3, [.int (bI ins), .int (nI q), .int (nI port), .int (nI fa), .int (nI fp), .int (nI ev)]))) (hq : q < 256) (hport : port < 65536) (hev : ev ≤ 3) : RO l yX7_firstState cX7_firstState 1 (some .int) 0 0 [.ref fl] D cy ws (.int (nI (tg_first_st q ins))) := by
  refine ROi (by decide) (lv0 := [(0, .ref fl)]) rfl (Nat.le_of_ble_eq_true rfl) ?_
  intro p e s m args below meth c ls Q S hP hK hend hl
  have hx := S.1
  have hb := S.2.1
  have hown : s.vm.findClass RX7 = some m.cls := S.2.2.2.1
  have ht : ∀ w ∈ lw_g, w.before args s = true := fun w h => S.2.2.2.2 w (List.mem_cons_of_mem _ h)
  refine lv_aload_n hx hb dX7_firstState_0 rfl (lv_at hl 0 rfl) ?_
  refine va_get (ci := 3) (C := RX2) (T := TX2) (N := 6) hx hb ht iFX2 hown hK hP kf hf0 rfl 1 (by decide) (ht _ kw2_121) (fun _ h9 => h9) rfl dX7_firstState_1 ?_
  refine nv_bipush (k := 6) hx hb dX7_firstState_4 (by decide) ?_
  refine nv_icmp_eq (tgt := 11) hx hb dX7_firstState_6 (by decide) (by omega) (by omega) (fun h6 => ?_) (fun h6 => ?_)
  · skip
    refine lv_aload_n hx hb dX7_firstState_11 rfl (lv_at hl 0 rfl) ?_
    refine va_get (ci := 3) (C := RX2) (T := TX2) (N := 6) hx hb ht iFX2 hown hK hP kf hf0 rfl 0 (by decide) (ht _ kw2_118) (fun _ h9 => h9) rfl dX7_firstState_12 ?_
    refine nv_if_eqb (tgt := 22) hx hb dX7_firstState_15 (by decide) (fun h15 => ?_) (fun h15 => ?_)
    · skip
      refine nv_iconst (k := 2) hx hb dX7_firstState_22 rfl ?_
      exact hend ((congrArg nI (by unfold tg_first_st; first | rw [if_neg (by omega)] | (rw [if_pos (by omega)]; cases ins <;> simp_all)))) dX7_firstState_23
    refine nv_iconst (k := 1) hx hb dX7_firstState_18 rfl ?_
    refine lv_goto (tgt := 23) hx hb dX7_firstState_19 (by decide) ?_
    exact hend ((congrArg nI (by unfold tg_first_st; first | rw [if_neg (by omega)] | (rw [if_pos (by omega)]; cases ins <;> simp_all)))) dX7_firstState_23
  refine nv_iconst (k := 0) hx hb dX7_firstState_9 rfl ?_
  exact hend ((congrArg nI (by unfold tg_first_st; first | rw [if_neg (by omega)] | (rw [if_pos (by omega)]; cases ins <;> simp_all)))) dX7_firstState_10
theorem dX7_stateAfter_0 : decode cX7_stateAfter 0 = .ok (.aload_n 0, 1) := by decide +kernel
theorem dX7_stateAfter_1 : decode cX7_stateAfter 1 = .ok (.getfield 30, 3) := by decide +kernel
theorem dX7_stateAfter_4 : decode cX7_stateAfter 4 = .ok (.tableswitch 152 0 7 #[48, 50, 67, 82, 109, 125, 152, 141], 48) := by decide +kernel
theorem dX7_stateAfter_52 : decode cX7_stateAfter 52 = .ok (.iconst 0, 1) := by decide +kernel
theorem dX7_stateAfter_53 : decode cX7_stateAfter 53 = .ok (.ireturn, 1) := by decide +kernel
theorem dX7_stateAfter_54 : decode cX7_stateAfter 54 = .ok (.iload_n 1, 1) := by decide +kernel
theorem dX7_stateAfter_55 : decode cX7_stateAfter 55 = .ok (.iconst 2, 1) := by decide +kernel
theorem dX7_stateAfter_56 : decode cX7_stateAfter 56 = .ok (.if_icmp .eq 5, 3) := by decide +kernel
theorem dX7_stateAfter_59 : decode cX7_stateAfter 59 = .ok (.iconst (-1), 1) := by decide +kernel
theorem dX7_stateAfter_60 : decode cX7_stateAfter 60 = .ok (.ireturn, 1) := by decide +kernel
theorem dX7_stateAfter_61 : decode cX7_stateAfter 61 = .ok (.iload_n 2, 1) := by decide +kernel
theorem dX7_stateAfter_62 : decode cX7_stateAfter 62 = .ok (.ifCond .eq 7, 3) := by decide +kernel
theorem dX7_stateAfter_65 : decode cX7_stateAfter 65 = .ok (.iconst 1, 1) := by decide +kernel
theorem dX7_stateAfter_66 : decode cX7_stateAfter 66 = .ok (.goto 4, 3) := by decide +kernel
theorem dX7_stateAfter_69 : decode cX7_stateAfter 69 = .ok (.iconst 3, 1) := by decide +kernel
theorem dX7_stateAfter_70 : decode cX7_stateAfter 70 = .ok (.ireturn, 1) := by decide +kernel
theorem dX7_stateAfter_71 : decode cX7_stateAfter 71 = .ok (.iload_n 1, 1) := by decide +kernel
theorem dX7_stateAfter_72 : decode cX7_stateAfter 72 = .ok (.iconst 2, 1) := by decide +kernel
theorem dX7_stateAfter_73 : decode cX7_stateAfter 73 = .ok (.if_icmp .ne 11, 3) := by decide +kernel
theorem dX7_stateAfter_76 : decode cX7_stateAfter 76 = .ok (.iload_n 2, 1) := by decide +kernel
theorem dX7_stateAfter_77 : decode cX7_stateAfter 77 = .ok (.ifCond .eq 7, 3) := by decide +kernel
theorem dX7_stateAfter_80 : decode cX7_stateAfter 80 = .ok (.iconst 3, 1) := by decide +kernel
theorem dX7_stateAfter_81 : decode cX7_stateAfter 81 = .ok (.goto 4, 3) := by decide +kernel
theorem dX7_stateAfter_84 : decode cX7_stateAfter 84 = .ok (.iconst (-1), 1) := by decide +kernel
theorem dX7_stateAfter_85 : decode cX7_stateAfter 85 = .ok (.ireturn, 1) := by decide +kernel
theorem dX7_stateAfter_86 : decode cX7_stateAfter 86 = .ok (.iload_n 1, 1) := by decide +kernel
theorem dX7_stateAfter_87 : decode cX7_stateAfter 87 = .ok (.iconst 1, 1) := by decide +kernel
theorem dX7_stateAfter_88 : decode cX7_stateAfter 88 = .ok (.if_icmp .ne 13, 3) := by decide +kernel
theorem dX7_stateAfter_91 : decode cX7_stateAfter 91 = .ok (.iload_n 2, 1) := by decide +kernel
theorem dX7_stateAfter_92 : decode cX7_stateAfter 92 = .ok (.ifCond .eq 7, 3) := by decide +kernel
theorem dX7_stateAfter_95 : decode cX7_stateAfter 95 = .ok (.iconst 5, 1) := by decide +kernel
theorem dX7_stateAfter_96 : decode cX7_stateAfter 96 = .ok (.goto 4, 3) := by decide +kernel
theorem dX7_stateAfter_99 : decode cX7_stateAfter 99 = .ok (.iconst 4, 1) := by decide +kernel
theorem dX7_stateAfter_100 : decode cX7_stateAfter 100 = .ok (.ireturn, 1) := by decide +kernel
theorem dX7_stateAfter_101 : decode cX7_stateAfter 101 = .ok (.iload_n 1, 1) := by decide +kernel
theorem dX7_stateAfter_102 : decode cX7_stateAfter 102 = .ok (.iconst 3, 1) := by decide +kernel
theorem dX7_stateAfter_103 : decode cX7_stateAfter 103 = .ok (.if_icmp .ne 8, 3) := by decide +kernel
theorem dX7_stateAfter_106 : decode cX7_stateAfter 106 = .ok (.bipush 7, 2) := by decide +kernel
theorem dX7_stateAfter_108 : decode cX7_stateAfter 108 = .ok (.goto 4, 3) := by decide +kernel
theorem dX7_stateAfter_111 : decode cX7_stateAfter 111 = .ok (.iconst 3, 1) := by decide +kernel
theorem dX7_stateAfter_112 : decode cX7_stateAfter 112 = .ok (.ireturn, 1) := by decide +kernel
theorem dX7_stateAfter_113 : decode cX7_stateAfter 113 = .ok (.iload_n 1, 1) := by decide +kernel
theorem dX7_stateAfter_114 : decode cX7_stateAfter 114 = .ok (.iconst 1, 1) := by decide +kernel
theorem dX7_stateAfter_115 : decode cX7_stateAfter 115 = .ok (.if_icmp .ne 12, 3) := by decide +kernel
theorem dX7_stateAfter_118 : decode cX7_stateAfter 118 = .ok (.iload_n 2, 1) := by decide +kernel
theorem dX7_stateAfter_119 : decode cX7_stateAfter 119 = .ok (.ifCond .eq 8, 3) := by decide +kernel
theorem dX7_stateAfter_122 : decode cX7_stateAfter 122 = .ok (.bipush 6, 2) := by decide +kernel
theorem dX7_stateAfter_124 : decode cX7_stateAfter 124 = .ok (.goto 4, 3) := by decide +kernel
theorem dX7_stateAfter_127 : decode cX7_stateAfter 127 = .ok (.iconst 4, 1) := by decide +kernel
theorem dX7_stateAfter_128 : decode cX7_stateAfter 128 = .ok (.ireturn, 1) := by decide +kernel
theorem dX7_stateAfter_129 : decode cX7_stateAfter 129 = .ok (.iload_n 1, 1) := by decide +kernel
theorem dX7_stateAfter_130 : decode cX7_stateAfter 130 = .ok (.iconst 1, 1) := by decide +kernel
theorem dX7_stateAfter_131 : decode cX7_stateAfter 131 = .ok (.if_icmp .ne 12, 3) := by decide +kernel
theorem dX7_stateAfter_134 : decode cX7_stateAfter 134 = .ok (.iload_n 2, 1) := by decide +kernel
theorem dX7_stateAfter_135 : decode cX7_stateAfter 135 = .ok (.ifCond .ne 8, 3) := by decide +kernel
theorem dX7_stateAfter_138 : decode cX7_stateAfter 138 = .ok (.bipush 6, 2) := by decide +kernel
theorem dX7_stateAfter_140 : decode cX7_stateAfter 140 = .ok (.goto 4, 3) := by decide +kernel
theorem dX7_stateAfter_143 : decode cX7_stateAfter 143 = .ok (.iconst 5, 1) := by decide +kernel
theorem dX7_stateAfter_144 : decode cX7_stateAfter 144 = .ok (.ireturn, 1) := by decide +kernel
theorem dX7_stateAfter_145 : decode cX7_stateAfter 145 = .ok (.iload_n 1, 1) := by decide +kernel
theorem dX7_stateAfter_146 : decode cX7_stateAfter 146 = .ok (.iconst 3, 1) := by decide +kernel
theorem dX7_stateAfter_147 : decode cX7_stateAfter 147 = .ok (.if_icmp .ne 7, 3) := by decide +kernel
theorem dX7_stateAfter_150 : decode cX7_stateAfter 150 = .ok (.iconst (-1), 1) := by decide +kernel
theorem dX7_stateAfter_151 : decode cX7_stateAfter 151 = .ok (.goto 4, 3) := by decide +kernel
theorem dX7_stateAfter_154 : decode cX7_stateAfter 154 = .ok (.iconst 3, 1) := by decide +kernel
theorem dX7_stateAfter_155 : decode cX7_stateAfter 155 = .ok (.ireturn, 1) := by decide +kernel
theorem dX7_stateAfter_156 : decode cX7_stateAfter 156 = .ok (.iconst (-1), 1) := by decide +kernel
theorem dX7_stateAfter_157 : decode cX7_stateAfter 157 = .ok (.ireturn, 1) := by decide +kernel
theorem yv_X7_stateAfter : YV RX7 yX7_stateAfter cX7_stateAfter 3 (some .int) 2 := ⟨kw2_191, kws_5, kw1_17, kw2_193, by decide +kernel⟩
set_option maxHeartbeats 4000000 in
set_option maxRecDepth 100000 in
theorem c_X7_stateAfter {l : Launch} {D : va_G} {cy : Nat → ClassId} {ws : va_W} {kss ss fa fp st en : Nat} {ow : Nat} (hss : ws[kss]? = some (ss, .inr (5, [.ref ow, .int (nI fa), .int (nI fp), .int (nI st), .long (lN en)]))) (hst : st < 2 ^ 31) {ev : Nat} {ins : Bool} (hev : ev ≤ 3) : RO l yX7_stateAfter cX7_stateAfter 3 (some .int) 0 0 [.ref ss, .int (nI ev), .int (bI (ins))] D cy ws (.int (tg_nr (tg_nxt st ev ins))) := by
  refine ROi (by decide) (lv0 := [(0, .ref ss), (1, .int (nI ev)), (2, .int (bI (ins)))]) rfl (Nat.le_of_ble_eq_true rfl) ?_
  intro p e s m args below meth c ls Q S hP hK hend hl
  have hx := S.1
  have hb := S.2.1
  have hown : s.vm.findClass RX7 = some m.cls := S.2.2.2.1
  have ht : ∀ w ∈ lw_g, w.before args s = true := fun w h => S.2.2.2.2 w (List.mem_cons_of_mem _ h)
  refine lv_aload_n hx hb dX7_stateAfter_0 rfl (lv_at hl 0 rfl) ?_
  refine va_get (ci := 5) (C := RX7) (T := TX7) (N := 5) hx hb ht iFX7 hown hK hP kss hss rfl 3 (by decide) (ht _ kw3_96) (fun _ h9 => h9) rfl dX7_stateAfter_1 ?_
  by_cases hs4_0 : st = 0
  · refine lv_tableIn (off := 48) (tgt := 52) hx hb dX7_stateAfter_4 (by rw [hs4_0]; decide) (by rw [hs4_0]; decide) (by rw [hs4_0]; decide) (by decide) ?_
    refine nv_iconst (k := 0) hx hb dX7_stateAfter_52 rfl ?_
    exact hend ((nxt_r (0) (by unfold tg_nxt; (repeat' split) <;> first | omega | (exfalso; simp_all; done)) rfl)) dX7_stateAfter_53
  by_cases hs4_1 : st = 1
  · refine lv_tableIn (off := 50) (tgt := 54) hx hb dX7_stateAfter_4 (by rw [hs4_1]; decide) (by rw [hs4_1]; decide) (by rw [hs4_1]; decide) (by decide) ?_
    refine lv_iload_n hx hb dX7_stateAfter_54 rfl (lv_at hl 1 rfl) ?_
    refine nv_iconst (k := 2) hx hb dX7_stateAfter_55 rfl ?_
    refine nv_icmp_eq (tgt := 61) hx hb dX7_stateAfter_56 (by decide) (by omega) (by omega) (fun h56 => ?_) (fun h56 => ?_)
    · skip
      refine lv_iload_n hx hb dX7_stateAfter_61 rfl (lv_at hl 2 rfl) ?_
      refine nv_if_eqb (tgt := 69) hx hb dX7_stateAfter_62 (by decide) (fun h62 => ?_) (fun h62 => ?_)
      · skip
        refine nv_iconst (k := 3) hx hb dX7_stateAfter_69 rfl ?_
        exact hend ((nxt_r (3) (by unfold tg_nxt; (repeat' split) <;> first | omega | (exfalso; simp_all; done)) rfl)) dX7_stateAfter_70
      refine nv_iconst (k := 1) hx hb dX7_stateAfter_65 rfl ?_
      refine lv_goto (tgt := 70) hx hb dX7_stateAfter_66 (by decide) ?_
      exact hend ((nxt_r (1) (by unfold tg_nxt; (repeat' split) <;> first | omega | (exfalso; simp_all; done)) rfl)) dX7_stateAfter_70
    refine lv_iconst (v := -1) hx hb dX7_stateAfter_59 (by decide) ?_
    exact hend ((nxt_r (8) (by unfold tg_nxt; (repeat' split) <;> first | omega | (exfalso; simp_all; done)) rfl)) dX7_stateAfter_60
  by_cases hs4_2 : st = 2
  · refine lv_tableIn (off := 67) (tgt := 71) hx hb dX7_stateAfter_4 (by rw [hs4_2]; decide) (by rw [hs4_2]; decide) (by rw [hs4_2]; decide) (by decide) ?_
    refine lv_iload_n hx hb dX7_stateAfter_71 rfl (lv_at hl 1 rfl) ?_
    refine nv_iconst (k := 2) hx hb dX7_stateAfter_72 rfl ?_
    refine nv_icmp_ne (tgt := 84) hx hb dX7_stateAfter_73 (by decide) (by omega) (by omega) (fun h73 => ?_) (fun h73 => ?_)
    · skip
      refine lv_iconst (v := -1) hx hb dX7_stateAfter_84 (by decide) ?_
      exact hend ((nxt_r (8) (by unfold tg_nxt; (repeat' split) <;> first | omega | (exfalso; simp_all; done)) rfl)) dX7_stateAfter_85
    refine lv_iload_n hx hb dX7_stateAfter_76 rfl (lv_at hl 2 rfl) ?_
    refine nv_if_eqb (tgt := 84) hx hb dX7_stateAfter_77 (by decide) (fun h77 => ?_) (fun h77 => ?_)
    · skip
      refine lv_iconst (v := -1) hx hb dX7_stateAfter_84 (by decide) ?_
      exact hend ((nxt_r (8) (by unfold tg_nxt; (repeat' split) <;> first | omega | (exfalso; simp_all; done)) rfl)) dX7_stateAfter_85
    refine nv_iconst (k := 3) hx hb dX7_stateAfter_80 rfl ?_
    refine lv_goto (tgt := 85) hx hb dX7_stateAfter_81 (by decide) ?_
    exact hend ((nxt_r (3) (by unfold tg_nxt; (repeat' split) <;> first | omega | (exfalso; simp_all; done)) rfl)) dX7_stateAfter_85
  by_cases hs4_3 : st = 3
  · refine lv_tableIn (off := 82) (tgt := 86) hx hb dX7_stateAfter_4 (by rw [hs4_3]; decide) (by rw [hs4_3]; decide) (by rw [hs4_3]; decide) (by decide) ?_
    refine lv_iload_n hx hb dX7_stateAfter_86 rfl (lv_at hl 1 rfl) ?_
    refine nv_iconst (k := 1) hx hb dX7_stateAfter_87 rfl ?_
    refine nv_icmp_ne (tgt := 101) hx hb dX7_stateAfter_88 (by decide) (by omega) (by omega) (fun h88 => ?_) (fun h88 => ?_)
    · skip
      refine lv_iload_n hx hb dX7_stateAfter_101 rfl (lv_at hl 1 rfl) ?_
      refine nv_iconst (k := 3) hx hb dX7_stateAfter_102 rfl ?_
      refine nv_icmp_ne (tgt := 111) hx hb dX7_stateAfter_103 (by decide) (by omega) (by omega) (fun h103 => ?_) (fun h103 => ?_)
      · skip
        refine nv_iconst (k := 3) hx hb dX7_stateAfter_111 rfl ?_
        exact hend ((nxt_r (3) (by unfold tg_nxt; (repeat' split) <;> first | omega | (exfalso; simp_all; done)) rfl)) dX7_stateAfter_112
      refine nv_bipush (k := 7) hx hb dX7_stateAfter_106 (by decide) ?_
      refine lv_goto (tgt := 112) hx hb dX7_stateAfter_108 (by decide) ?_
      exact hend ((nxt_r (7) (by unfold tg_nxt; (repeat' split) <;> first | omega | (exfalso; simp_all; done)) rfl)) dX7_stateAfter_112
    refine lv_iload_n hx hb dX7_stateAfter_91 rfl (lv_at hl 2 rfl) ?_
    refine nv_if_eqb (tgt := 99) hx hb dX7_stateAfter_92 (by decide) (fun h92 => ?_) (fun h92 => ?_)
    · skip
      refine nv_iconst (k := 4) hx hb dX7_stateAfter_99 rfl ?_
      exact hend ((nxt_r (4) (by unfold tg_nxt; (repeat' split) <;> first | omega | (exfalso; simp_all; done)) rfl)) dX7_stateAfter_100
    refine nv_iconst (k := 5) hx hb dX7_stateAfter_95 rfl ?_
    refine lv_goto (tgt := 100) hx hb dX7_stateAfter_96 (by decide) ?_
    exact hend ((nxt_r (5) (by unfold tg_nxt; (repeat' split) <;> first | omega | (exfalso; simp_all; done)) rfl)) dX7_stateAfter_100
  by_cases hs4_4 : st = 4
  · refine lv_tableIn (off := 109) (tgt := 113) hx hb dX7_stateAfter_4 (by rw [hs4_4]; decide) (by rw [hs4_4]; decide) (by rw [hs4_4]; decide) (by decide) ?_
    refine lv_iload_n hx hb dX7_stateAfter_113 rfl (lv_at hl 1 rfl) ?_
    refine nv_iconst (k := 1) hx hb dX7_stateAfter_114 rfl ?_
    refine nv_icmp_ne (tgt := 127) hx hb dX7_stateAfter_115 (by decide) (by omega) (by omega) (fun h115 => ?_) (fun h115 => ?_)
    · skip
      refine nv_iconst (k := 4) hx hb dX7_stateAfter_127 rfl ?_
      exact hend ((nxt_r (4) (by unfold tg_nxt; (repeat' split) <;> first | omega | (exfalso; simp_all; done)) rfl)) dX7_stateAfter_128
    refine lv_iload_n hx hb dX7_stateAfter_118 rfl (lv_at hl 2 rfl) ?_
    refine nv_if_eqb (tgt := 127) hx hb dX7_stateAfter_119 (by decide) (fun h119 => ?_) (fun h119 => ?_)
    · skip
      refine nv_iconst (k := 4) hx hb dX7_stateAfter_127 rfl ?_
      exact hend ((nxt_r (4) (by unfold tg_nxt; (repeat' split) <;> first | omega | (exfalso; simp_all; done)) rfl)) dX7_stateAfter_128
    refine nv_bipush (k := 6) hx hb dX7_stateAfter_122 (by decide) ?_
    refine lv_goto (tgt := 128) hx hb dX7_stateAfter_124 (by decide) ?_
    exact hend ((nxt_r (6) (by unfold tg_nxt; (repeat' split) <;> first | omega | (exfalso; simp_all; done)) rfl)) dX7_stateAfter_128
  by_cases hs4_5 : st = 5
  · refine lv_tableIn (off := 125) (tgt := 129) hx hb dX7_stateAfter_4 (by rw [hs4_5]; decide) (by rw [hs4_5]; decide) (by rw [hs4_5]; decide) (by decide) ?_
    refine lv_iload_n hx hb dX7_stateAfter_129 rfl (lv_at hl 1 rfl) ?_
    refine nv_iconst (k := 1) hx hb dX7_stateAfter_130 rfl ?_
    refine nv_icmp_ne (tgt := 143) hx hb dX7_stateAfter_131 (by decide) (by omega) (by omega) (fun h131 => ?_) (fun h131 => ?_)
    · skip
      refine nv_iconst (k := 5) hx hb dX7_stateAfter_143 rfl ?_
      exact hend ((nxt_r (5) (by unfold tg_nxt; (repeat' split) <;> first | omega | (exfalso; simp_all; done)) rfl)) dX7_stateAfter_144
    refine lv_iload_n hx hb dX7_stateAfter_134 rfl (lv_at hl 2 rfl) ?_
    refine nv_if_neb (tgt := 143) hx hb dX7_stateAfter_135 (by decide) (fun h135 => ?_) (fun h135 => ?_)
    · skip
      refine nv_iconst (k := 5) hx hb dX7_stateAfter_143 rfl ?_
      exact hend ((nxt_r (5) (by unfold tg_nxt; (repeat' split) <;> first | omega | (exfalso; simp_all; done)) rfl)) dX7_stateAfter_144
    refine nv_bipush (k := 6) hx hb dX7_stateAfter_138 (by decide) ?_
    refine lv_goto (tgt := 144) hx hb dX7_stateAfter_140 (by decide) ?_
    exact hend ((nxt_r (6) (by unfold tg_nxt; (repeat' split) <;> first | omega | (exfalso; simp_all; done)) rfl)) dX7_stateAfter_144
  by_cases hs4_6 : st = 6
  · refine lv_tableIn (off := 152) (tgt := 156) hx hb dX7_stateAfter_4 (by rw [hs4_6]; decide) (by rw [hs4_6]; decide) (by rw [hs4_6]; decide) (by decide) ?_
    refine lv_iconst (v := -1) hx hb dX7_stateAfter_156 (by decide) ?_
    exact hend ((nxt_r (8) (by unfold tg_nxt; (repeat' split) <;> first | omega | (exfalso; simp_all; done)) rfl)) dX7_stateAfter_157
  by_cases hs4_7 : st = 7
  · refine lv_tableIn (off := 141) (tgt := 145) hx hb dX7_stateAfter_4 (by rw [hs4_7]; decide) (by rw [hs4_7]; decide) (by rw [hs4_7]; decide) (by decide) ?_
    refine lv_iload_n hx hb dX7_stateAfter_145 rfl (lv_at hl 1 rfl) ?_
    refine nv_iconst (k := 3) hx hb dX7_stateAfter_146 rfl ?_
    refine nv_icmp_ne (tgt := 154) hx hb dX7_stateAfter_147 (by decide) (by omega) (by omega) (fun h147 => ?_) (fun h147 => ?_)
    · skip
      refine nv_iconst (k := 3) hx hb dX7_stateAfter_154 rfl ?_
      exact hend ((nxt_r (3) (by unfold tg_nxt; (repeat' split) <;> first | omega | (exfalso; simp_all; done)) rfl)) dX7_stateAfter_155
    refine lv_iconst (v := -1) hx hb dX7_stateAfter_150 (by decide) ?_
    refine lv_goto (tgt := 155) hx hb dX7_stateAfter_151 (by decide) ?_
    exact hend ((nxt_r (8) (by unfold tg_nxt; (repeat' split) <;> first | omega | (exfalso; simp_all; done)) rfl)) dX7_stateAfter_155
  refine lv_tableOut (tgt := 156) hx hb dX7_stateAfter_4 (by rw [nI_toInt (by omega)]; omega) (by decide) ?_
  refine lv_iconst (v := -1) hx hb dX7_stateAfter_156 (by decide) ?_
  exact hend ((nxt_r (8) (by unfold tg_nxt; (repeat' split) <;> first | omega | (exfalso; simp_all; done)) rfl)) dX7_stateAfter_157
theorem dX2_mayOpen_0 : decode cX2_mayOpen 0 = .ok (.aload_n 0, 1) := by decide +kernel
theorem dX2_mayOpen_1 : decode cX2_mayOpen 1 = .ok (.getfield 15, 3) := by decide +kernel
theorem dX2_mayOpen_4 : decode cX2_mayOpen 4 = .ok (.bipush 6, 2) := by decide +kernel
theorem dX2_mayOpen_6 : decode cX2_mayOpen 6 = .ok (.if_icmp .ne 11, 3) := by decide +kernel
theorem dX2_mayOpen_9 : decode cX2_mayOpen 9 = .ok (.aload_n 0, 1) := by decide +kernel
theorem dX2_mayOpen_10 : decode cX2_mayOpen 10 = .ok (.getfield 28, 3) := by decide +kernel
theorem dX2_mayOpen_13 : decode cX2_mayOpen 13 = .ok (.iconst 2, 1) := by decide +kernel
theorem dX2_mayOpen_14 : decode cX2_mayOpen 14 = .ok (.if_icmp .ne 7, 3) := by decide +kernel
theorem dX2_mayOpen_17 : decode cX2_mayOpen 17 = .ok (.iconst 1, 1) := by decide +kernel
theorem dX2_mayOpen_18 : decode cX2_mayOpen 18 = .ok (.goto 4, 3) := by decide +kernel
theorem dX2_mayOpen_21 : decode cX2_mayOpen 21 = .ok (.iconst 0, 1) := by decide +kernel
theorem dX2_mayOpen_22 : decode cX2_mayOpen 22 = .ok (.ireturn, 1) := by decide +kernel
theorem yv_X2_mayOpen : YV RX2 yX2_mayOpen cX2_mayOpen 1 (some .boolean) 0 := ⟨kw2_202, kw2_203, kw1_14, kw2_204, by decide +kernel⟩
set_option maxHeartbeats 4000000 in
set_option maxRecDepth 100000 in
theorem c_X2_mayOpen {l : Launch} {D : va_G} {cy : Nat → ClassId} {ws : va_W} {kf fl q port fa fp ev : Nat} {ins : Bool} (hf0 : ws[kf]? = some (fl, .inr (3, [.int (bI ins), .int (nI q), .int (nI port), .int (nI fa), .int (nI fp), .int (nI ev)]))) (hq : q < 256) (hport : port < 65536) (hev : ev ≤ 3) : RO l yX2_mayOpen cX2_mayOpen 1 (some .boolean) 0 0 [.ref fl] D cy ws (.int (bI (decide (q ≠ 6 ∨ ev = 2)))) := by
  refine ROz (by decide) (lv0 := [(0, .ref fl)]) rfl (Nat.le_of_ble_eq_true rfl) ?_
  intro p e s m args below meth c ls Q S hP hK hend hl
  have hx := S.1
  have hb := S.2.1
  have hown : s.vm.findClass RX2 = some m.cls := S.2.2.2.1
  have ht : ∀ w ∈ lw_g, w.before args s = true := fun w h => S.2.2.2.2 w (List.mem_cons_of_mem _ h)
  refine lv_aload_n hx hb dX2_mayOpen_0 rfl (lv_at hl 0 rfl) ?_
  refine va_get (ci := 3) (C := RX2) (T := TX2) (N := 6) hx hb ht iFX2 hown hK hP kf hf0 rfl 1 (by decide) (ht _ kw2_120) (fun _ h9 => h9) rfl dX2_mayOpen_1 ?_
  refine nv_bipush (k := 6) hx hb dX2_mayOpen_4 (by decide) ?_
  refine nv_icmp_ne (tgt := 17) hx hb dX2_mayOpen_6 (by decide) (by omega) (by omega) (fun h6 => ?_) (fun h6 => ?_)
  · skip
    refine nv_iconst (k := 1) hx hb dX2_mayOpen_17 rfl ?_
    refine lv_goto (tgt := 22) hx hb dX2_mayOpen_18 (by decide) ?_
    exact hend ((bI_t (decide_eq_true (by omega)))) dX2_mayOpen_22
  refine lv_aload_n hx hb dX2_mayOpen_9 rfl (lv_at hl 0 rfl) ?_
  refine va_get (ci := 3) (C := RX2) (T := TX2) (N := 6) hx hb ht iFX2 hown hK hP kf hf0 rfl 5 (by decide) (ht _ kw2_133) (fun _ h9 => h9) rfl dX2_mayOpen_10 ?_
  refine nv_iconst (k := 2) hx hb dX2_mayOpen_13 rfl ?_
  refine nv_icmp_ne (tgt := 21) hx hb dX2_mayOpen_14 (by decide) (by omega) (by omega) (fun h14 => ?_) (fun h14 => ?_)
  · skip
    refine nv_iconst (k := 0) hx hb dX2_mayOpen_21 rfl ?_
    exact hend ((bI_f (decide_eq_false (by omega)))) dX2_mayOpen_22
  refine nv_iconst (k := 1) hx hb dX2_mayOpen_17 rfl ?_
  refine lv_goto (tgt := 22) hx hb dX2_mayOpen_18 (by decide) ?_
  exact hend ((bI_t (decide_eq_true (by omega)))) dX2_mayOpen_22
theorem dX0_isOf_0 : decode cX0_isOf 0 = .ok (.aload_n 0, 1) := by decide +kernel
theorem dX0_isOf_1 : decode cX0_isOf 1 = .ok (.getfield 16, 3) := by decide +kernel
theorem dX0_isOf_4 : decode cX0_isOf 4 = .ok (.lload_n 1, 1) := by decide +kernel
theorem dX0_isOf_5 : decode cX0_isOf 5 = .ok (.lcmp, 1) := by decide +kernel
theorem dX0_isOf_6 : decode cX0_isOf 6 = .ok (.ifCond .ne 16, 3) := by decide +kernel
theorem dX0_isOf_9 : decode cX0_isOf 9 = .ok (.aload_n 0, 1) := by decide +kernel
theorem dX0_isOf_10 : decode cX0_isOf 10 = .ok (.getfield 20, 3) := by decide +kernel
theorem dX0_isOf_13 : decode cX0_isOf 13 = .ok (.lload_n 3, 1) := by decide +kernel
theorem dX0_isOf_14 : decode cX0_isOf 14 = .ok (.lcmp, 1) := by decide +kernel
theorem dX0_isOf_15 : decode cX0_isOf 15 = .ok (.ifCond .ne 7, 3) := by decide +kernel
theorem dX0_isOf_18 : decode cX0_isOf 18 = .ok (.iconst 1, 1) := by decide +kernel
theorem dX0_isOf_19 : decode cX0_isOf 19 = .ok (.goto 4, 3) := by decide +kernel
theorem dX0_isOf_22 : decode cX0_isOf 22 = .ok (.iconst 0, 1) := by decide +kernel
theorem dX0_isOf_23 : decode cX0_isOf 23 = .ok (.ireturn, 1) := by decide +kernel
theorem yv_X0_isOf : YV RX0 yX0_isOf cX0_isOf 5 (some .boolean) 2 := ⟨kw2_177, kw2_178, kw1_18, kw2_179, by decide +kernel⟩
set_option maxHeartbeats 4000000 in
set_option maxRecDepth 100000 in
theorem c_X0_isOf {l : Launch} {D : va_G} {cy : Nat → ClassId} {ws : va_W} {kbn bn pt ih il ip pn op : Nat} (hbn : ws[kbn]? = some (bn, .inr (1, [.int (nI pt), .long (lN ih), .long (lN il), .int (nI ip), .int (nI pn), .int (nI op)]))) (hih : ih < 2 ^ 64) (hil : il < 2 ^ 64) {hi lo : Nat} (hhi : hi < 2 ^ 64) (hlo : lo < 2 ^ 64) : RO l yX0_isOf cX0_isOf 5 (some .boolean) 0 0 [.ref bn, .long (lN (hi)), .long (lN (lo))] D cy ws (.int (bI (decide (ih = hi ∧ il = lo)))) := by
  refine ROz (by decide) (lv0 := [(0, .ref bn), (1, .long (lN (hi))), (3, .long (lN (lo)))]) rfl (Nat.le_of_ble_eq_true rfl) ?_
  intro p e s m args below meth c ls Q S hP hK hend hl
  have hx := S.1
  have hb := S.2.1
  have hown : s.vm.findClass RX0 = some m.cls := S.2.2.2.1
  have ht : ∀ w ∈ lw_g, w.before args s = true := fun w h => S.2.2.2.2 w (List.mem_cons_of_mem _ h)
  refine lv_aload_n hx hb dX0_isOf_0 rfl (lv_at hl 0 rfl) ?_
  refine va_get (ci := 1) (C := RX0) (T := TX0) (N := 6) hx hb ht iFX0 hown hK hP kbn hbn rfl 1 (by decide) (ht _ kw2_237) (fun _ h9 => h9) rfl dX0_isOf_1 ?_
  refine lv_lload_n hx hb dX0_isOf_4 rfl (lv_at hl 1 rfl) ?_
  refine nv_Lcmp_ne (tgt := 22) hx hb dX0_isOf_5 dX0_isOf_6 (by decide) (by omega) (by omega) (fun h5 => ?_) (fun h5 => ?_)
  · skip
    refine nv_iconst (k := 0) hx hb dX0_isOf_22 rfl ?_
    exact hend ((bI_f (decide_eq_false (by omega)))) dX0_isOf_23
  refine lv_aload_n hx hb dX0_isOf_9 rfl (lv_at hl 0 rfl) ?_
  refine va_get (ci := 1) (C := RX0) (T := TX0) (N := 6) hx hb ht iFX0 hown hK hP kbn hbn rfl 2 (by decide) (ht _ kw3_0) (fun _ h9 => h9) rfl dX0_isOf_10 ?_
  refine lv_lload_n hx hb dX0_isOf_13 rfl (lv_at hl 2 rfl) ?_
  refine nv_Lcmp_ne (tgt := 22) hx hb dX0_isOf_14 dX0_isOf_15 (by decide) (by omega) (by omega) (fun h14 => ?_) (fun h14 => ?_)
  · skip
    refine nv_iconst (k := 0) hx hb dX0_isOf_22 rfl ?_
    exact hend ((bI_f (decide_eq_false (by omega)))) dX0_isOf_23
  refine nv_iconst (k := 1) hx hb dX0_isOf_18 rfl ?_
  refine lv_goto (tgt := 23) hx hb dX0_isOf_19 (by decide) ?_
  exact hend ((bI_t (decide_eq_true (by omega)))) dX0_isOf_23
theorem dX10_firstPort_0 : decode cX10_firstPort 0 = .ok (.aload_n 0, 1) := by decide +kernel
theorem dX10_firstPort_1 : decode cX10_firstPort 1 = .ok (.getfield 80, 3) := by decide +kernel
theorem dX10_firstPort_4 : decode cX10_firstPort 4 = .ok (.iconst 1, 1) := by decide +kernel
theorem dX10_firstPort_5 : decode cX10_firstPort 5 = .ok (.if_icmp .ne 5, 3) := by decide +kernel
theorem dX10_firstPort_8 : decode cX10_firstPort 8 = .ok (.iconst 0, 1) := by decide +kernel
theorem dX10_firstPort_9 : decode cX10_firstPort 9 = .ok (.ireturn, 1) := by decide +kernel
theorem dX10_firstPort_10 : decode cX10_firstPort 10 = .ok (.aload_n 0, 1) := by decide +kernel
theorem dX10_firstPort_11 : decode cX10_firstPort 11 = .ok (.getfield 86, 3) := by decide +kernel
theorem dX10_firstPort_14 : decode cX10_firstPort 14 = .ok (.iconst 2, 1) := by decide +kernel
theorem dX10_firstPort_15 : decode cX10_firstPort 15 = .ok (.irem, 1) := by decide +kernel
theorem dX10_firstPort_16 : decode cX10_firstPort 16 = .ok (.ifCond .ne 7, 3) := by decide +kernel
theorem dX10_firstPort_19 : decode cX10_firstPort 19 = .ok (.iconst 1, 1) := by decide +kernel
theorem dX10_firstPort_20 : decode cX10_firstPort 20 = .ok (.goto 4, 3) := by decide +kernel
theorem dX10_firstPort_23 : decode cX10_firstPort 23 = .ok (.iconst 0, 1) := by decide +kernel
theorem dX10_firstPort_24 : decode cX10_firstPort 24 = .ok (.istore_n 1, 1) := by decide +kernel
theorem dX10_firstPort_25 : decode cX10_firstPort 25 = .ok (.aload_n 0, 1) := by decide +kernel
theorem dX10_firstPort_26 : decode cX10_firstPort 26 = .ok (.getfield 86, 3) := by decide +kernel
theorem dX10_firstPort_29 : decode cX10_firstPort 29 = .ok (.sipush 1024, 3) := by decide +kernel
theorem dX10_firstPort_32 : decode cX10_firstPort 32 = .ok (.if_icmp .ge 13, 3) := by decide +kernel
theorem dX10_firstPort_35 : decode cX10_firstPort 35 = .ok (.iload_n 1, 1) := by decide +kernel
theorem dX10_firstPort_36 : decode cX10_firstPort 36 = .ok (.ifCond .eq 7, 3) := by decide +kernel
theorem dX10_firstPort_39 : decode cX10_firstPort 39 = .ok (.iconst 2, 1) := by decide +kernel
theorem dX10_firstPort_40 : decode cX10_firstPort 40 = .ok (.goto 4, 3) := by decide +kernel
theorem dX10_firstPort_43 : decode cX10_firstPort 43 = .ok (.iconst 1, 1) := by decide +kernel
theorem dX10_firstPort_44 : decode cX10_firstPort 44 = .ok (.ireturn, 1) := by decide +kernel
theorem dX10_firstPort_45 : decode cX10_firstPort 45 = .ok (.iload_n 1, 1) := by decide +kernel
theorem dX10_firstPort_46 : decode cX10_firstPort 46 = .ok (.ifCond .eq 9, 3) := by decide +kernel
theorem dX10_firstPort_49 : decode cX10_firstPort 49 = .ok (.sipush 1024, 3) := by decide +kernel
theorem dX10_firstPort_52 : decode cX10_firstPort 52 = .ok (.goto 6, 3) := by decide +kernel
theorem dX10_firstPort_55 : decode cX10_firstPort 55 = .ok (.sipush 1025, 3) := by decide +kernel
theorem dX10_firstPort_58 : decode cX10_firstPort 58 = .ok (.ireturn, 1) := by decide +kernel
theorem yv_X10_firstPort : YS yX10_firstPort cX10_firstPort 2 (some .int) 1 := ⟨kw2_222, kw1_6, kw2_223, by decide +kernel⟩
set_option maxHeartbeats 4000000 in
set_option maxRecDepth 100000 in
theorem c_X10_firstPort {l : Launch} {D : va_G} {cy : Nat → ClassId} {ws : va_W} {kf fl q port fa fp ev : Nat} {ins : Bool} (hf0 : ws[kf]? = some (fl, .inr (3, [.int (bI ins), .int (nI q), .int (nI port), .int (nI fa), .int (nI fp), .int (nI ev)]))) (hq : q < 256) (hport : port < 65536) (hev : ev ≤ 3) : RO l yX10_firstPort cX10_firstPort 2 (some .int) 0 0 [.ref fl] D cy ws (.int (nI (tg_v0 q port))) := by
  refine ROi (by decide) (lv0 := [(0, .ref fl)]) rfl (Nat.le_of_ble_eq_true rfl) ?_
  intro p e s m args below meth c ls Q S hP hK hend hl
  have hx := S.1
  have hb := S.2.1
  have hown : s.vm.findClass RX10 = some m.cls := S.2.2.2.1
  have ht : ∀ w ∈ lw_g, w.before args s = true := fun w h => S.2.2.2.2 w (List.mem_cons_of_mem _ h)
  refine lv_aload_n hx hb dX10_firstPort_0 rfl (lv_at hl 0 rfl) ?_
  refine va_get (ci := 3) (C := RX2) (T := TX2) (N := 6) hx hb ht iFX2 hown hK hP kf hf0 rfl 1 (by decide) (ht _ kw2_122) (fun _ h9 => h9) rfl dX10_firstPort_1 ?_
  refine nv_iconst (k := 1) hx hb dX10_firstPort_4 rfl ?_
  refine nv_icmp_ne (tgt := 10) hx hb dX10_firstPort_5 (by decide) (by omega) (by omega) (fun h5 => ?_) (fun h5 => ?_)
  · skip
    refine lv_aload_n hx hb dX10_firstPort_10 rfl (lv_at hl 0 rfl) ?_
    refine va_get (ci := 3) (C := RX2) (T := TX2) (N := 6) hx hb ht iFX2 hown hK hP kf hf0 rfl 2 (by decide) (ht _ kw2_125) (fun _ h9 => h9) rfl dX10_firstPort_11 ?_
    refine nv_iconst (k := 2) hx hb dX10_firstPort_14 rfl ?_
    refine nv_irem hx hb (by omega) (by omega) (by omega) dX10_firstPort_15 ?_
    refine nv_if_ne (tgt := 23) hx hb dX10_firstPort_16 (by decide) (by omega) (fun h16 => ?_) (fun h16 => ?_)
    · skip
      refine nv_iconst (k := 0) hx hb dX10_firstPort_23 rfl ?_
      refine lv_istore_n (lv' := [(1, .int (nI 0)), (0, .ref fl)]) hx hb dX10_firstPort_24 rfl hl (by decide) rfl (fun ls hl => ?_)
      refine lv_aload_n hx hb dX10_firstPort_25 rfl (lv_at hl 1 rfl) ?_
      refine va_get (ci := 3) (C := RX2) (T := TX2) (N := 6) hx hb ht iFX2 hown hK hP kf hf0 rfl 2 (by decide) (ht _ kw2_125) (fun _ h9 => h9) rfl dX10_firstPort_26 ?_
      refine nv_sipush (k := 1024) hx hb dX10_firstPort_29 (by decide) ?_
      refine nv_icmp_ge (tgt := 45) hx hb dX10_firstPort_32 (by decide) (by omega) (by omega) (fun h32 => ?_) (fun h32 => ?_)
      · skip
        refine lv_iload_n hx hb dX10_firstPort_45 rfl (lv_at hl 0 rfl) ?_
        refine nv_if_eq (tgt := 55) hx hb dX10_firstPort_46 (by decide) (by omega) (fun _ => ?_) (fun h => absurd h (by decide))
        refine nv_sipush (k := 1025) hx hb dX10_firstPort_55 (by decide) ?_
        exact hend ((congrArg nI (by unfold tg_v0; (repeat' split) <;> omega))) dX10_firstPort_58
      refine lv_iload_n hx hb dX10_firstPort_35 rfl (lv_at hl 0 rfl) ?_
      refine nv_if_eq (tgt := 43) hx hb dX10_firstPort_36 (by decide) (by omega) (fun _ => ?_) (fun h => absurd h (by decide))
      refine nv_iconst (k := 1) hx hb dX10_firstPort_43 rfl ?_
      exact hend ((congrArg nI (by unfold tg_v0; (repeat' split) <;> omega))) dX10_firstPort_44
    refine nv_iconst (k := 1) hx hb dX10_firstPort_19 rfl ?_
    refine lv_goto (tgt := 24) hx hb dX10_firstPort_20 (by decide) ?_
    refine lv_istore_n (lv' := [(1, .int (nI 1)), (0, .ref fl)]) hx hb dX10_firstPort_24 rfl hl (by decide) rfl (fun ls hl => ?_)
    refine lv_aload_n hx hb dX10_firstPort_25 rfl (lv_at hl 1 rfl) ?_
    refine va_get (ci := 3) (C := RX2) (T := TX2) (N := 6) hx hb ht iFX2 hown hK hP kf hf0 rfl 2 (by decide) (ht _ kw2_125) (fun _ h9 => h9) rfl dX10_firstPort_26 ?_
    refine nv_sipush (k := 1024) hx hb dX10_firstPort_29 (by decide) ?_
    refine nv_icmp_ge (tgt := 45) hx hb dX10_firstPort_32 (by decide) (by omega) (by omega) (fun h32 => ?_) (fun h32 => ?_)
    · skip
      refine lv_iload_n hx hb dX10_firstPort_45 rfl (lv_at hl 0 rfl) ?_
      refine nv_if_eq (tgt := 55) hx hb dX10_firstPort_46 (by decide) (by omega) (fun h => absurd h (by decide)) (fun _ => ?_)
      refine nv_sipush (k := 1024) hx hb dX10_firstPort_49 (by decide) ?_
      refine lv_goto (tgt := 58) hx hb dX10_firstPort_52 (by decide) ?_
      exact hend ((congrArg nI (by unfold tg_v0; (repeat' split) <;> omega))) dX10_firstPort_58
    refine lv_iload_n hx hb dX10_firstPort_35 rfl (lv_at hl 0 rfl) ?_
    refine nv_if_eq (tgt := 43) hx hb dX10_firstPort_36 (by decide) (by omega) (fun h => absurd h (by decide)) (fun _ => ?_)
    refine nv_iconst (k := 2) hx hb dX10_firstPort_39 rfl ?_
    refine lv_goto (tgt := 44) hx hb dX10_firstPort_40 (by decide) ?_
    exact hend ((congrArg nI (by unfold tg_v0; (repeat' split) <;> omega))) dX10_firstPort_44
  refine nv_iconst (k := 0) hx hb dX10_firstPort_8 rfl ?_
  exact hend ((congrArg nI (by unfold tg_v0; (repeat' split) <;> omega))) dX10_firstPort_9
