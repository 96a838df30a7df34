theorem dX12_with_0 : decode cX12_with 0 = .ok (.bipush 56, 2) := by decide +kernel
theorem dX12_with_2 : decode cX12_with 2 = .ok (.bipush 8, 2) := by decide +kernel
theorem dX12_with_4 : decode cX12_with 4 = .ok (.iload_n 2, 1) := by decide +kernel
theorem dX12_with_5 : decode cX12_with 5 = .ok (.bipush 8, 2) := by decide +kernel
theorem dX12_with_7 : decode cX12_with 7 = .ok (.irem, 1) := by decide +kernel
theorem dX12_with_8 : decode cX12_with 8 = .ok (.imul, 1) := by decide +kernel
theorem dX12_with_9 : decode cX12_with 9 = .ok (.isub, 1) := by decide +kernel
theorem dX12_with_10 : decode cX12_with 10 = .ok (.istore 4, 2) := by decide +kernel
theorem dX12_with_12 : decode cX12_with 12 = .ok (.lload_n 0, 1) := by decide +kernel
theorem dX12_with_13 : decode cX12_with 13 = .ok (.ldc2_w 67, 3) := by decide +kernel
theorem dX12_with_16 : decode cX12_with 16 = .ok (.iload 4, 2) := by decide +kernel
theorem dX12_with_18 : decode cX12_with 18 = .ok (.lshl, 1) := by decide +kernel
theorem dX12_with_19 : decode cX12_with 19 = .ok (.ldc2_w 69, 3) := by decide +kernel
theorem dX12_with_22 : decode cX12_with 22 = .ok (.lxor, 1) := by decide +kernel
theorem dX12_with_23 : decode cX12_with 23 = .ok (.land, 1) := by decide +kernel
theorem dX12_with_24 : decode cX12_with 24 = .ok (.iload_n 3, 1) := by decide +kernel
theorem dX12_with_25 : decode cX12_with 25 = .ok (.i2l, 1) := by decide +kernel
theorem dX12_with_26 : decode cX12_with 26 = .ok (.iload 4, 2) := by decide +kernel
theorem dX12_with_28 : decode cX12_with 28 = .ok (.lshl, 1) := by decide +kernel
theorem dX12_with_29 : decode cX12_with 29 = .ok (.lor, 1) := by decide +kernel
theorem dX12_with_30 : decode cX12_with 30 = .ok (.lreturn, 1) := by decide +kernel
theorem yv_X12_with : YS yX12_with cX12_with 5 (some .long) 3 := ⟨kw4_222, kw1_10, kw4_223, by decide +kernel⟩
set_option maxHeartbeats 4000000 in
set_option maxRecDepth 100000 in
theorem c_X12_with {l : Launch} {D : va_G} {cy : Nat → ClassId} {ws : va_W} {a i v : Nat} (ha : a < 2 ^ 64) (hi : i < 16) (hv : v < 256) : RO l yX12_with cX12_with 5 (some .long) 0 0 [.long (lN (a)), .int (nI i), .int (nI v)] D cy ws (.long (lN (tg_with a (56 - 8 * (i % 8)) v))) := by
  refine ROl (by decide) (lv0 := [(0, .long (lN (a))), (2, .int (nI i)), (3, .int (nI v))]) rfl (Nat.le_of_ble_eq_true rfl) ?_
  intro p e s m args below meth c ls Q S hP hK hend hl
  have hx := S.1
  have hb := S.2.1
  have hown : s.vm.findClass RX12 = some m.cls := S.2.2.2.1
  have ht : ∀ w ∈ lw_g, w.before args s = true := fun w h => S.2.2.2.2 w (List.mem_cons_of_mem _ h)
  refine nv_bipush (k := 56) hx hb dX12_with_0 (by decide) ?_
  refine nv_bipush (k := 8) hx hb dX12_with_2 (by decide) ?_
  refine lv_iload_n hx hb dX12_with_4 rfl (lv_at hl 1 rfl) ?_
  refine nv_bipush (k := 8) hx hb dX12_with_5 (by decide) ?_
  refine nv_irem hx hb (by omega) (by omega) (by omega) dX12_with_7 ?_
  refine nv_imul hx hb dX12_with_8 ?_
  refine nv_isub hx hb (by omega) dX12_with_9 ?_
  refine lv_istore (lv' := [(4, .int (nI (56 - (8 * (i % 8))))), (0, .long (lN (a))), (2, .int (nI i)), (3, .int (nI v))]) hx hb dX12_with_10 hl (by decide) rfl (fun ls hl => ?_)
  refine lv_lload_n hx hb dX12_with_12 rfl (lv_at hl 1 rfl) ?_
  refine nv_ldc2 (k := 255) hx hb hown (ht _ kw4_224) (by decide) dX12_with_13 ?_
  refine lv_iload hx hb dX12_with_16 (lv_at hl 0 rfl) ?_
  refine nv_lshl hx hb (by omega) dX12_with_18 ?_
  refine lv_ldc2 hx hb hown (ht _ kw4_200) dX12_with_19 ?_
  refine lv_lxor hx hb dX12_with_22 ?_
  refine lv_land hx hb dX12_with_23 ?_
  refine lv_iload_n hx hb dX12_with_24 rfl (lv_at hl 3 rfl) ?_
  refine nv_i2l hx hb (by omega) dX12_with_25 ?_
  refine lv_iload hx hb dX12_with_26 (lv_at hl 0 rfl) ?_
  refine nv_lshl hx hb (by omega) dX12_with_28 ?_
  refine lv_lor hx hb dX12_with_29 ?_
  exact hend ((with_eq (by omega) ha hv)) dX12_with_30
theorem dX12_high_0 : decode cX12_high 0 = .ok (.aload_n 0, 1) := by decide +kernel
theorem dX12_high_1 : decode cX12_high 1 = .ok (.getfield 71, 3) := by decide +kernel
theorem dX12_high_4 : decode cX12_high 4 = .ok (.lstore_n 2, 1) := by decide +kernel
theorem dX12_high_5 : decode cX12_high 5 = .ok (.iconst 0, 1) := by decide +kernel
theorem dX12_high_6 : decode cX12_high 6 = .ok (.istore 4, 2) := by decide +kernel
theorem dX12_high_8 : decode cX12_high 8 = .ok (.iload 4, 2) := by decide +kernel
theorem dX12_high_10 : decode cX12_high 10 = .ok (.iconst 4, 1) := by decide +kernel
theorem dX12_high_11 : decode cX12_high 11 = .ok (.if_icmp .ge 56, 3) := by decide +kernel
theorem dX12_high_14 : decode cX12_high 14 = .ok (.aload_n 0, 1) := by decide +kernel
theorem dX12_high_15 : decode cX12_high 15 = .ok (.getfield 64, 3) := by decide +kernel
theorem dX12_high_18 : decode cX12_high 18 = .ok (.ifCond .le 49, 3) := by decide +kernel
theorem dX12_high_21 : decode cX12_high 21 = .ok (.aload_n 0, 1) := by decide +kernel
theorem dX12_high_22 : decode cX12_high 22 = .ok (.iload 4, 2) := by decide +kernel
theorem dX12_high_24 : decode cX12_high 24 = .ok (.invokevirtual 97, 3) := by decide +kernel
theorem dX12_high_27 : decode cX12_high 27 = .ok (.istore 5, 2) := by decide +kernel
theorem dX12_high_29 : decode cX12_high 29 = .ok (.iload 5, 2) := by decide +kernel
theorem dX12_high_31 : decode cX12_high 31 = .ok (.bipush 8, 2) := by decide +kernel
theorem dX12_high_33 : decode cX12_high 33 = .ok (.if_icmp .ge 26, 3) := by decide +kernel
theorem dX12_high_36 : decode cX12_high 36 = .ok (.lload_n 2, 1) := by decide +kernel
theorem dX12_high_37 : decode cX12_high 37 = .ok (.iload 5, 2) := by decide +kernel
theorem dX12_high_39 : decode cX12_high 39 = .ok (.iload_n 1, 1) := by decide +kernel
theorem dX12_high_40 : decode cX12_high 40 = .ok (.bipush 24, 2) := by decide +kernel
theorem dX12_high_42 : decode cX12_high 42 = .ok (.bipush 8, 2) := by decide +kernel
theorem dX12_high_44 : decode cX12_high 44 = .ok (.iload 4, 2) := by decide +kernel
theorem dX12_high_46 : decode cX12_high 46 = .ok (.imul, 1) := by decide +kernel
theorem dX12_high_47 : decode cX12_high 47 = .ok (.isub, 1) := by decide +kernel
theorem dX12_high_48 : decode cX12_high 48 = .ok (.ishr, 1) := by decide +kernel
theorem dX12_high_49 : decode cX12_high 49 = .ok (.sipush 255, 3) := by decide +kernel
theorem dX12_high_52 : decode cX12_high 52 = .ok (.iand, 1) := by decide +kernel
theorem dX12_high_53 : decode cX12_high 53 = .ok (.invokestatic 100, 3) := by decide +kernel
theorem dX12_high_56 : decode cX12_high 56 = .ok (.goto 4, 3) := by decide +kernel
theorem dX12_high_59 : decode cX12_high 59 = .ok (.lload_n 2, 1) := by decide +kernel
theorem dX12_high_60 : decode cX12_high 60 = .ok (.lstore_n 2, 1) := by decide +kernel
theorem dX12_high_61 : decode cX12_high 61 = .ok (.iinc 4 1, 3) := by decide +kernel
theorem dX12_high_64 : decode cX12_high 64 = .ok (.goto (-56), 3) := by decide +kernel
theorem dX12_high_67 : decode cX12_high 67 = .ok (.aload_n 0, 1) := by decide +kernel
theorem dX12_high_68 : decode cX12_high 68 = .ok (.getfield 64, 3) := by decide +kernel
theorem dX12_high_71 : decode cX12_high 71 = .ok (.ifCond .le 7, 3) := by decide +kernel
theorem dX12_high_74 : decode cX12_high 74 = .ok (.lload_n 2, 1) := by decide +kernel
theorem dX12_high_75 : decode cX12_high 75 = .ok (.goto 4, 3) := by decide +kernel
theorem dX12_high_78 : decode cX12_high 78 = .ok (.lconst 0, 1) := by decide +kernel
theorem dX12_high_79 : decode cX12_high 79 = .ok (.lreturn, 1) := by decide +kernel
theorem yv_X12_high : YV RX12 yX12_high cX12_high 6 (some .long) 1 := ⟨kw4_214, kw4_215, kw1_10, kw4_216, by decide +kernel⟩
set_option maxHeartbeats 4000000 in
set_option maxRecDepth 100000 in
theorem c_X12_high {l : Launch} {D : va_G} {cy : Nat → ClassId} {ws : va_W} {km mo : Nat} {fs : List Value} (hm0 : ws[km]? = some (mo, .inr (9, fs))) {bits : Nat} {F : Nat} (hf_bits : fs[6]? = some (.int (nI bits))) (hf_prefixHigh : fs[7]? = some (.long (lN (F)))) {G : Nat} (hsi : SI bits F G) {x : Nat} (hx0 : x < 2 ^ 32) : RO l yX12_high cX12_high 6 (some .long) 1 24 [.ref mo, .int (nI x)] D cy ws (.long (lN (tg_eh bits F x))) := by
  refine ROl (by decide) (lv0 := [(0, .ref mo), (1, .int (nI x))]) rfl (Nat.le_of_ble_eq_true rfl) ?_
  intro p e s m args below meth c ls Q S hP hK hend hl
  have hx := S.1
  have hb := S.2.1
  have hown : s.vm.findClass RX12 = some m.cls := S.2.2.2.1
  have ht : ∀ w ∈ lw_g, w.before args s = true := fun w h => S.2.2.2.2 w (List.mem_cons_of_mem _ h)
  have hbits := hsi.b
  have hF := hsi.F
  have hG := hsi.G
  have hsi0 : bits = 0 → F = 0 ∧ G = 0 := by rcases hsi with h | h | h <;> omega
  refine lv_aload_n hx hb dX12_high_0 rfl (lv_at hl 0 rfl) ?_
  refine va_get (ci := 9) (C := RX12) (T := TX12) (N := 28) hx hb ht iFX12 hown hK hP km hm0 rfl 7 (by decide) (ht _ kw4_117) (fun _ h9 => h9) hf_prefixHigh dX12_high_1 ?_
  refine lv_lstore_n (lv' := [(2, .long (lN (F))), (0, .ref mo), (1, .int (nI x))]) hx hb dX12_high_4 rfl hl (by decide) rfl (fun ls hl => ?_)
  refine nv_iconst (k := 0) hx hb dX12_high_5 rfl ?_
  refine lv_istore (lv' := [(4, .int (nI 0)), (2, .long (lN (F))), (0, .ref mo), (1, .int (nI x))]) hx hb dX12_high_6 hl (by decide) rfl (fun ls hl => ?_)
  have L8 : ∀ (fu : Nat) (i : Nat) (v : Nat), 4 - i < fu → i ≤ 4 → v = tg_hh bits F x i → ∀ ls : Array Slot, lv_has ls 6 [(0, .ref mo), (1, .int (nI x)), (2, .long (lN (v))), (4, .int (nI i))] → W p l e (rmo 1 24) s m args below meth c s.heap [] 0 0 Q (F0 m 8 ls []) := by
    intro fu
    induction fu with
    | zero => intro i v h9; omega
    | succ fu ih =>
      intro i v hfu hi9 hv ls hl
      have hvl := tg_hh_lt (bits := bits) (x := x) (show F < 2 ^ 64 by omega) i
      have hp9 := tg_pl_lt (bits := bits) (i := i)
      refine lv_iload hx hb dX12_high_8 (lv_at hl 3 rfl) ?_
      refine nv_iconst (k := 4) hx hb dX12_high_10 rfl ?_
      refine nv_icmp_ge (tgt := 67) hx hb dX12_high_11 (by decide) (by omega) (by omega) (fun h11 => ?_) (fun h11 => ?_)
      · skip
        refine lv_aload_n hx hb dX12_high_67 rfl (lv_at hl 0 rfl) ?_
        refine va_get (ci := 9) (C := RX12) (T := TX12) (N := 28) hx hb ht iFX12 hown hK hP km hm0 rfl 6 (by decide) (ht _ kw4_116) (fun _ h9 => h9) hf_bits dX12_high_68 ?_
        refine nv_if_le (tgt := 78) hx hb dX12_high_71 (by decide) (by omega) (fun h71 => ?_) (fun h71 => ?_)
        · skip
          refine lv_lconst (v := lN 0) hx hb dX12_high_78 (by decide) ?_
          exact hend ((congrArg lN (by rw [tg_eh, if_pos (by omega)]; omega))) dX12_high_79
        refine lv_lload_n hx hb dX12_high_74 rfl (lv_at hl 2 rfl) ?_
        refine lv_goto (tgt := 79) hx hb dX12_high_75 (by decide) ?_
        exact hend ((congrArg lN (by rw [hv, show i = 4 by omega, tg_hh_4 hsi (by omega) hx0]))) dX12_high_79
      refine lv_aload_n hx hb dX12_high_14 rfl (lv_at hl 0 rfl) ?_
      refine va_get (ci := 9) (C := RX12) (T := TX12) (N := 28) hx hb ht iFX12 hown hK hP km hm0 rfl 6 (by decide) (ht _ kw4_116) (fun _ h9 => h9) hf_bits dX12_high_15 ?_
      refine nv_if_le (tgt := 67) hx hb dX12_high_18 (by decide) (by omega) (fun h18 => ?_) (fun h18 => ?_)
      · skip
        refine lv_aload_n hx hb dX12_high_67 rfl (lv_at hl 0 rfl) ?_
        refine va_get (ci := 9) (C := RX12) (T := TX12) (N := 28) hx hb ht iFX12 hown hK hP km hm0 rfl 6 (by decide) (ht _ kw4_116) (fun _ h9 => h9) hf_bits dX12_high_68 ?_
        refine nv_if_le (tgt := 78) hx hb dX12_high_71 (by decide) (by omega) (fun h71 => ?_) (fun h71 => ?_)
        · skip
          refine lv_lconst (v := lN 0) hx hb dX12_high_78 (by decide) ?_
          exact hend ((congrArg lN (by rw [tg_eh, if_pos (by omega)]; omega))) dX12_high_79
        refine lv_lload_n hx hb dX12_high_74 rfl (lv_at hl 2 rfl) ?_
        refine lv_goto (tgt := 79) hx hb dX12_high_75 (by decide) ?_
        exact hend ((congrArg lN (by rw [hv, show i = 4 by omega, tg_hh_4 hsi (by omega) hx0]))) dX12_high_79
      refine lv_aload_n hx hb dX12_high_21 rfl (lv_at hl 0 rfl) ?_
      refine lv_iload hx hb dX12_high_22 (lv_at hl 3 rfl) ?_
      have hb7 : bits = 32 ∨ bits = 40 ∨ bits = 48 ∨ bits = 56 ∨ bits = 64 ∨ bits = 96 := by omega
      refine ro_V S (c_X12_placeOf hm0 hf_bits (i := i) (by omega) (by omega)) kw4_217 yv_X12_placeOf ⟨Nat.le_of_ble_eq_true rfl, Nat.le_of_ble_eq_true rfl⟩ hK hP (va_recv hK hP (ci := 9) (q0 := km) rfl hm0) rfl hl.1 rfl (Nat.le_of_ble_eq_true rfl) dX12_high_24 ⟨Nat.zero_le _, Nat.zero_le _⟩ ?_
      have hq24 := tg_pl_lt (i := i) (by omega) hb7
      refine lv_istore (lv' := [(5, .int (nI (tg_pl bits i))), (0, .ref mo), (1, .int (nI x)), (2, .long (lN (v))), (4, .int (nI i))]) hx hb dX12_high_27 hl (by decide) rfl (fun ls hl => ?_)
      refine lv_iload hx hb dX12_high_29 (lv_at hl 0 rfl) ?_
      refine nv_bipush (k := 8) hx hb dX12_high_31 (by decide) ?_
      refine nv_icmp_ge (tgt := 59) hx hb dX12_high_33 (by decide) (by omega) (by omega) (fun h33 => ?_) (fun h33 => ?_)
      · skip
        refine lv_lload_n hx hb dX12_high_59 rfl (lv_at hl 3 rfl) ?_
        refine lv_lstore_n (lv' := [(2, .long (lN (v))), (5, .int (nI (tg_pl bits i))), (0, .ref mo), (1, .int (nI x)), (4, .int (nI i))]) hx hb dX12_high_60 rfl hl (by decide) rfl (fun ls hl => ?_)
        refine lv_iinc (v := (nI (i + 1))) (lv' := [(4, .int (nI (i + 1))), (2, .long (lN (v))), (5, .int (nI (tg_pl bits i))), (0, .ref mo), (1, .int (nI x))]) hx hb dX12_high_61 hl (k := 4) rfl (nI_inc _ _) (by decide) rfl (fun ls hl => ?_)
        refine lv_goto (tgt := 8) hx hb dX12_high_64 (by decide) ?_
        exact ih (i + 1) (v) (by omega) (by omega) (by simp only [tg_hh]; first | (rw [if_pos (by omega), ← hv] <;> assumption) | (rw [if_neg (by omega), ← hv] <;> assumption)) ls (lv_sub hl [3, 4, 1, 0] rfl)
      refine lv_lload_n hx hb dX12_high_36 rfl (lv_at hl 3 rfl) ?_
      refine lv_iload hx hb dX12_high_37 (lv_at hl 0 rfl) ?_
      refine lv_iload_n hx hb dX12_high_39 rfl (lv_at hl 2 rfl) ?_
      refine nv_bipush (k := 24) hx hb dX12_high_40 (by decide) ?_
      refine nv_bipush (k := 8) hx hb dX12_high_42 (by decide) ?_
      refine lv_iload hx hb dX12_high_44 (lv_at hl 4 rfl) ?_
      refine nv_imul hx hb dX12_high_46 ?_
      refine nv_isub hx hb (by omega) dX12_high_47 ?_
      refine lv_ishr hx hb dX12_high_48 ?_
      refine nv_sipush (k := 255) hx hb dX12_high_49 (by decide) ?_
      refine lv_iand hx hb dX12_high_52 ?_
      rw [by8i (by omega) (by omega)]
      refine ro_S S (c_X12_with (a := v) (i := tg_pl bits i) (v := x / 2 ^ (24 - 8 * i) % 256) (by omega) (by omega) (by omega)) kw4_221 yv_X12_with ⟨Nat.le_of_ble_eq_true rfl, Nat.le_of_ble_eq_true rfl⟩ hK hP rfl hl.1 rfl (Nat.le_of_ble_eq_true rfl) dX12_high_53 ⟨Nat.zero_le _, Nat.zero_le _⟩ ?_
      refine lv_goto (tgt := 60) hx hb dX12_high_56 (by decide) ?_
      refine nv_topL (fun y_1 ey_1 => ?_)
      refine lv_lstore_n (lv' := [(2, .long (lN (y_1))), (5, .int (nI (tg_pl bits i))), (0, .ref mo), (1, .int (nI x)), (4, .int (nI i))]) hx hb dX12_high_60 rfl hl (by decide) rfl (fun ls hl => ?_)
      refine lv_iinc (v := (nI (i + 1))) (lv' := [(4, .int (nI (i + 1))), (2, .long (lN (y_1))), (5, .int (nI (tg_pl bits i))), (0, .ref mo), (1, .int (nI x))]) hx hb dX12_high_61 hl (k := 4) rfl (nI_inc _ _) (by decide) rfl (fun ls hl => ?_)
      refine lv_goto (tgt := 8) hx hb dX12_high_64 (by decide) ?_
      exact ih (i + 1) (y_1) (by omega) (by omega) (by simp only [tg_hh]; first | (rw [if_pos (by omega), ← hv] <;> assumption) | (rw [if_neg (by omega), ← hv] <;> assumption)) ls (lv_sub hl [3, 4, 1, 0] rfl)
  exact L8 (5) 0 F (by omega) (by omega) rfl ls (lv_sub hl [2, 3, 1, 0] rfl)
theorem dX12_low_0 : decode cX12_low 0 = .ok (.aload_n 0, 1) := by decide +kernel
theorem dX12_low_1 : decode cX12_low 1 = .ok (.getfield 77, 3) := by decide +kernel
theorem dX12_low_4 : decode cX12_low 4 = .ok (.lstore_n 2, 1) := by decide +kernel
theorem dX12_low_5 : decode cX12_low 5 = .ok (.iconst 0, 1) := by decide +kernel
theorem dX12_low_6 : decode cX12_low 6 = .ok (.istore 4, 2) := by decide +kernel
theorem dX12_low_8 : decode cX12_low 8 = .ok (.iload 4, 2) := by decide +kernel
theorem dX12_low_10 : decode cX12_low 10 = .ok (.iconst 4, 1) := by decide +kernel
theorem dX12_low_11 : decode cX12_low 11 = .ok (.if_icmp .ge 56, 3) := by decide +kernel
theorem dX12_low_14 : decode cX12_low 14 = .ok (.aload_n 0, 1) := by decide +kernel
theorem dX12_low_15 : decode cX12_low 15 = .ok (.getfield 64, 3) := by decide +kernel
theorem dX12_low_18 : decode cX12_low 18 = .ok (.ifCond .le 49, 3) := by decide +kernel
theorem dX12_low_21 : decode cX12_low 21 = .ok (.aload_n 0, 1) := by decide +kernel
theorem dX12_low_22 : decode cX12_low 22 = .ok (.iload 4, 2) := by decide +kernel
theorem dX12_low_24 : decode cX12_low 24 = .ok (.invokevirtual 97, 3) := by decide +kernel
theorem dX12_low_27 : decode cX12_low 27 = .ok (.istore 5, 2) := by decide +kernel
theorem dX12_low_29 : decode cX12_low 29 = .ok (.iload 5, 2) := by decide +kernel
theorem dX12_low_31 : decode cX12_low 31 = .ok (.bipush 8, 2) := by decide +kernel
theorem dX12_low_33 : decode cX12_low 33 = .ok (.if_icmp .lt 26, 3) := by decide +kernel
theorem dX12_low_36 : decode cX12_low 36 = .ok (.lload_n 2, 1) := by decide +kernel
theorem dX12_low_37 : decode cX12_low 37 = .ok (.iload 5, 2) := by decide +kernel
theorem dX12_low_39 : decode cX12_low 39 = .ok (.iload_n 1, 1) := by decide +kernel
theorem dX12_low_40 : decode cX12_low 40 = .ok (.bipush 24, 2) := by decide +kernel
theorem dX12_low_42 : decode cX12_low 42 = .ok (.bipush 8, 2) := by decide +kernel
theorem dX12_low_44 : decode cX12_low 44 = .ok (.iload 4, 2) := by decide +kernel
theorem dX12_low_46 : decode cX12_low 46 = .ok (.imul, 1) := by decide +kernel
theorem dX12_low_47 : decode cX12_low 47 = .ok (.isub, 1) := by decide +kernel
theorem dX12_low_48 : decode cX12_low 48 = .ok (.ishr, 1) := by decide +kernel
theorem dX12_low_49 : decode cX12_low 49 = .ok (.sipush 255, 3) := by decide +kernel
theorem dX12_low_52 : decode cX12_low 52 = .ok (.iand, 1) := by decide +kernel
theorem dX12_low_53 : decode cX12_low 53 = .ok (.invokestatic 100, 3) := by decide +kernel
theorem dX12_low_56 : decode cX12_low 56 = .ok (.goto 4, 3) := by decide +kernel
theorem dX12_low_59 : decode cX12_low 59 = .ok (.lload_n 2, 1) := by decide +kernel
theorem dX12_low_60 : decode cX12_low 60 = .ok (.lstore_n 2, 1) := by decide +kernel
theorem dX12_low_61 : decode cX12_low 61 = .ok (.iinc 4 1, 3) := by decide +kernel
theorem dX12_low_64 : decode cX12_low 64 = .ok (.goto (-56), 3) := by decide +kernel
theorem dX12_low_67 : decode cX12_low 67 = .ok (.aload_n 0, 1) := by decide +kernel
theorem dX12_low_68 : decode cX12_low 68 = .ok (.getfield 64, 3) := by decide +kernel
theorem dX12_low_71 : decode cX12_low 71 = .ok (.ifCond .le 7, 3) := by decide +kernel
theorem dX12_low_74 : decode cX12_low 74 = .ok (.lload_n 2, 1) := by decide +kernel
theorem dX12_low_75 : decode cX12_low 75 = .ok (.goto 4, 3) := by decide +kernel
theorem dX12_low_78 : decode cX12_low 78 = .ok (.lconst 0, 1) := by decide +kernel
theorem dX12_low_79 : decode cX12_low 79 = .ok (.lreturn, 1) := by decide +kernel
theorem yv_X12_low : YV RX12 yX12_low cX12_low 6 (some .long) 1 := ⟨kw4_226, kw4_227, kw1_10, kw4_228, by decide +kernel⟩
set_option maxHeartbeats 4000000 in
set_option maxRecDepth 100000 in
theorem c_X12_low {l : Launch} {D : va_G} {cy : Nat → ClassId} {ws : va_W} {km mo : Nat} {fs : List Value} (hm0 : ws[km]? = some (mo, .inr (9, fs))) {bits : Nat} {G : Nat} (hf_bits : fs[6]? = some (.int (nI bits))) (hf_prefixLow : fs[8]? = some (.long (lN (G)))) {F : Nat} (hsi : SI bits F G) {x : Nat} (hx0 : x < 2 ^ 32) : RO l yX12_low cX12_low 6 (some .long) 1 24 [.ref mo, .int (nI x)] D cy ws (.long (lN (tg_el bits G x))) := by
  refine ROl (by decide) (lv0 := [(0, .ref mo), (1, .int (nI x))]) rfl (Nat.le_of_ble_eq_true rfl) ?_
  intro p e s m args below meth c ls Q S hP hK hend hl
  have hx := S.1
  have hb := S.2.1
  have hown : s.vm.findClass RX12 = some m.cls := S.2.2.2.1
  have ht : ∀ w ∈ lw_g, w.before args s = true := fun w h => S.2.2.2.2 w (List.mem_cons_of_mem _ h)
  have hbits := hsi.b
  have hF := hsi.F
  have hG := hsi.G
  have hsi0 : bits = 0 → F = 0 ∧ G = 0 := by rcases hsi with h | h | h <;> omega
  refine lv_aload_n hx hb dX12_low_0 rfl (lv_at hl 0 rfl) ?_
  refine va_get (ci := 9) (C := RX12) (T := TX12) (N := 28) hx hb ht iFX12 hown hK hP km hm0 rfl 8 (by decide) (ht _ kw4_118) (fun _ h9 => h9) hf_prefixLow dX12_low_1 ?_
  refine lv_lstore_n (lv' := [(2, .long (lN (G))), (0, .ref mo), (1, .int (nI x))]) hx hb dX12_low_4 rfl hl (by decide) rfl (fun ls hl => ?_)
  refine nv_iconst (k := 0) hx hb dX12_low_5 rfl ?_
  refine lv_istore (lv' := [(4, .int (nI 0)), (2, .long (lN (G))), (0, .ref mo), (1, .int (nI x))]) hx hb dX12_low_6 hl (by decide) rfl (fun ls hl => ?_)
  have L8 : ∀ (fu : Nat) (i : Nat) (v : Nat), 4 - i < fu → i ≤ 4 → v = tg_ll bits G x i → ∀ ls : Array Slot, lv_has ls 6 [(0, .ref mo), (1, .int (nI x)), (2, .long (lN (v))), (4, .int (nI i))] → W p l e (rmo 1 24) s m args below meth c s.heap [] 0 0 Q (F0 m 8 ls []) := by
    intro fu
    induction fu with
    | zero => intro i v h9; omega
    | succ fu ih =>
      intro i v hfu hi9 hv ls hl
      have hvl := tg_ll_lt (bits := bits) (x := x) (show G < 2 ^ 64 by omega) i
      have hp9 := tg_pl_lt (bits := bits) (i := i)
      refine lv_iload hx hb dX12_low_8 (lv_at hl 3 rfl) ?_
      refine nv_iconst (k := 4) hx hb dX12_low_10 rfl ?_
      refine nv_icmp_ge (tgt := 67) hx hb dX12_low_11 (by decide) (by omega) (by omega) (fun h11 => ?_) (fun h11 => ?_)
      · skip
        refine lv_aload_n hx hb dX12_low_67 rfl (lv_at hl 0 rfl) ?_
        refine va_get (ci := 9) (C := RX12) (T := TX12) (N := 28) hx hb ht iFX12 hown hK hP km hm0 rfl 6 (by decide) (ht _ kw4_116) (fun _ h9 => h9) hf_bits dX12_low_68 ?_
        refine nv_if_le (tgt := 78) hx hb dX12_low_71 (by decide) (by omega) (fun h71 => ?_) (fun h71 => ?_)
        · skip
          refine lv_lconst (v := lN 0) hx hb dX12_low_78 (by decide) ?_
          exact hend ((congrArg lN (by rw [tg_el, if_pos (by omega)]))) dX12_low_79
        refine lv_lload_n hx hb dX12_low_74 rfl (lv_at hl 2 rfl) ?_
        refine lv_goto (tgt := 79) hx hb dX12_low_75 (by decide) ?_
        exact hend ((congrArg lN (by rw [hv, show i = 4 by omega, tg_ll_4 hsi (by omega) hx0]))) dX12_low_79
      refine lv_aload_n hx hb dX12_low_14 rfl (lv_at hl 0 rfl) ?_
      refine va_get (ci := 9) (C := RX12) (T := TX12) (N := 28) hx hb ht iFX12 hown hK hP km hm0 rfl 6 (by decide) (ht _ kw4_116) (fun _ h9 => h9) hf_bits dX12_low_15 ?_
      refine nv_if_le (tgt := 67) hx hb dX12_low_18 (by decide) (by omega) (fun h18 => ?_) (fun h18 => ?_)
      · skip
        refine lv_aload_n hx hb dX12_low_67 rfl (lv_at hl 0 rfl) ?_
        refine va_get (ci := 9) (C := RX12) (T := TX12) (N := 28) hx hb ht iFX12 hown hK hP km hm0 rfl 6 (by decide) (ht _ kw4_116) (fun _ h9 => h9) hf_bits dX12_low_68 ?_
        refine nv_if_le (tgt := 78) hx hb dX12_low_71 (by decide) (by omega) (fun h71 => ?_) (fun h71 => ?_)
        · skip
          refine lv_lconst (v := lN 0) hx hb dX12_low_78 (by decide) ?_
          exact hend ((congrArg lN (by rw [tg_el, if_pos (by omega)]))) dX12_low_79
        refine lv_lload_n hx hb dX12_low_74 rfl (lv_at hl 2 rfl) ?_
        refine lv_goto (tgt := 79) hx hb dX12_low_75 (by decide) ?_
        exact hend ((congrArg lN (by rw [hv, show i = 4 by omega, tg_ll_4 hsi (by omega) hx0]))) dX12_low_79
      refine lv_aload_n hx hb dX12_low_21 rfl (lv_at hl 0 rfl) ?_
      refine lv_iload hx hb dX12_low_22 (lv_at hl 3 rfl) ?_
      have hb7 : bits = 32 ∨ bits = 40 ∨ bits = 48 ∨ bits = 56 ∨ bits = 64 ∨ bits = 96 := by omega
      refine ro_V S (c_X12_placeOf hm0 hf_bits (i := i) (by omega) (by omega)) kw4_217 yv_X12_placeOf ⟨Nat.le_of_ble_eq_true rfl, Nat.le_of_ble_eq_true rfl⟩ hK hP (va_recv hK hP (ci := 9) (q0 := km) rfl hm0) rfl hl.1 rfl (Nat.le_of_ble_eq_true rfl) dX12_low_24 ⟨Nat.zero_le _, Nat.zero_le _⟩ ?_
      have hq24 := tg_pl_lt (i := i) (by omega) hb7
      refine lv_istore (lv' := [(5, .int (nI (tg_pl bits i))), (0, .ref mo), (1, .int (nI x)), (2, .long (lN (v))), (4, .int (nI i))]) hx hb dX12_low_27 hl (by decide) rfl (fun ls hl => ?_)
      refine lv_iload hx hb dX12_low_29 (lv_at hl 0 rfl) ?_
      refine nv_bipush (k := 8) hx hb dX12_low_31 (by decide) ?_
      refine nv_icmp_lt (tgt := 59) hx hb dX12_low_33 (by decide) (by omega) (by omega) (fun h33 => ?_) (fun h33 => ?_)
      · skip
        refine lv_lload_n hx hb dX12_low_59 rfl (lv_at hl 3 rfl) ?_
        refine lv_lstore_n (lv' := [(2, .long (lN (v))), (5, .int (nI (tg_pl bits i))), (0, .ref mo), (1, .int (nI x)), (4, .int (nI i))]) hx hb dX12_low_60 rfl hl (by decide) rfl (fun ls hl => ?_)
        refine lv_iinc (v := (nI (i + 1))) (lv' := [(4, .int (nI (i + 1))), (2, .long (lN (v))), (5, .int (nI (tg_pl bits i))), (0, .ref mo), (1, .int (nI x))]) hx hb dX12_low_61 hl (k := 4) rfl (nI_inc _ _) (by decide) rfl (fun ls hl => ?_)
        refine lv_goto (tgt := 8) hx hb dX12_low_64 (by decide) ?_
        exact ih (i + 1) (v) (by omega) (by omega) (by simp only [tg_ll]; first | (rw [if_pos (by omega), ← hv] <;> assumption) | (rw [if_neg (by omega), ← hv] <;> assumption)) ls (lv_sub hl [3, 4, 1, 0] rfl)
      refine lv_lload_n hx hb dX12_low_36 rfl (lv_at hl 3 rfl) ?_
      refine lv_iload hx hb dX12_low_37 (lv_at hl 0 rfl) ?_
      refine lv_iload_n hx hb dX12_low_39 rfl (lv_at hl 2 rfl) ?_
      refine nv_bipush (k := 24) hx hb dX12_low_40 (by decide) ?_
      refine nv_bipush (k := 8) hx hb dX12_low_42 (by decide) ?_
      refine lv_iload hx hb dX12_low_44 (lv_at hl 4 rfl) ?_
      refine nv_imul hx hb dX12_low_46 ?_
      refine nv_isub hx hb (by omega) dX12_low_47 ?_
      refine lv_ishr hx hb dX12_low_48 ?_
      refine nv_sipush (k := 255) hx hb dX12_low_49 (by decide) ?_
      refine lv_iand hx hb dX12_low_52 ?_
      rw [by8i (by omega) (by omega)]
      refine ro_S S (c_X12_with (a := v) (i := tg_pl bits i) (v := x / 2 ^ (24 - 8 * i) % 256) (by omega) (by omega) (by omega)) kw4_221 yv_X12_with ⟨Nat.le_of_ble_eq_true rfl, Nat.le_of_ble_eq_true rfl⟩ hK hP rfl hl.1 rfl (Nat.le_of_ble_eq_true rfl) dX12_low_53 ⟨Nat.zero_le _, Nat.zero_le _⟩ ?_
      refine lv_goto (tgt := 60) hx hb dX12_low_56 (by decide) ?_
      refine nv_topL (fun y_1 ey_1 => ?_)
      refine lv_lstore_n (lv' := [(2, .long (lN (y_1))), (5, .int (nI (tg_pl bits i))), (0, .ref mo), (1, .int (nI x)), (4, .int (nI i))]) hx hb dX12_low_60 rfl hl (by decide) rfl (fun ls hl => ?_)
      refine lv_iinc (v := (nI (i + 1))) (lv' := [(4, .int (nI (i + 1))), (2, .long (lN (y_1))), (5, .int (nI (tg_pl bits i))), (0, .ref mo), (1, .int (nI x))]) hx hb dX12_low_61 hl (k := 4) rfl (nI_inc _ _) (by decide) rfl (fun ls hl => ?_)
      refine lv_goto (tgt := 8) hx hb dX12_low_64 (by decide) ?_
      exact ih (i + 1) (y_1) (by omega) (by omega) (by simp only [tg_ll]; first | (rw [if_pos (by omega), ← hv] <;> assumption) | (rw [if_neg (by omega), ← hv] <;> assumption)) ls (lv_sub hl [3, 4, 1, 0] rfl)
  exact L8 (5) 0 G (by omega) (by omega) rfl ls (lv_sub hl [2, 3, 1, 0] rfl)
theorem dX12_drawn_0 : decode cX12_drawn 0 = .ok (.aload_n 0, 1) := by decide +kernel
theorem dX12_drawn_1 : decode cX12_drawn 1 = .ok (.lload_n 1, 1) := by decide +kernel
theorem dX12_drawn_2 : decode cX12_drawn 2 = .ok (.lload_n 3, 1) := by decide +kernel
theorem dX12_drawn_3 : decode cX12_drawn 3 = .ok (.invokevirtual 108, 3) := by decide +kernel
theorem dX12_drawn_6 : decode cX12_drawn 6 = .ok (.ifCond .eq 17, 3) := by decide +kernel
theorem dX12_drawn_9 : decode cX12_drawn 9 = .ok (.aload_n 0, 1) := by decide +kernel
theorem dX12_drawn_10 : decode cX12_drawn 10 = .ok (.lload_n 1, 1) := by decide +kernel
theorem dX12_drawn_11 : decode cX12_drawn 11 = .ok (.lload_n 3, 1) := by decide +kernel
theorem dX12_drawn_12 : decode cX12_drawn 12 = .ok (.invokevirtual 112, 3) := by decide +kernel
theorem dX12_drawn_15 : decode cX12_drawn 15 = .ok (.i2l, 1) := by decide +kernel
theorem dX12_drawn_16 : decode cX12_drawn 16 = .ok (.ldc2_w 116, 3) := by decide +kernel
theorem dX12_drawn_19 : decode cX12_drawn 19 = .ok (.land, 1) := by decide +kernel
theorem dX12_drawn_20 : decode cX12_drawn 20 = .ok (.goto 6, 3) := by decide +kernel
theorem dX12_drawn_23 : decode cX12_drawn 23 = .ok (.ldc2_w 69, 3) := by decide +kernel
theorem dX12_drawn_26 : decode cX12_drawn 26 = .ok (.lreturn, 1) := by decide +kernel
theorem yv_X12_drawn : YV RX12 yX12_drawn cX12_drawn 5 (some .long) 2 := ⟨kw4_230, kw4_231, kw1_10, kw4_232, by decide +kernel⟩
set_option maxHeartbeats 4000000 in
set_option maxRecDepth 100000 in
theorem c_X12_drawn {l : Launch} {D : va_G} {cy : Nat → ClassId} {ws : va_W} {km mo : Nat} {fs : List Value} (hm0 : ws[km]? = some (mo, .inr (9, fs))) {bits : Nat} {F : Nat} {G : Nat} (hf_bits : fs[6]? = some (.int (nI bits))) (hf_prefixHigh : fs[7]? = some (.long (lN (F)))) (hf_prefixLow : fs[8]? = some (.long (lN (G)))) (hsi : SI bits F G) {hi lo : Nat} (hhi : hi < 2 ^ 64) (hlo : lo < 2 ^ 64) : RO l yX12_drawn cX12_drawn 5 (some .long) 2 50 [.ref mo, .long (lN (hi)), .long (lN (lo))] D cy ws (.long (tg_draw bits F G hi lo)) := by
  refine ROl (by decide) (lv0 := [(0, .ref mo), (1, .long (lN (hi))), (3, .long (lN (lo)))]) rfl (Nat.le_of_ble_eq_true rfl) ?_
  intro p e s m args below meth c ls Q S hP hK hend hl
  have hx := S.1
  have hb := S.2.1
  have hown : s.vm.findClass RX12 = some m.cls := S.2.2.2.1
  have ht : ∀ w ∈ lw_g, w.before args s = true := fun w h => S.2.2.2.2 w (List.mem_cons_of_mem _ h)
  have hbits := hsi.b
  have hF := hsi.F
  have hG := hsi.G
  refine lv_aload_n hx hb dX12_drawn_0 rfl (lv_at hl 0 rfl) ?_
  refine lv_lload_n hx hb dX12_drawn_1 rfl (lv_at hl 1 rfl) ?_
  refine lv_lload_n hx hb dX12_drawn_2 rfl (lv_at hl 2 rfl) ?_
  refine ro_V S (c_X12_isOfPrefix hm0 hf_bits hf_prefixHigh hf_prefixLow hsi (hi := hi) (lo := lo) (by omega) (by omega)) kw4_233 yv_X12_isOfPrefix ⟨Nat.le_of_ble_eq_true rfl, Nat.le_of_ble_eq_true rfl⟩ hK hP (va_recv hK hP (ci := 9) (q0 := km) rfl hm0) rfl hl.1 rfl (Nat.le_of_ble_eq_true rfl) dX12_drawn_3 ⟨Nat.zero_le _, Nat.zero_le _⟩ ?_
  refine nv_if_eqb (tgt := 23) hx hb dX12_drawn_6 (by decide) (fun h6 => ?_) (fun h6 => ?_)
  · skip
    refine lv_ldc2 hx hb hown (ht _ kw4_200) dX12_drawn_23 ?_
    exact hend ((by rw [tg_draw, if_neg (by simp [*])])) dX12_drawn_26
  have h0b : bits ≠ 0 := fun q => by subst q; simp [tg_of] at h6
  refine lv_aload_n hx hb dX12_drawn_9 rfl (lv_at hl 0 rfl) ?_
  refine lv_lload_n hx hb dX12_drawn_10 rfl (lv_at hl 1 rfl) ?_
  refine lv_lload_n hx hb dX12_drawn_11 rfl (lv_at hl 2 rfl) ?_
  refine ro_V S (c_X12_drawnOf hm0 hf_bits (by omega) (hi := hi) (lo := lo) (by omega) (by omega)) kw4_237 yv_X12_drawnOf ⟨Nat.le_of_ble_eq_true rfl, Nat.le_of_ble_eq_true rfl⟩ hK hP (va_recv hK hP (ci := 9) (q0 := km) rfl hm0) rfl hl.1 rfl (Nat.le_of_ble_eq_true rfl) dX12_drawn_12 ⟨Nat.zero_le _, Nat.zero_le _⟩ ?_
  have hq12 := tg_dr_lt (bits := bits) (hi := hi) (lo := lo) (by omega)
  refine lv_i2l hx hb dX12_drawn_15 rfl ?_
  refine nv_ldc2 (k := 4294967295) hx hb hown (ht _ kw5_4) (by decide) dX12_drawn_16 ?_
  refine nv_landw hx hb (by omega) dX12_drawn_19 ?_
  refine lv_goto (tgt := 26) hx hb dX12_drawn_20 (by decide) ?_
  exact hend ((by rw [tg_draw, if_pos (by assumption)])) dX12_drawn_26
