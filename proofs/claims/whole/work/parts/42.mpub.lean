theorem dX12_signHead_0 : decode cX12_signHead 0 = .ok (.aload_n 0, 1) := by decide +kernel
theorem dX12_signHead_1 : decode cX12_signHead 1 = .ok (.getfield 118, 3) := by decide +kernel
theorem dX12_signHead_4 : decode cX12_signHead 4 = .ok (.bipush 20, 2) := by decide +kernel
theorem dX12_signHead_6 : decode cX12_signHead 6 = .ok (.if_icmp .ge 5, 3) := by decide +kernel
theorem dX12_signHead_9 : decode cX12_signHead 9 = .ok (.iconst (-1), 1) := by decide +kernel
theorem dX12_signHead_10 : decode cX12_signHead 10 = .ok (.ireturn, 1) := by decide +kernel
theorem dX12_signHead_11 : decode cX12_signHead 11 = .ok (.aload_n 0, 1) := by decide +kernel
theorem dX12_signHead_12 : decode cX12_signHead 12 = .ok (.getfield 7, 3) := by decide +kernel
theorem dX12_signHead_15 : decode cX12_signHead 15 = .ok (.invokestatic 245, 3) := by decide +kernel
theorem dX12_signHead_18 : decode cX12_signHead 18 = .ok (.istore_n 1, 1) := by decide +kernel
theorem dX12_signHead_19 : decode cX12_signHead 19 = .ok (.aload_n 0, 1) := by decide +kernel
theorem dX12_signHead_20 : decode cX12_signHead 20 = .ok (.getfield 7, 3) := by decide +kernel
theorem dX12_signHead_23 : decode cX12_signHead 23 = .ok (.bipush 10, 2) := by decide +kernel
theorem dX12_signHead_25 : decode cX12_signHead 25 = .ok (.iconst 2, 1) := by decide +kernel
theorem dX12_signHead_26 : decode cX12_signHead 26 = .ok (.iload_n 1, 1) := by decide +kernel
theorem dX12_signHead_27 : decode cX12_signHead 27 = .ok (.i2l, 1) := by decide +kernel
theorem dX12_signHead_28 : decode cX12_signHead 28 = .ok (.invokestatic 239, 3) := by decide +kernel
theorem dX12_signHead_31 : decode cX12_signHead 31 = .ok (.iload_n 1, 1) := by decide +kernel
theorem dX12_signHead_32 : decode cX12_signHead 32 = .ok (.ireturn, 1) := by decide +kernel
theorem yv_X12_signHead : YV RX12 yX12_signHead cX12_signHead 2 (some .int) 0 := ⟨kw5_186, kw5_187, kw1_10, kw5_188, by decide +kernel⟩
set_option maxHeartbeats 4000000 in
set_option maxRecDepth 100000 in
theorem c_X12_signHead {l : Launch} {D : va_G} {cy : Nat → ClassId} {o : Nat} {ad : Nat → Nat} {tl : va_W} {tp os sz bits F G u nb ns T M id : Nat} {ft fo fi : Nat → UInt8} {g : Nat → Int32} {pt ih il ip pn op so fa fp st en dr : Nat → Nat} (htp : tp ≤ 1600) : WR (S := Unit) l yX12_signHead cX12_signHead 2 (some .int) 4 0 0 88 [.ref o] D cy (mW cy o ad tp os sz bits F G u nb ns T M id ft fo fi g pt ih il ip pn op so fa fp st en dr ++ tl) (fun u_ => some (.int (if tp < 20 then -1 else nI (tg_cl (tg_ws (tg_rd ft tp) 0 10 20))))) (fun _ => True) (fun _ => mW cy o ad tp os sz bits F G u nb ns T M id (if tp < 20 then ft else tg_put ft 10 2 (tg_cl (tg_ws (tg_rd ft tp) 0 10 20))) fo fi g pt ih il ip pn op so fa fp st en dr ++ tl) := by
  refine WRi (by decide) (lv0 := [(0, .ref o)]) rfl (Nat.le_of_ble_eq_true rfl) ?_
  intro p e s m args below meth c ls A Q S hnm hP hK hD hS hA hend hl
  have hx := S.1
  have hb := S.2.1
  have hown : s.vm.findClass RX12 = some m.cls := S.2.2.2.1
  have ht : ∀ w ∈ lw_g, w.before args s = true := fun w h => S.2.2.2.2 w (List.mem_cons_of_mem _ h)
  have hP : va_P D vwCl (mW cy o ad tp os sz bits F G u nb ns T M id ft fo fi g pt ih il ip pn op so fa fp st en dr ++ tl) s.heap := hP
  refine lv_aload_n hx hb dX12_signHead_0 rfl (lv_at hl 0 rfl) ?_
  refine va_get (ci := 9) (C := RX12) (T := TX12) (N := 28) hx hb ht iFX12 hown hK hP 0 rfl rfl 1 (by decide) (ht _ kw4_111) (fun _ h9 => h9) rfl dX12_signHead_1 ?_
  refine nv_bipush (k := 20) hx hb dX12_signHead_4 (by decide) ?_
  refine nv_icmp_ge (tgt := 11) hx hb dX12_signHead_6 (by decide) (by omega) (by omega) (fun h6 => ?_) (fun h6 => ?_)
  · skip
    refine lv_aload_n hx hb dX12_signHead_11 rfl (lv_at hl 0 rfl) ?_
    refine va_get (ci := 9) (C := RX12) (T := TX12) (N := 28) hx hb ht iFX12 hown hK hP 0 rfl rfl 0 (by decide) (ht _ kw4_110) (fun _ h9 => h9) rfl dX12_signHead_12 ?_
    refine ro_S S (c_X12_headSum (AR_of (ws := mW cy o ad tp os sz bits F G u nb ns T M id ft fo fi g pt ih il ip pn op so fa fp st en dr ++ tl) (kr := 1) (N := 1600) rfl (by omega) (by omega)) (by omega)) kw5_127 yv_X12_headSum ⟨Nat.le_of_ble_eq_true rfl, Nat.le_of_ble_eq_true rfl⟩ hK hP rfl hl.1 rfl (Nat.le_of_ble_eq_true rfl) dX12_signHead_15 ⟨Nat.zero_le _, Nat.zero_le _⟩ ?_
    have hq15 := tg_cl_le (tg_ws (tg_rd ft tp) 0 10 20)
    refine lv_istore_n (lv' := [(1, .int (nI (tg_cl (tg_ws (tg_rd ft tp) 0 10 20)))), (0, .ref o)]) hx hb dX12_signHead_18 rfl hl (by decide) rfl (fun ls hl => ?_)
    refine lv_aload_n hx hb dX12_signHead_19 rfl (lv_at hl 1 rfl) ?_
    refine va_get (ci := 9) (C := RX12) (T := TX12) (N := 28) hx hb ht iFX12 hown hK hP 0 rfl rfl 0 (by decide) (ht _ kw4_110) (fun _ h9 => h9) rfl dX12_signHead_20 ?_
    refine nv_bipush (k := 10) hx hb dX12_signHead_23 (by decide) ?_
    refine nv_iconst (k := 2) hx hb dX12_signHead_25 rfl ?_
    refine lv_iload_n hx hb dX12_signHead_26 rfl (lv_at hl 0 rfl) ?_
    refine nv_i2l hx hb (by omega) dX12_signHead_27 ?_
    refine wr_S S (c_X12_put (ws := mW cy o ad tp os sz bits F G u nb ns T M id ft fo fi g pt ih il ip pn op so fa fp st en dr ++ tl) (kr := 1) (N := 1600) rfl (by omega) (a := 10) (many := 2) (x := tg_cl (tg_ws (tg_rd ft tp) 0 10 20)) (v := lN (tg_cl (tg_ws (tg_rd ft tp) 0 10 20))) (by omega) (by omega) (fun k hk => by rw [lN_toNat (by omega)])) kw5_123 yv_X12_put ⟨Nat.le_of_ble_eq_true rfl, Nat.le_of_ble_eq_true rfl⟩ hK hP hD hS hA rfl hl.1 rfl (Nat.le_of_ble_eq_true rfl) dX12_signHead_28 ⟨Nat.zero_le _, Nat.zero_le _⟩ (fun g_1 H locs hg_1 hP hD hS => ?_)
    have hP : va_P D vwCl (mW cy o ad tp os sz bits F G u nb ns T M id g_1 fo fi g pt ih il ip pn op so fa fp st en dr ++ tl) H := hP
    have hD : va_D A (mW cy o ad tp os sz bits F G u nb ns T M id g_1 fo fi g pt ih il ip pn op so fa fp st en dr ++ tl) := hD
    refine W.eq (g2 := F0 m 31 ls []) rfl ?_
    refine lv_iload_n hx hb dX12_signHead_31 rfl (lv_at hl 0 rfl) ?_
    rw [hg_1] at hP hD
    exact hend () (by rw [if_neg (by omega)]) trivial (by rw [if_neg (by omega)]; exact hP) (by rw [if_neg (by omega)]; exact hD) hS dX12_signHead_32
  refine lv_iconst (v := -1) hx hb dX12_signHead_9 (by decide) ?_
  exact hend () (by rw [if_pos (by omega)]) trivial (by rw [if_pos (by omega)]; exact hP) (by rw [if_pos (by omega)]; exact hD) hS dX12_signHead_10
theorem dX12_pool_0 : decode cX12_pool 0 = .ok (.iload_n 1, 1) := by decide +kernel
theorem dX12_pool_1 : decode cX12_pool 1 = .ok (.invokestatic 89, 3) := by decide +kernel
theorem dX12_pool_4 : decode cX12_pool 4 = .ok (.ifCond .ne 11, 3) := by decide +kernel
theorem dX12_pool_7 : decode cX12_pool 7 = .ok (.aload_n 0, 1) := by decide +kernel
theorem dX12_pool_8 : decode cX12_pool 8 = .ok (.iload_n 1, 1) := by decide +kernel
theorem dX12_pool_9 : decode cX12_pool 9 = .ok (.invokevirtual 93, 3) := by decide +kernel
theorem dX12_pool_12 : decode cX12_pool 12 = .ok (.ifCond .lt 5, 3) := by decide +kernel
theorem dX12_pool_15 : decode cX12_pool 15 = .ok (.iconst (-1), 1) := by decide +kernel
theorem dX12_pool_16 : decode cX12_pool 16 = .ok (.ireturn, 1) := by decide +kernel
theorem dX12_pool_17 : decode cX12_pool 17 = .ok (.aload_n 0, 1) := by decide +kernel
theorem dX12_pool_18 : decode cX12_pool 18 = .ok (.getfield 86, 3) := by decide +kernel
theorem dX12_pool_21 : decode cX12_pool 21 = .ok (.iconst 4, 1) := by decide +kernel
theorem dX12_pool_22 : decode cX12_pool 22 = .ok (.if_icmp .ne 6, 3) := by decide +kernel
theorem dX12_pool_25 : decode cX12_pool 25 = .ok (.bipush (-2), 2) := by decide +kernel
theorem dX12_pool_27 : decode cX12_pool 27 = .ok (.ireturn, 1) := by decide +kernel
theorem dX12_pool_28 : decode cX12_pool 28 = .ok (.aload_n 0, 1) := by decide +kernel
theorem dX12_pool_29 : decode cX12_pool 29 = .ok (.getfield 19, 3) := by decide +kernel
theorem dX12_pool_32 : decode cX12_pool 32 = .ok (.aload_n 0, 1) := by decide +kernel
theorem dX12_pool_33 : decode cX12_pool 33 = .ok (.getfield 86, 3) := by decide +kernel
theorem dX12_pool_36 : decode cX12_pool 36 = .ok (.iload_n 1, 1) := by decide +kernel
theorem dX12_pool_37 : decode cX12_pool 37 = .ok (.iastore, 1) := by decide +kernel
theorem dX12_pool_38 : decode cX12_pool 38 = .ok (.aload_n 0, 1) := by decide +kernel
theorem dX12_pool_39 : decode cX12_pool 39 = .ok (.dup, 1) := by decide +kernel
theorem dX12_pool_40 : decode cX12_pool 40 = .ok (.getfield 86, 3) := by decide +kernel
theorem dX12_pool_43 : decode cX12_pool 43 = .ok (.iconst 1, 1) := by decide +kernel
theorem dX12_pool_44 : decode cX12_pool 44 = .ok (.iadd, 1) := by decide +kernel
theorem dX12_pool_45 : decode cX12_pool 45 = .ok (.putfield 86, 3) := by decide +kernel
theorem dX12_pool_48 : decode cX12_pool 48 = .ok (.aload_n 0, 1) := by decide +kernel
theorem dX12_pool_49 : decode cX12_pool 49 = .ok (.getfield 86, 3) := by decide +kernel
theorem dX12_pool_52 : decode cX12_pool 52 = .ok (.iconst 1, 1) := by decide +kernel
theorem dX12_pool_53 : decode cX12_pool 53 = .ok (.isub, 1) := by decide +kernel
theorem dX12_pool_54 : decode cX12_pool 54 = .ok (.ireturn, 1) := by decide +kernel
theorem yv_X12_pool : YV RX12 yX12_pool cX12_pool 2 (some .int) 1 := ⟨kw4_203, kw4_204, kw1_10, kw4_205, by decide +kernel⟩
set_option maxHeartbeats 4000000 in
set_option maxRecDepth 100000 in
theorem c_X12_pool {l : Launch} {D : va_G} {cy : Nat → ClassId} {o : Nat} {ad : Nat → Nat} {tl : va_W} {tp os sz bits F G u nb ns T M id : Nat} {ft fo fi : Nat → UInt8} {g : Nat → Int32} {pt ih il ip pn op so fa fp st en dr : Nat → Nat} {x : Nat} (hx0 : x < 2 ^ 32) (hu : u ≤ 4) : WR (S := Unit) l yX12_pool cX12_pool 2 (some .int) 1 0 0 22 [.ref o, .int (nI x)] D cy (mW cy o ad tp os sz bits F G u nb ns T M id ft fo fi g pt ih il ip pn op so fa fp st en dr ++ tl) (fun u_ => some (.int (if tg_odd x = true ∨ tg_has g u x = true then (-1 : Int32) else if u = 4 then -2 else nI u))) (fun _ => True) (fun _ => mW cy o ad tp os sz bits F G (if (tg_odd x || tg_has g u x || decide (u = 4)) = true then u else u + 1) nb ns T M id ft fo fi (if (tg_odd x || tg_has g u x || decide (u = 4)) = true then g else upd g u (nI x)) pt ih il ip pn op so fa fp st en dr ++ tl) := by
  refine WRi (by decide) (lv0 := [(0, .ref o), (1, .int (nI x))]) rfl (Nat.le_of_ble_eq_true rfl) ?_
  intro p e s m args below meth c ls A Q S hnm hP hK hD hS hA hend hl
  have hx := S.1
  have hb := S.2.1
  have hown : s.vm.findClass RX12 = some m.cls := S.2.2.2.1
  have ht : ∀ w ∈ lw_g, w.before args s = true := fun w h => S.2.2.2.2 w (List.mem_cons_of_mem _ h)
  have hP : va_P D vwCl (mW cy o ad tp os sz bits F G u nb ns T M id ft fo fi g pt ih il ip pn op so fa fp st en dr ++ tl) s.heap := hP
  refine lv_iload_n hx hb dX12_pool_0 rfl (lv_at hl 1 rfl) ?_
  refine ro_S S (c_X12_isOdd (x := x) (by omega)) kw4_206 yv_X12_isOdd ⟨Nat.le_of_ble_eq_true rfl, Nat.le_of_ble_eq_true rfl⟩ hK hP rfl hl.1 rfl (Nat.le_of_ble_eq_true rfl) dX12_pool_1 ⟨Nat.zero_le _, Nat.zero_le _⟩ ?_
  refine nv_if_neb (tgt := 15) hx hb dX12_pool_4 (by decide) (fun h4 => ?_) (fun h4 => ?_)
  · skip
    refine lv_iconst (v := -1) hx hb dX12_pool_15 (by decide) ?_
    have ec : (tg_odd x || tg_has g u x || decide (u = 4)) = true := by first | (rw [h4]; rfl) | (have hz : tg_has g u x = true := num_t (by omega) h12; rw [hz]; simp)
    have er : (if tg_odd x = true ∨ tg_has g u x = true then (-1 : Int32) else if u = 4 then -2 else nI u) = -1 := if_pos (by first | exact Or.inl h4 | exact Or.inr (num_t (by omega) h12))
    exact hend () (by rw [er]) trivial (by rw [ec]; exact hP) (by rw [ec]; exact hD) hS dX12_pool_16
  refine lv_aload_n hx hb dX12_pool_7 rfl (lv_at hl 0 rfl) ?_
  refine lv_iload_n hx hb dX12_pool_8 rfl (lv_at hl 1 rfl) ?_
  refine ro_V S (c_X12_poolOf (ws := mW cy o ad tp os sz bits F G u nb ns T M id ft fo fi g pt ih il ip pn op so fa fp st en dr ++ tl) (km := 0) rfl rfl rfl (kq := 4) rfl hu (x := x) (by omega)) kw4_209 yv_X12_poolOf ⟨Nat.le_of_ble_eq_true rfl, Nat.le_of_ble_eq_true rfl⟩ hK hP (va_recv hK hP (ci := 9) (q0 := 0) rfl rfl) rfl hl.1 rfl (Nat.le_of_ble_eq_true rfl) dX12_pool_9 ⟨Nat.zero_le _, Nat.zero_le _⟩ ?_
  refine lv_if_lt (tgt := 17) hx hb dX12_pool_12 (by decide) (fun h12 => ?_) (fun h12 => ?_)
  · skip
    refine lv_aload_n hx hb dX12_pool_17 rfl (lv_at hl 0 rfl) ?_
    refine va_get (ci := 9) (C := RX12) (T := TX12) (N := 28) hx hb ht iFX12 hown hK hP 0 rfl rfl 9 (by decide) (ht _ kw4_119) (fun _ h9 => h9) rfl dX12_pool_18 ?_
    refine nv_iconst (k := 4) hx hb dX12_pool_21 rfl ?_
    refine nv_icmp_ne (tgt := 28) hx hb dX12_pool_22 (by decide) (by omega) (by omega) (fun h22 => ?_) (fun h22 => ?_)
    · skip
      refine lv_aload_n hx hb dX12_pool_28 rfl (lv_at hl 0 rfl) ?_
      refine va_get (ci := 9) (C := RX12) (T := TX12) (N := 28) hx hb ht iFX12 hown hK hP 0 rfl rfl 10 (by decide) (ht _ kw4_120) (fun _ h9 => h9) rfl dX12_pool_29 ?_
      refine lv_aload_n hx hb dX12_pool_32 rfl (lv_at hl 0 rfl) ?_
      refine va_get (ci := 9) (C := RX12) (T := TX12) (N := 28) hx hb ht iFX12 hown hK hP 0 rfl rfl 9 (by decide) (ht _ kw4_119) (fun _ h9 => h9) rfl dX12_pool_33 ?_
      refine lv_iload_n hx hb dX12_pool_36 rfl (lv_at hl 1 rfl) ?_
      refine nv_iast hx hb hK hP hD hS 4 rfl (by omega) (by omega) dX12_pool_37 (fun H locs hP hD hS => ?_)
      have hP : va_P D vwCl (mW cy o ad tp os sz bits F G u nb ns T M id ft fo fi (upd g u ((nI x))) pt ih il ip pn op so fa fp st en dr ++ tl) H := hP
      have hD : va_D A (mW cy o ad tp os sz bits F G u nb ns T M id ft fo fi (upd g u ((nI x))) pt ih il ip pn op so fa fp st en dr ++ tl) := hD
      refine lv_aload_n hx hb dX12_pool_38 rfl (lv_at hl 0 rfl) ?_
      refine lv_dup hx hb dX12_pool_39 rfl ?_
      refine va_get (ci := 9) (C := RX12) (T := TX12) (N := 28) hx hb ht iFX12 hown hK hP 0 rfl rfl 9 (by decide) (ht _ kw4_119) (fun _ h9 => h9) rfl dX12_pool_40 ?_
      refine nv_iconst (k := 1) hx hb dX12_pool_43 rfl ?_
      refine nv_iadd hx hb dX12_pool_44 ?_
      refine va_put (ci := 9) (C := RX12) (T := TX12) (N := 28) (ty := tyX12 9) hx hb ht iFX12 tyX12 tyX12_ok nmX12 hown hK hP hD hS 0 rfl rfl 9 (by decide) (ht _ kw4_119) (fun _ h9 => h9) rfl (by decide +kernel) (by first | rfl | decide) (by first | rfl | decide) (Nat.le_of_ble_eq_true rfl) dX12_pool_45 (fun H locs hP hD hS => ?_)
      have hP : va_P D vwCl (mW cy o ad tp os sz bits F G (u + 1) nb ns T M id ft fo fi (upd g u ((nI x))) pt ih il ip pn op so fa fp st en dr ++ tl) H := hP
      have hD : va_D A (mW cy o ad tp os sz bits F G (u + 1) nb ns T M id ft fo fi (upd g u ((nI x))) pt ih il ip pn op so fa fp st en dr ++ tl) := hD
      refine lv_aload_n hx hb dX12_pool_48 rfl (lv_at hl 0 rfl) ?_
      refine va_get (ci := 9) (C := RX12) (T := TX12) (N := 28) hx hb ht iFX12 hown hK hP 0 rfl rfl 9 (by decide) (ht _ kw4_119) (fun _ h9 => h9) rfl dX12_pool_49 ?_
      refine nv_iconst (k := 1) hx hb dX12_pool_52 rfl ?_
      refine nv_isub hx hb (by omega) dX12_pool_53 ?_
      have hno : ¬ (tg_odd x = true ∨ tg_has g u x = true) := by have hz : tg_has g u x = false := num_f (by omega) h12; rw [h4, hz]; decide
      have ec : (tg_odd x || tg_has g u x || decide (u = 4)) = false := by have hz : tg_has g u x = false := num_f (by omega) h12; rw [h4, hz]; simp [h22]
      have er : (if tg_odd x = true ∨ tg_has g u x = true then (-1 : Int32) else if u = 4 then -2 else nI u) = nI u := by rw [if_neg hno, if_neg h22]
      exact hend () (by rw [er]; exact congrArg nI (by omega)) trivial (by rw [ec]; exact hP) (by rw [ec]; exact hD) hS dX12_pool_54
    refine lv_bipush (v := -2) hx hb dX12_pool_25 (by decide) ?_
    have hno : ¬ (tg_odd x = true ∨ tg_has g u x = true) := by have hz : tg_has g u x = false := num_f (by omega) h12; rw [h4, hz]; decide
    have ec : (tg_odd x || tg_has g u x || decide (u = 4)) = true := by simp [h22]
    have er : (if tg_odd x = true ∨ tg_has g u x = true then (-1 : Int32) else if u = 4 then -2 else nI u) = -2 := by rw [if_neg hno, if_pos h22]
    exact hend () (by rw [er]) trivial (by rw [ec]; exact hP) (by rw [ec]; exact hD) hS dX12_pool_27
  refine lv_iconst (v := -1) hx hb dX12_pool_15 (by decide) ?_
  have ec : (tg_odd x || tg_has g u x || decide (u = 4)) = true := by first | (rw [h4]; rfl) | (have hz : tg_has g u x = true := num_t (by omega) h12; rw [hz]; simp)
  have er : (if tg_odd x = true ∨ tg_has g u x = true then (-1 : Int32) else if u = 4 then -2 else nI u) = -1 := if_pos (by first | exact Or.inl h4 | exact Or.inr (num_t (by omega) h12))
  exact hend () (by rw [er]) trivial (by rw [ec]; exact hP) (by rw [ec]; exact hD) hS dX12_pool_16
