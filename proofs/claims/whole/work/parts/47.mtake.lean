theorem dX12_take_0 : decode cX12_take 0 = .ok (.aload_n 0, 1) := by decide +kernel
theorem dX12_take_1 : decode cX12_take 1 = .ok (.getfield 234, 3) := by decide +kernel
theorem dX12_take_4 : decode cX12_take 4 = .ok (.sipush 1600, 3) := by decide +kernel
theorem dX12_take_7 : decode cX12_take 7 = .ok (.if_icmp .le 5, 3) := by decide +kernel
theorem dX12_take_10 : decode cX12_take 10 = .ok (.iconst (-1), 1) := by decide +kernel
theorem dX12_take_11 : decode cX12_take 11 = .ok (.ireturn, 1) := by decide +kernel
theorem dX12_take_12 : decode cX12_take 12 = .ok (.iconst 0, 1) := by decide +kernel
theorem dX12_take_13 : decode cX12_take 13 = .ok (.istore_n 1, 1) := by decide +kernel
theorem dX12_take_14 : decode cX12_take 14 = .ok (.iload_n 1, 1) := by decide +kernel
theorem dX12_take_15 : decode cX12_take 15 = .ok (.aload_n 0, 1) := by decide +kernel
theorem dX12_take_16 : decode cX12_take 16 = .ok (.getfield 234, 3) := by decide +kernel
theorem dX12_take_19 : decode cX12_take 19 = .ok (.if_icmp .ge 21, 3) := by decide +kernel
theorem dX12_take_22 : decode cX12_take 22 = .ok (.aload_n 0, 1) := by decide +kernel
theorem dX12_take_23 : decode cX12_take 23 = .ok (.getfield 7, 3) := by decide +kernel
theorem dX12_take_26 : decode cX12_take 26 = .ok (.iload_n 1, 1) := by decide +kernel
theorem dX12_take_27 : decode cX12_take 27 = .ok (.aload_n 0, 1) := by decide +kernel
theorem dX12_take_28 : decode cX12_take 28 = .ok (.getfield 13, 3) := by decide +kernel
theorem dX12_take_31 : decode cX12_take 31 = .ok (.iload_n 1, 1) := by decide +kernel
theorem dX12_take_32 : decode cX12_take 32 = .ok (.baload, 1) := by decide +kernel
theorem dX12_take_33 : decode cX12_take 33 = .ok (.bastore, 1) := by decide +kernel
theorem dX12_take_34 : decode cX12_take 34 = .ok (.iinc 1 1, 3) := by decide +kernel
theorem dX12_take_37 : decode cX12_take 37 = .ok (.goto (-23), 3) := by decide +kernel
theorem dX12_take_40 : decode cX12_take 40 = .ok (.aload_n 0, 1) := by decide +kernel
theorem dX12_take_41 : decode cX12_take 41 = .ok (.aload_n 0, 1) := by decide +kernel
theorem dX12_take_42 : decode cX12_take 42 = .ok (.getfield 234, 3) := by decide +kernel
theorem dX12_take_45 : decode cX12_take 45 = .ok (.putfield 118, 3) := by decide +kernel
theorem dX12_take_48 : decode cX12_take 48 = .ok (.aload_n 0, 1) := by decide +kernel
theorem dX12_take_49 : decode cX12_take 49 = .ok (.getfield 118, 3) := by decide +kernel
theorem dX12_take_52 : decode cX12_take 52 = .ok (.ireturn, 1) := by decide +kernel
theorem yv_X12_take : YV RX12 yX12_take cX12_take 2 (some .int) 0 := ⟨kw5_172, kw5_173, kw1_10, kw5_174, by decide +kernel⟩
set_option maxHeartbeats 4000000 in
set_option maxRecDepth 100000 in
theorem c_X12_take {l : Launch} {D : va_G} {cy : Nat → ClassId} {o : Nat} {ad : Nat → Nat} {tl : va_W} {tp os sz bits F G u nb ns T M id : Nat} {ft fo fi : Nat → UInt8} {g : Nat → Int32} {pt ih il ip pn op so fa fp st en dr : Nat → Nat} (hos : os ≤ 1640) : WR (S := Unit) l yX12_take cX12_take 2 (some .int) 0 0 0 0 [.ref o] D cy (mW cy o ad tp os sz bits F G u nb ns T M id ft fo fi g pt ih il ip pn op so fa fp st en dr ++ tl) (fun u_ => some (.int (if os ≤ 1600 then nI os else -1))) (fun _ => True) (fun _ => mW cy o ad (if os ≤ 1600 then os else tp) os sz bits F G u nb ns T M id (if os ≤ 1600 then (fun k => if k < os then fo k else ft k) else ft) fo fi g pt ih il ip pn op so fa fp st en dr ++ tl) := by
  refine WRi (by decide) (lv0 := [(0, .ref o)]) rfl (Nat.le_of_ble_eq_true rfl) ?_
  intro p e s m args below meth c ls A Q S hnm hP hK hD hS hA hend hl
  have hx := S.1
  have hb := S.2.1
  have hown : s.vm.findClass RX12 = some m.cls := S.2.2.2.1
  have ht : ∀ w ∈ lw_g, w.before args s = true := fun w h => S.2.2.2.2 w (List.mem_cons_of_mem _ h)
  have hP : va_P D vwCl (mW cy o ad tp os sz bits F G u nb ns T M id ft fo fi g pt ih il ip pn op so fa fp st en dr ++ tl) s.heap := hP
  refine lv_aload_n hx hb dX12_take_0 rfl (lv_at hl 0 rfl) ?_
  refine va_get (ci := 9) (C := RX12) (T := TX12) (N := 28) hx hb ht iFX12 hown hK hP 0 rfl rfl 3 (by decide) (ht _ kw4_113) (fun _ h9 => h9) rfl dX12_take_1 ?_
  refine nv_sipush (k := 1600) hx hb dX12_take_4 (by decide) ?_
  refine nv_icmp_le (tgt := 12) hx hb dX12_take_7 (by decide) (by omega) (by omega) (fun h7 => ?_) (fun h7 => ?_)
  · skip
    refine nv_iconst (k := 0) hx hb dX12_take_12 rfl ?_
    refine lv_istore_n (lv' := [(1, .int (nI 0)), (0, .ref o)]) hx hb dX12_take_13 rfl hl (by decide) rfl (fun ls hl => ?_)
    have L14 : ∀ (fu i : Nat) (H : Heap) (locs : List Loc), os - i < fu → i ≤ os → va_P D vwCl (mW cy o ad tp os sz bits F G u nb ns T M id ((fun k => if k < i then fo k else ft k)) fo fi g pt ih il ip pn op so fa fp st en dr ++ tl) H → va_D A (mW cy o ad tp os sz bits F G u nb ns T M id ((fun k => if k < i then fo k else ft k)) fo fi g pt ih il ip pn op so fa fp st en dr ++ tl) → va_S A s.heap H locs → ∀ ls : Array Slot, lv_has ls 2 [(0, .ref o), (1, .int (nI i))] → W p l e (rmw 0 0 0 0) s m args below meth c H locs 0 0 Q (F0 m 14 ls []) := by
      intro fu
      induction fu with
      | zero => intro i H locs h9; omega
      | succ fu ihh =>
        intro i H locs hfu hi hP hD hS ls hl
        refine lv_iload_n hx hb dX12_take_14 rfl (lv_at hl 1 rfl) ?_
        refine lv_aload_n hx hb dX12_take_15 rfl (lv_at hl 0 rfl) ?_
        refine va_get (ci := 9) (C := RX12) (T := TX12) (N := 28) hx hb ht iFX12 hown hK hP 0 rfl rfl 3 (by decide) (ht _ kw4_113) (fun _ h9 => h9) rfl dX12_take_16 ?_
        refine nv_icmp_ge (tgt := 40) hx hb dX12_take_19 (by decide) (by omega) (by omega) (fun h19 => ?_) (fun h19 => ?_)
        · skip
          have ei : os = i := by omega
          subst ei
          refine lv_aload_n hx hb dX12_take_40 rfl (lv_at hl 0 rfl) ?_
          refine lv_aload_n hx hb dX12_take_41 rfl (lv_at hl 0 rfl) ?_
          refine va_get (ci := 9) (C := RX12) (T := TX12) (N := 28) hx hb ht iFX12 hown hK hP 0 rfl rfl 3 (by decide) (ht _ kw4_113) (fun _ h9 => h9) rfl dX12_take_42 ?_
          refine va_put (ci := 9) (C := RX12) (T := TX12) (N := 28) (ty := tyX12 1) hx hb ht iFX12 tyX12 tyX12_ok nmX12 hown hK hP hD hS 0 rfl rfl 1 (by decide) (ht _ kw4_111) (fun _ h9 => h9) rfl (by decide +kernel) (by first | rfl | decide) (by first | rfl | decide) (Nat.le_of_ble_eq_true rfl) dX12_take_45 (fun H locs hP hD hS => ?_)
          have hP : va_P D vwCl (mW cy o ad os os sz bits F G u nb ns T M id (fun k => if k < os then fo k else ft k) fo fi g pt ih il ip pn op so fa fp st en dr ++ tl) H := hP
          have hD : va_D A (mW cy o ad os os sz bits F G u nb ns T M id (fun k => if k < os then fo k else ft k) fo fi g pt ih il ip pn op so fa fp st en dr ++ tl) := hD
          refine lv_aload_n hx hb dX12_take_48 rfl (lv_at hl 0 rfl) ?_
          refine va_get (ci := 9) (C := RX12) (T := TX12) (N := 28) hx hb ht iFX12 hown hK hP 0 rfl rfl 1 (by decide) (ht _ kw4_111) (fun _ h9 => h9) rfl dX12_take_49 ?_
          have ec : os ≤ 1600 := by omega
          exact hend () (by rw [if_pos ec]) trivial (by rw [if_pos ec, if_pos ec]; exact hP) (by rw [if_pos ec, if_pos ec]; exact hD) hS dX12_take_52
        refine lv_aload_n hx hb dX12_take_22 rfl (lv_at hl 0 rfl) ?_
        refine va_get (ci := 9) (C := RX12) (T := TX12) (N := 28) hx hb ht iFX12 hown hK hP 0 rfl rfl 0 (by decide) (ht _ kw4_110) (fun _ h9 => h9) rfl dX12_take_23 ?_
        refine lv_iload_n hx hb dX12_take_26 rfl (lv_at hl 1 rfl) ?_
        refine lv_aload_n hx hb dX12_take_27 rfl (lv_at hl 0 rfl) ?_
        refine va_get (ci := 9) (C := RX12) (T := TX12) (N := 28) hx hb ht iFX12 hown hK hP 0 rfl rfl 2 (by decide) (ht _ kw4_112) (fun _ h9 => h9) rfl dX12_take_28 ?_
        refine lv_iload_n hx hb dX12_take_31 rfl (lv_at hl 1 rfl) ?_
        refine nv_bald hx hb hK hP 2 rfl (by omega) (by omega) dX12_take_32 ?_
        refine nv_bast hx hb hK hP hD hS 1 rfl (by omega) (by omega) dX12_take_33 (fun H locs hP hD hS => ?_)
        have hP : va_P D vwCl (mW cy o ad tp os sz bits F G u nb ns T M id (va_up ((fun k => if k < i then fo k else ft k)) i (by8 ((bt fo i)))) fo fi g pt ih il ip pn op so fa fp st en dr ++ tl) H := hP
        have hD : va_D A (mW cy o ad tp os sz bits F G u nb ns T M id (va_up ((fun k => if k < i then fo k else ft k)) i (by8 ((bt fo i)))) fo fi g pt ih il ip pn op so fa fp st en dr ++ tl) := hD
        refine lv_iinc (v := (nI (i + 1))) (lv' := [(1, .int (nI (i + 1))), (0, .ref o)]) hx hb dX12_take_34 hl (k := 1) rfl (nI_inc _ _) (by decide) rfl (fun ls hl => ?_)
        refine lv_goto (tgt := 14) hx hb dX12_take_37 (by decide) ?_
        have e1 : va_up (fun k => if k < i then fo k else ft k) i (by8 (bt fo i)) = (fun k => if k < i + 1 then fo k else ft k) := by
          funext k
          rw [show by8 (bt fo i) = fo i from u8_rt (fo i)]
          unfold va_up
          by_cases h : k = i
          · simp [h]
          · by_cases h2 : k < i
            · simp [h, h2, show k < i + 1 by omega]
            · simp [h, h2, show ¬ k < i + 1 by omega]
        rw [e1] at hP hD
        exact ihh (i + 1) H locs (by omega) (by omega) hP hD hS ls (lv_sub hl [1, 0] rfl)
    have e0 : ft = (fun k => if k < 0 then fo k else ft k) := by funext k; rw [if_neg (by omega)]
    exact L14 (os + 1) 0 s.heap [] (by omega) (by omega) (by rw [← e0]; exact hP) (by rw [← e0]; exact hD) hS ls (lv_sub hl [1, 0] rfl)
  refine lv_iconst (v := -1) hx hb dX12_take_10 (by decide) ?_
  have ec : ¬ os ≤ 1600 := by omega
  exact hend () (by rw [if_neg ec]) trivial (by rw [if_neg ec, if_neg ec]; exact hP) (by rw [if_neg ec, if_neg ec]; exact hD) hS dX12_take_11
