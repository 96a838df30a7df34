theorem dX12_drops_0 : decode cX12_drops 0 = .ok (.aload_n 0, 1) := by decide +kernel
theorem dX12_drops_1 : decode cX12_drops 1 = .ok (.getfield 57, 3) := by decide +kernel
theorem dX12_drops_4 : decode cX12_drops 4 = .ok (.iload_n 1, 1) := by decide +kernel
theorem dX12_drops_5 : decode cX12_drops 5 = .ok (.dup2, 1) := by decide +kernel
theorem dX12_drops_6 : decode cX12_drops 6 = .ok (.iaload, 1) := by decide +kernel
theorem dX12_drops_7 : decode cX12_drops 7 = .ok (.iconst 1, 1) := by decide +kernel
theorem dX12_drops_8 : decode cX12_drops 8 = .ok (.iadd, 1) := by decide +kernel
theorem dX12_drops_9 : decode cX12_drops 9 = .ok (.iastore, 1) := by decide +kernel
theorem dX12_drops_10 : decode cX12_drops 10 = .ok (.iload_n 1, 1) := by decide +kernel
theorem dX12_drops_11 : decode cX12_drops 11 = .ok (.ineg, 1) := by decide +kernel
theorem dX12_drops_12 : decode cX12_drops 12 = .ok (.ireturn, 1) := by decide +kernel
theorem yv_X12_drops : YV RX12 yX12_drops cX12_drops 2 (some .int) 1 := ⟨kw5_77, kws_30, kw1_10, kw5_78, by decide +kernel⟩
set_option maxHeartbeats 4000000 in
set_option maxRecDepth 100000 in
theorem c_X12_drops {l : Launch} {D : va_G} {cy : Nat → ClassId} {o : Nat} {ad : Nat → Nat} {tl : va_W} {tp os sz bits F G u nb ns T M id : Nat} {ft fo fi : Nat → UInt8} {g : Nat → Int32} {pt ih il ip pn op so fa fp st en dr : Nat → Nat} {x : Nat} (hx0 : x < 16) : WR (S := Unit) l yX12_drops cX12_drops 2 (some .int) 0 0 0 0 [.ref o, .int (nI x)] D cy (mW cy o ad tp os sz bits F G u nb ns T M id ft fo fi g pt ih il ip pn op so fa fp st en dr ++ tl) (fun u => some (.int (- nI x))) (fun _ => True) (fun _ => mW cy o ad tp os sz bits F G u nb ns T M id ft fo fi g pt ih il ip pn op so fa fp st en (va_up dr x (dr x + 1)) ++ tl) := by
  refine WRi (by decide) (lv0 := [(0, .ref o), (1, .int (nI x))]) rfl (Nat.le_of_ble_eq_true rfl) ?_
  intro p e s m args below meth c ls A Q S hnm hP hK hD hS hA hend hl
  have hx := S.1
  have hb := S.2.1
  have hown : s.vm.findClass RX12 = some m.cls := S.2.2.2.1
  have ht : ∀ w ∈ lw_g, w.before args s = true := fun w h => S.2.2.2.2 w (List.mem_cons_of_mem _ h)
  have hP : va_P D vwCl (mW cy o ad tp os sz bits F G u nb ns T M id ft fo fi g pt ih il ip pn op so fa fp st en dr ++ tl) s.heap := hP
  refine lv_aload_n hx hb dX12_drops_0 rfl (lv_at hl 0 rfl) ?_
  refine va_get (ci := 9) (C := RX12) (T := TX12) (N := 28) hx hb ht iFX12 hown hK hP 0 rfl rfl 26 (by decide) (ht _ kw4_136) (fun _ h9 => h9) rfl dX12_drops_1 ?_
  refine lv_iload_n hx hb dX12_drops_4 rfl (lv_at hl 1 rfl) ?_
  refine lv_dup2_11 hx hb dX12_drops_5 rfl rfl ?_
  refine nv_iald hx hb hK hP 16 rfl (by omega) (by omega) dX12_drops_6 ?_
  refine nv_iconst (k := 1) hx hb dX12_drops_7 rfl ?_
  refine nv_iadd hx hb dX12_drops_8 ?_
  refine nv_iast hx hb hK hP hD hS 16 rfl (by omega) (by omega) dX12_drops_9 (fun H locs hP hD hS => ?_)
  rw [ni_upd] at hP hD
  have hP : va_P D vwCl (mW cy o ad tp os sz bits F G u nb ns T M id ft fo fi g pt ih il ip pn op so fa fp st en (va_up dr x ((dr x) + 1)) ++ tl) H := hP
  have hD : va_D A (mW cy o ad tp os sz bits F G u nb ns T M id ft fo fi g pt ih il ip pn op so fa fp st en (va_up dr x ((dr x) + 1)) ++ tl) := hD
  refine lv_iload_n hx hb dX12_drops_10 rfl (lv_at hl 1 rfl) ?_
  refine lv_ineg hx hb dX12_drops_11 ?_
  exact hend () rfl trivial hP hD hS dX12_drops_12
theorem dX12_begin_0 : decode cX12_begin 0 = .ok (.aload_n 0, 1) := by decide +kernel
theorem dX12_begin_1 : decode cX12_begin 1 = .ok (.iload_n 1, 1) := by decide +kernel
theorem dX12_begin_2 : decode cX12_begin 2 = .ok (.putfield 121, 3) := by decide +kernel
theorem dX12_begin_5 : decode cX12_begin 5 = .ok (.iconst 0, 1) := by decide +kernel
theorem dX12_begin_6 : decode cX12_begin 6 = .ok (.istore_n 2, 1) := by decide +kernel
theorem dX12_begin_7 : decode cX12_begin 7 = .ok (.iload_n 2, 1) := by decide +kernel
theorem dX12_begin_8 : decode cX12_begin 8 = .ok (.iload_n 1, 1) := by decide +kernel
theorem dX12_begin_9 : decode cX12_begin 9 = .ok (.if_icmp .ge 21, 3) := by decide +kernel
theorem dX12_begin_12 : decode cX12_begin 12 = .ok (.aload_n 0, 1) := by decide +kernel
theorem dX12_begin_13 : decode cX12_begin 13 = .ok (.getfield 16, 3) := by decide +kernel
theorem dX12_begin_16 : decode cX12_begin 16 = .ok (.iload_n 2, 1) := by decide +kernel
theorem dX12_begin_17 : decode cX12_begin 17 = .ok (.aload_n 0, 1) := by decide +kernel
theorem dX12_begin_18 : decode cX12_begin 18 = .ok (.getfield 7, 3) := by decide +kernel
theorem dX12_begin_21 : decode cX12_begin 21 = .ok (.iload_n 2, 1) := by decide +kernel
theorem dX12_begin_22 : decode cX12_begin 22 = .ok (.baload, 1) := by decide +kernel
theorem dX12_begin_23 : decode cX12_begin 23 = .ok (.bastore, 1) := by decide +kernel
theorem dX12_begin_24 : decode cX12_begin 24 = .ok (.iinc 2 1, 3) := by decide +kernel
theorem dX12_begin_27 : decode cX12_begin 27 = .ok (.goto (-20), 3) := by decide +kernel
theorem dX12_begin_30 : decode cX12_begin 30 = .ok (.aload_n 0, 1) := by decide +kernel
theorem dX12_begin_31 : decode cX12_begin 31 = .ok (.iconst 0, 1) := by decide +kernel
theorem dX12_begin_32 : decode cX12_begin 32 = .ok (.putfield 118, 3) := by decide +kernel
theorem dX12_begin_35 : decode cX12_begin 35 = .ok (.return_, 1) := by decide +kernel
theorem yv_X12_begin : YV RX12 yX12_begin cX12_begin 3 none 1 := ⟨kw5_35, kws_26, kw1_10, kw5_36, by decide +kernel⟩
set_option maxHeartbeats 4000000 in
set_option maxRecDepth 100000 in
theorem c_X12_begin {l : Launch} {D : va_G} {cy : Nat → ClassId} {o : Nat} {ad : Nat → Nat} {tl : va_W} {tp os sz bits F G u nb ns T M id : Nat} {ft fo fi : Nat → UInt8} {g : Nat → Int32} {pt ih il ip pn op so fa fp st en dr : Nat → Nat} {x : Nat} (hx0 : x ≤ 1600) : WR (S := Unit) l yX12_begin cX12_begin 3 none 0 0 0 0 [.ref o, .int (nI x)] D cy (mW cy o ad tp os sz bits F G u nb ns T M id ft fo fi g pt ih il ip pn op so fa fp st en dr ++ tl) (fun _ => none) (fun _ => True) (fun _ => mW cy o ad 0 os x bits F G u nb ns T M id ft fo (fun k => if k < x then ft k else fi k) g pt ih il ip pn op so fa fp st en dr ++ tl) := by
  refine WRv (by decide) (lv0 := [(0, .ref o), (1, .int (nI x))]) rfl (Nat.le_of_ble_eq_true rfl) ?_
  intro p e s m args below meth c ls A Q S hnm hP hK hD hS hA hend hl
  have hx := S.1
  have hb := S.2.1
  have hown : s.vm.findClass RX12 = some m.cls := S.2.2.2.1
  have ht : ∀ w ∈ lw_g, w.before args s = true := fun w h => S.2.2.2.2 w (List.mem_cons_of_mem _ h)
  have hP : va_P D vwCl (mW cy o ad tp os sz bits F G u nb ns T M id ft fo fi g pt ih il ip pn op so fa fp st en dr ++ tl) s.heap := hP
  refine lv_aload_n hx hb dX12_begin_0 rfl (lv_at hl 0 rfl) ?_
  refine lv_iload_n hx hb dX12_begin_1 rfl (lv_at hl 1 rfl) ?_
  refine va_put (ci := 9) (C := RX12) (T := TX12) (N := 28) (ty := tyX12 5) hx hb ht iFX12 tyX12 tyX12_ok nmX12 hown hK hP hD hS 0 rfl rfl 5 (by decide) (ht _ kw4_115) (fun _ h9 => h9) rfl (by decide +kernel) (by first | rfl | decide) (by first | rfl | decide) (Nat.le_of_ble_eq_true rfl) dX12_begin_2 (fun H locs hP hD hS => ?_)
  have hP : va_P D vwCl (mW cy o ad tp os x bits F G u nb ns T M id ft fo fi g pt ih il ip pn op so fa fp st en dr ++ tl) H := hP
  have hD : va_D A (mW cy o ad tp os x bits F G u nb ns T M id ft fo fi g pt ih il ip pn op so fa fp st en dr ++ tl) := hD
  refine nv_iconst (k := 0) hx hb dX12_begin_5 rfl ?_
  refine lv_istore_n (lv' := [(2, .int (nI 0)), (0, .ref o), (1, .int (nI x))]) hx hb dX12_begin_6 rfl hl (by decide) rfl (fun ls hl => ?_)
  have L7 : ∀ (fu i : Nat) (H : Heap) (locs : List Loc), x - i < fu → i ≤ x → va_P D vwCl (mW cy o ad tp os x bits F G u nb ns T M id ft fo ((fun k => if k < i then ft k else fi k)) g pt ih il ip pn op so fa fp st en dr ++ tl) H → va_D A (mW cy o ad tp os x bits F G u nb ns T M id ft fo ((fun k => if k < i then ft k else fi k)) g pt ih il ip pn op so fa fp st en dr ++ tl) → va_S A s.heap H locs → ∀ ls : Array Slot, lv_has ls 3 [(0, .ref o), (1, .int (nI x)), (2, .int (nI i))] → W p l e (rmw 0 0 0 0) s m args below meth c H locs 0 0 Q (F0 m 7 ls []) := by
    intro fu
    induction fu with
    | zero => intro i H locs h9; omega
    | succ fu ihh =>
      intro i H locs hfu hi hP hD hS ls hl
      refine lv_iload_n hx hb dX12_begin_7 rfl (lv_at hl 2 rfl) ?_
      refine lv_iload_n hx hb dX12_begin_8 rfl (lv_at hl 1 rfl) ?_
      refine nv_icmp_ge (tgt := 30) hx hb dX12_begin_9 (by decide) (by omega) (by omega) (fun h9 => ?_) (fun h9 => ?_)
      · skip
        have ei : x = i := by omega
        subst ei
        refine lv_aload_n hx hb dX12_begin_30 rfl (lv_at hl 0 rfl) ?_
        refine nv_iconst (k := 0) hx hb dX12_begin_31 rfl ?_
        refine va_put (ci := 9) (C := RX12) (T := TX12) (N := 28) (ty := tyX12 1) hx hb ht iFX12 tyX12 tyX12_ok nmX12 hown hK hP hD hS 0 rfl rfl 1 (by decide) (ht _ kw4_111) (fun _ h9 => h9) rfl (by decide +kernel) (by first | rfl | decide) (by first | rfl | decide) (Nat.le_of_ble_eq_true rfl) dX12_begin_32 (fun H locs hP hD hS => ?_)
        have hP : va_P D vwCl (mW cy o ad 0 os x bits F G u nb ns T M id ft fo (fun k => if k < x then ft k else fi k) g pt ih il ip pn op so fa fp st en dr ++ tl) H := hP
        have hD : va_D A (mW cy o ad 0 os x bits F G u nb ns T M id ft fo (fun k => if k < x then ft k else fi k) g pt ih il ip pn op so fa fp st en dr ++ tl) := hD
        exact hend () trivial hP hD hS dX12_begin_35
      refine lv_aload_n hx hb dX12_begin_12 rfl (lv_at hl 0 rfl) ?_
      refine va_get (ci := 9) (C := RX12) (T := TX12) (N := 28) hx hb ht iFX12 hown hK hP 0 rfl rfl 4 (by decide) (ht _ kw4_114) (fun _ h9 => h9) rfl dX12_begin_13 ?_
      refine lv_iload_n hx hb dX12_begin_16 rfl (lv_at hl 2 rfl) ?_
      refine lv_aload_n hx hb dX12_begin_17 rfl (lv_at hl 0 rfl) ?_
      refine va_get (ci := 9) (C := RX12) (T := TX12) (N := 28) hx hb ht iFX12 hown hK hP 0 rfl rfl 0 (by decide) (ht _ kw4_110) (fun _ h9 => h9) rfl dX12_begin_18 ?_
      refine lv_iload_n hx hb dX12_begin_21 rfl (lv_at hl 2 rfl) ?_
      refine nv_bald hx hb hK hP 1 rfl (by omega) (by omega) dX12_begin_22 ?_
      refine nv_bast hx hb hK hP hD hS 3 rfl (by omega) (by omega) dX12_begin_23 (fun H locs hP hD hS => ?_)
      have hP : va_P D vwCl (mW cy o ad tp os x bits F G u nb ns T M id ft fo (va_up ((fun k => if k < i then ft k else fi k)) i (by8 ((bt ft i)))) g pt ih il ip pn op so fa fp st en dr ++ tl) H := hP
      have hD : va_D A (mW cy o ad tp os x bits F G u nb ns T M id ft fo (va_up ((fun k => if k < i then ft k else fi k)) i (by8 ((bt ft i)))) g pt ih il ip pn op so fa fp st en dr ++ tl) := hD
      refine lv_iinc (v := (nI (i + 1))) (lv' := [(2, .int (nI (i + 1))), (0, .ref o), (1, .int (nI x))]) hx hb dX12_begin_24 hl (k := 2) rfl (nI_inc _ _) (by decide) rfl (fun ls hl => ?_)
      refine lv_goto (tgt := 7) hx hb dX12_begin_27 (by decide) ?_
      have e1 : va_up (fun k => if k < i then ft k else fi k) i (by8 (bt ft i)) = (fun k => if k < i + 1 then ft k else fi k) := by
        funext k
        rw [show by8 (bt ft i) = ft i from u8_rt (ft i)]
        unfold va_up
        by_cases h : k = i
        · simp [h]
        · by_cases h2 : k < i
          · simp [h, h2, show k < i + 1 by omega]
          · simp [h, h2, show ¬ k < i + 1 by omega]
      rw [e1] at hP hD
      exact ihh (i + 1) H locs (by omega) (by omega) hP hD hS ls (lv_sub hl [1, 2, 0] rfl)
  have e0 : fi = (fun k => if k < 0 then ft k else fi k) := by funext k; rw [if_neg (by omega)]
  exact L7 (x + 1) 0 H locs (by omega) (by omega) (by rw [← e0]; exact hP) (by rw [← e0]; exact hD) hS ls (lv_sub hl [1, 2, 0] rfl)
