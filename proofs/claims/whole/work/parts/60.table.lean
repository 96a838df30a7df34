theorem dX10_time_0 : decode cX10_time 0 = .ok (.aload_n 0, 1) := by decide +kernel
theorem dX10_time_1 : decode cX10_time 1 = .ok (.getfield 21, 3) := by decide +kernel
theorem dX10_time_4 : decode cX10_time 4 = .ok (.lreturn, 1) := by decide +kernel
theorem yv_X10_time : YV RX10 yX10_time cX10_time 1 (some .long) 0 := ⟨kw4_81, kw4_82, kw1_6, kw4_83, by decide +kernel⟩
set_option maxHeartbeats 4000000 in
set_option maxRecDepth 100000 in
theorem c_X10_time {l : Launch} {D : va_G} {cy : Nat → ClassId} {ws : va_W} {kt tb lb ls T : Nat} (hT : ws[kt]? = some (tE tb lb ls T)) : RO l yX10_time cX10_time 1 (some .long) 0 0 [.ref tb] D cy ws (.long (lN T)) := by
  refine ROl (by decide) (lv0 := [(0, .ref tb)]) rfl (Nat.le_of_ble_eq_true rfl) ?_
  intro p e s m args below meth c ls Q S hP hK hend hl
  have hx := S.1
  have hb := S.2.1
  have hown : s.vm.findClass RX10 = some m.cls := S.2.2.2.1
  have ht : ∀ w ∈ lw_g, w.before args s = true := fun w h => S.2.2.2.2 w (List.mem_cons_of_mem _ h)
  refine lv_aload_n hx hb dX10_time_0 rfl (lv_at hl 0 rfl) ?_
  refine va_get (ci := 7) (C := RX10) (T := TX10) (N := 3) hx hb ht iFX10 hown hK hP kt hT rfl 2 (by decide) (ht _ kw1_115) (fun _ h9 => h9) rfl dX10_time_1 ?_
  exact hend (rfl) dX10_time_4
theorem dX10_bindingCount_0 : decode cX10_bindingCount 0 = .ok (.aload_n 0, 1) := by decide +kernel
theorem dX10_bindingCount_1 : decode cX10_bindingCount 1 = .ok (.getfield 12, 3) := by decide +kernel
theorem dX10_bindingCount_4 : decode cX10_bindingCount 4 = .ok (.invokevirtual 25, 3) := by decide +kernel
theorem dX10_bindingCount_7 : decode cX10_bindingCount 7 = .ok (.ireturn, 1) := by decide +kernel
theorem yv_X10_bindingCount : YV RX10 yX10_bindingCount cX10_bindingCount 1 (some .int) 0 := ⟨kw4_89, kw4_90, kw1_6, kw4_91, by decide +kernel⟩
set_option maxHeartbeats 4000000 in
set_option maxRecDepth 100000 in
theorem c_X10_bindingCount {l : Launch} {D : va_G} {cy : Nat → ClassId} {ws : va_W} {kt tb lb ls T : Nat} (hT : ws[kt]? = some (tE tb lb ls T)) {kb eb nb : Nat} {mb : Int32} (hLb : ws[kb]? = some (aL lb mb eb nb)) : RO l yX10_bindingCount cX10_bindingCount 1 (some .int) 1 20 [.ref tb] D cy ws (.int (nI nb)) := by
  refine ROi (by decide) (lv0 := [(0, .ref tb)]) rfl (Nat.le_of_ble_eq_true rfl) ?_
  intro p e s m args below meth c ls Q S hP hK hend hl
  have hx := S.1
  have hb := S.2.1
  have hown : s.vm.findClass RX10 = some m.cls := S.2.2.2.1
  have ht : ∀ w ∈ lw_g, w.before args s = true := fun w h => S.2.2.2.2 w (List.mem_cons_of_mem _ h)
  refine lv_aload_n hx hb dX10_bindingCount_0 rfl (lv_at hl 0 rfl) ?_
  refine va_get (ci := 7) (C := RX10) (T := TX10) (N := 3) hx hb ht iFX10 hown hK hP kt hT rfl 0 (by decide) (ht _ kw1_113) (fun _ h9 => h9) rfl dX10_bindingCount_1 ?_
  refine ro_V S (c_Jx4a65c_size_8abf5 hLb) kw2_157 yv_Jx4a65c_size_8abf5 ⟨Nat.le_of_ble_eq_true rfl, Nat.le_of_ble_eq_true rfl⟩ hK hP (va_recv hK hP (ci := 0) (q0 := kb) rfl hLb) rfl hl.1 rfl (Nat.le_of_ble_eq_true rfl) dX10_bindingCount_4 ⟨(Nat.zero_le _), (Nat.zero_le _)⟩ ?_
  exact hend (rfl) dX10_bindingCount_7
theorem dX10_sessionCount_0 : decode cX10_sessionCount 0 = .ok (.aload_n 0, 1) := by decide +kernel
theorem dX10_sessionCount_1 : decode cX10_sessionCount 1 = .ok (.getfield 18, 3) := by decide +kernel
theorem dX10_sessionCount_4 : decode cX10_sessionCount 4 = .ok (.invokevirtual 25, 3) := by decide +kernel
theorem dX10_sessionCount_7 : decode cX10_sessionCount 7 = .ok (.ireturn, 1) := by decide +kernel
theorem yv_X10_sessionCount : YV RX10 yX10_sessionCount cX10_sessionCount 1 (some .int) 0 := ⟨kw4_93, kw4_94, kw1_6, kw4_95, by decide +kernel⟩
set_option maxHeartbeats 4000000 in
set_option maxRecDepth 100000 in
theorem c_X10_sessionCount {l : Launch} {D : va_G} {cy : Nat → ClassId} {ws : va_W} {kt tb lb ls T : Nat} (hT : ws[kt]? = some (tE tb lb ls T)) {kc es ns : Nat} {mc9 : Int32} (hLs : ws[kc]? = some (aL ls mc9 es ns)) : RO l yX10_sessionCount cX10_sessionCount 1 (some .int) 1 20 [.ref tb] D cy ws (.int (nI ns)) := by
  refine ROi (by decide) (lv0 := [(0, .ref tb)]) rfl (Nat.le_of_ble_eq_true rfl) ?_
  intro p e s m args below meth c ls Q S hP hK hend hl
  have hx := S.1
  have hb := S.2.1
  have hown : s.vm.findClass RX10 = some m.cls := S.2.2.2.1
  have ht : ∀ w ∈ lw_g, w.before args s = true := fun w h => S.2.2.2.2 w (List.mem_cons_of_mem _ h)
  refine lv_aload_n hx hb dX10_sessionCount_0 rfl (lv_at hl 0 rfl) ?_
  refine va_get (ci := 7) (C := RX10) (T := TX10) (N := 3) hx hb ht iFX10 hown hK hP kt hT rfl 1 (by decide) (ht _ kw1_114) (fun _ h9 => h9) rfl dX10_sessionCount_1 ?_
  refine ro_V S (c_Jx4a65c_size_8abf5 hLs) kw2_157 yv_Jx4a65c_size_8abf5 ⟨Nat.le_of_ble_eq_true rfl, Nat.le_of_ble_eq_true rfl⟩ hK hP (va_recv hK hP (ci := 0) (q0 := kc) rfl hLs) rfl hl.1 rfl (Nat.le_of_ble_eq_true rfl) dX10_sessionCount_4 ⟨(Nat.zero_le _), (Nat.zero_le _)⟩ ?_
  exact hend (rfl) dX10_sessionCount_7
theorem dX10_bindingAt_0 : decode cX10_bindingAt 0 = .ok (.iload_n 1, 1) := by decide +kernel
theorem dX10_bindingAt_1 : decode cX10_bindingAt 1 = .ok (.ifCond .lt 28, 3) := by decide +kernel
theorem dX10_bindingAt_4 : decode cX10_bindingAt 4 = .ok (.iload_n 1, 1) := by decide +kernel
theorem dX10_bindingAt_5 : decode cX10_bindingAt 5 = .ok (.aload_n 0, 1) := by decide +kernel
theorem dX10_bindingAt_6 : decode cX10_bindingAt 6 = .ok (.getfield 12, 3) := by decide +kernel
theorem dX10_bindingAt_9 : decode cX10_bindingAt 9 = .ok (.invokevirtual 25, 3) := by decide +kernel
theorem dX10_bindingAt_12 : decode cX10_bindingAt 12 = .ok (.if_icmp .ge 17, 3) := by decide +kernel
theorem dX10_bindingAt_15 : decode cX10_bindingAt 15 = .ok (.aload_n 0, 1) := by decide +kernel
theorem dX10_bindingAt_16 : decode cX10_bindingAt 16 = .ok (.getfield 12, 3) := by decide +kernel
theorem dX10_bindingAt_19 : decode cX10_bindingAt 19 = .ok (.iload_n 1, 1) := by decide +kernel
theorem dX10_bindingAt_20 : decode cX10_bindingAt 20 = .ok (.invokevirtual 29, 3) := by decide +kernel
theorem dX10_bindingAt_23 : decode cX10_bindingAt 23 = .ok (.checkcast 33, 3) := by decide +kernel
theorem dX10_bindingAt_26 : decode cX10_bindingAt 26 = .ok (.goto 4, 3) := by decide +kernel
theorem dX10_bindingAt_29 : decode cX10_bindingAt 29 = .ok (.aconst_null, 1) := by decide +kernel
theorem dX10_bindingAt_30 : decode cX10_bindingAt 30 = .ok (.areturn, 1) := by decide +kernel
theorem yv_X10_bindingAt : YV RX10 yX10_bindingAt cX10_bindingAt 2 (some (.object "TransitGate$Binding")) 1 := ⟨kw4_60, kw4_61, kw1_6, kw4_62, by decide +kernel⟩
set_option maxHeartbeats 4000000 in
set_option maxRecDepth 100000 in
theorem c_X10_bindingAt {l : Launch} {D : va_G} {cy : Nat → ClassId} {ws : va_W} {kt tb lb ls T : Nat} (hT : ws[kt]? = some (tE tb lb ls T)) {kb eb nb e0 : Nat} {mb : Int32} (hLb : ws[kb]? = some (aL lb mb eb nb)) {ba pt ih il ip pn op : Nat → Nat} (hB : TB1 cy ws e0 eb nb ba pt ih il ip pn op) (hb_pt : ∀ i, pt i < 2 ^ 31) (hb_ih : ∀ i, ih i < 2 ^ 64) (hb_il : ∀ i, il i < 2 ^ 64) (hb_ip : ∀ i, ip i < 2 ^ 31) (hb_pn : ∀ i, pn i < 2 ^ 31) (hb_op : ∀ i, op i < 2 ^ 31) {i : Nat} (hi : i < 2 ^ 31) : RO l yX10_bindingAt cX10_bindingAt 2 (some (.object "TransitGate$Binding")) 3 64 [.ref tb, .int (nI i)] D cy ws (va_rf (if i < nb then some (ba i) else none)) := by
  refine ROr (by first | exact Or.inl ⟨_, rfl⟩ | exact Or.inr ⟨_, rfl⟩) (by decide) (lv0 := [(0, .ref tb), (1, .int (nI i))]) rfl (Nat.le_of_ble_eq_true rfl) ?_
  intro p e s m args below meth c ls Q S hP hK hend hl
  have hx := S.1
  have hb := S.2.1
  have hown : s.vm.findClass RX10 = some m.cls := S.2.2.2.1
  have ht : ∀ w ∈ lw_g, w.before args s = true := fun w h => S.2.2.2.2 w (List.mem_cons_of_mem _ h)
  have hnb := hB.le
  refine lv_iload_n hx hb dX10_bindingAt_0 rfl (lv_at hl 1 rfl) ?_
  refine nv_if_lt (tgt := 29) hx hb dX10_bindingAt_1 (by decide) (by omega) ?_
  refine lv_iload_n hx hb dX10_bindingAt_4 rfl (lv_at hl 1 rfl) ?_
  refine lv_aload_n hx hb dX10_bindingAt_5 rfl (lv_at hl 0 rfl) ?_
  refine va_get (ci := 7) (C := RX10) (T := TX10) (N := 3) hx hb ht iFX10 hown hK hP kt hT rfl 0 (by decide) (ht _ kw1_113) (fun _ h9 => h9) rfl dX10_bindingAt_6 ?_
  refine ro_V S (c_Jx4a65c_size_8abf5 hLb) kw2_157 yv_Jx4a65c_size_8abf5 ⟨Nat.le_of_ble_eq_true rfl, Nat.le_of_ble_eq_true rfl⟩ hK hP (va_recv hK hP (ci := 0) (q0 := kb) rfl hLb) rfl hl.1 rfl (Nat.le_of_ble_eq_true rfl) dX10_bindingAt_9 ⟨(Nat.zero_le _), (Nat.zero_le _)⟩ ?_
  refine nv_icmp_ge (tgt := 29) hx hb dX10_bindingAt_12 (by decide) (by omega) (by omega) (fun h12 => ?_) (fun h12 => ?_)
  · skip
    refine lv_null hx hb dX10_bindingAt_29 ?_
    exact hend ((by rw [if_neg (by omega)]; rfl)) dX10_bindingAt_30
  refine lv_aload_n hx hb dX10_bindingAt_15 rfl (lv_at hl 0 rfl) ?_
  refine va_get (ci := 7) (C := RX10) (T := TX10) (N := 3) hx hb ht iFX10 hown hK hP kt hT rfl 0 (by decide) (ht _ kw1_113) (fun _ h9 => h9) rfl dX10_bindingAt_16 ?_
  refine lv_iload_n hx hb dX10_bindingAt_19 rfl (lv_at hl 1 rfl) ?_
  refine ro_V S (c_getB hLb hB (i := i) (by omega)) kw2_161 yv_Jx4a65c_get_915e3 ⟨Nat.le_of_ble_eq_true rfl, Nat.le_of_ble_eq_true rfl⟩ hK hP (va_recv hK hP (ci := 0) (q0 := kb) rfl hLb) rfl hl.1 rfl (Nat.le_of_ble_eq_true rfl) dX10_bindingAt_20 ⟨(Nat.zero_le _), (Nat.zero_le _)⟩ ?_
  obtain ⟨k_1, hk_1⟩ := hB.at (i := i) (by omega)
  have hk_1_pt := hb_pt i
  have hk_1_ih := hb_ih i
  have hk_1_il := hb_il i
  have hk_1_ip := hb_ip i
  have hk_1_pn := hb_pn i
  have hk_1_op := hb_op i
  refine va_castS hx hb hown (ht _ kw2_175) (hK.1 1 _ rfl).2 (va_recv hK hP (ci := 1) (q0 := k_1) rfl hk_1) dX10_bindingAt_23 ?_
  refine lv_goto (tgt := 30) hx hb dX10_bindingAt_26 (by decide) ?_
  exact hend ((by rw [if_pos (by omega)]; rfl)) dX10_bindingAt_30
set_option maxHeartbeats 4000000 in
set_option maxRecDepth 100000 in
theorem c_X10_bindingAtN {l : Launch} {D : va_G} {cy : Nat → ClassId} {ws : va_W} {kt tb lb ls T : Nat} (hT : ws[kt]? = some (tE tb lb ls T)) {i : Int32} (hi : i < 0) : RO l yX10_bindingAt cX10_bindingAt 2 (some (.object "TransitGate$Binding")) 0 0 [.ref tb, .int i] D cy ws (va_rf (none)) := by
  refine ROr (by first | exact Or.inl ⟨_, rfl⟩ | exact Or.inr ⟨_, rfl⟩) (by decide) (lv0 := [(0, .ref tb), (1, .int i)]) rfl (Nat.le_of_ble_eq_true rfl) ?_
  intro p e s m args below meth c ls Q S hP hK hend hl
  have hx := S.1
  have hb := S.2.1
  have hown : s.vm.findClass RX10 = some m.cls := S.2.2.2.1
  have ht : ∀ w ∈ lw_g, w.before args s = true := fun w h => S.2.2.2.2 w (List.mem_cons_of_mem _ h)
  refine lv_iload_n hx hb dX10_bindingAt_0 rfl (lv_at hl 1 rfl) ?_
  refine lv_if_lt (tgt := 29) hx hb dX10_bindingAt_1 (by decide) (fun h1 => ?_) (fun h1 => ?_)
  · skip
    refine lv_null hx hb dX10_bindingAt_29 ?_
    exact hend (rfl) dX10_bindingAt_30
  exact absurd hi h1
theorem dX10_sessionAt_0 : decode cX10_sessionAt 0 = .ok (.iload_n 1, 1) := by decide +kernel
theorem dX10_sessionAt_1 : decode cX10_sessionAt 1 = .ok (.ifCond .lt 28, 3) := by decide +kernel
theorem dX10_sessionAt_4 : decode cX10_sessionAt 4 = .ok (.iload_n 1, 1) := by decide +kernel
theorem dX10_sessionAt_5 : decode cX10_sessionAt 5 = .ok (.aload_n 0, 1) := by decide +kernel
theorem dX10_sessionAt_6 : decode cX10_sessionAt 6 = .ok (.getfield 18, 3) := by decide +kernel
theorem dX10_sessionAt_9 : decode cX10_sessionAt 9 = .ok (.invokevirtual 25, 3) := by decide +kernel
theorem dX10_sessionAt_12 : decode cX10_sessionAt 12 = .ok (.if_icmp .ge 17, 3) := by decide +kernel
theorem dX10_sessionAt_15 : decode cX10_sessionAt 15 = .ok (.aload_n 0, 1) := by decide +kernel
theorem dX10_sessionAt_16 : decode cX10_sessionAt 16 = .ok (.getfield 18, 3) := by decide +kernel
theorem dX10_sessionAt_19 : decode cX10_sessionAt 19 = .ok (.iload_n 1, 1) := by decide +kernel
theorem dX10_sessionAt_20 : decode cX10_sessionAt 20 = .ok (.invokevirtual 29, 3) := by decide +kernel
theorem dX10_sessionAt_23 : decode cX10_sessionAt 23 = .ok (.checkcast 35, 3) := by decide +kernel
theorem dX10_sessionAt_26 : decode cX10_sessionAt 26 = .ok (.goto 4, 3) := by decide +kernel
theorem dX10_sessionAt_29 : decode cX10_sessionAt 29 = .ok (.aconst_null, 1) := by decide +kernel
theorem dX10_sessionAt_30 : decode cX10_sessionAt 30 = .ok (.areturn, 1) := by decide +kernel
theorem yv_X10_sessionAt : YV RX10 yX10_sessionAt cX10_sessionAt 2 (some (.object "TransitGate$Session")) 1 := ⟨kw4_73, kw4_74, kw1_6, kw4_75, by decide +kernel⟩
set_option maxHeartbeats 4000000 in
set_option maxRecDepth 100000 in
theorem c_X10_sessionAt {l : Launch} {D : va_G} {cy : Nat → ClassId} {ws : va_W} {kt tb lb ls T : Nat} (hT : ws[kt]? = some (tE tb lb ls T)) {kc es ns nb e0 : Nat} {mc9 : Int32} (hLs : ws[kc]? = some (aL ls mc9 es ns)) {ba sa so fa fp st en : Nat → Nat} (hS1 : TS1 cy ws e0 es ns nb ba sa so fa fp st en) (hb_fa : ∀ i, fa i < 2 ^ 32) (hb_fp : ∀ i, fp i < 2 ^ 31) (hb_st : ∀ i, st i ≤ 7) (hb_en : ∀ i, en i < 2 ^ 62) {i : Nat} (hi : i < 2 ^ 31) : RO l yX10_sessionAt cX10_sessionAt 2 (some (.object "TransitGate$Session")) 3 64 [.ref tb, .int (nI i)] D cy ws (va_rf (if i < ns then some (sa i) else none)) := by
  refine ROr (by first | exact Or.inl ⟨_, rfl⟩ | exact Or.inr ⟨_, rfl⟩) (by decide) (lv0 := [(0, .ref tb), (1, .int (nI i))]) rfl (Nat.le_of_ble_eq_true rfl) ?_
  intro p e s m args below meth c ls Q S hP hK hend hl
  have hx := S.1
  have hb := S.2.1
  have hown : s.vm.findClass RX10 = some m.cls := S.2.2.2.1
  have ht : ∀ w ∈ lw_g, w.before args s = true := fun w h => S.2.2.2.2 w (List.mem_cons_of_mem _ h)
  have hns := hS1.le
  refine lv_iload_n hx hb dX10_sessionAt_0 rfl (lv_at hl 1 rfl) ?_
  refine nv_if_lt (tgt := 29) hx hb dX10_sessionAt_1 (by decide) (by omega) ?_
  refine lv_iload_n hx hb dX10_sessionAt_4 rfl (lv_at hl 1 rfl) ?_
  refine lv_aload_n hx hb dX10_sessionAt_5 rfl (lv_at hl 0 rfl) ?_
  refine va_get (ci := 7) (C := RX10) (T := TX10) (N := 3) hx hb ht iFX10 hown hK hP kt hT rfl 1 (by decide) (ht _ kw1_114) (fun _ h9 => h9) rfl dX10_sessionAt_6 ?_
  refine ro_V S (c_Jx4a65c_size_8abf5 hLs) kw2_157 yv_Jx4a65c_size_8abf5 ⟨Nat.le_of_ble_eq_true rfl, Nat.le_of_ble_eq_true rfl⟩ hK hP (va_recv hK hP (ci := 0) (q0 := kc) rfl hLs) rfl hl.1 rfl (Nat.le_of_ble_eq_true rfl) dX10_sessionAt_9 ⟨(Nat.zero_le _), (Nat.zero_le _)⟩ ?_
  refine nv_icmp_ge (tgt := 29) hx hb dX10_sessionAt_12 (by decide) (by omega) (by omega) (fun h12 => ?_) (fun h12 => ?_)
  · skip
    refine lv_null hx hb dX10_sessionAt_29 ?_
    exact hend ((by rw [if_neg (by omega)]; rfl)) dX10_sessionAt_30
  refine lv_aload_n hx hb dX10_sessionAt_15 rfl (lv_at hl 0 rfl) ?_
  refine va_get (ci := 7) (C := RX10) (T := TX10) (N := 3) hx hb ht iFX10 hown hK hP kt hT rfl 1 (by decide) (ht _ kw1_114) (fun _ h9 => h9) rfl dX10_sessionAt_16 ?_
  refine lv_iload_n hx hb dX10_sessionAt_19 rfl (lv_at hl 1 rfl) ?_
  refine ro_V S (c_getS hLs hS1 (i := i) (by omega)) kw2_161 yv_Jx4a65c_get_915e3 ⟨Nat.le_of_ble_eq_true rfl, Nat.le_of_ble_eq_true rfl⟩ hK hP (va_recv hK hP (ci := 0) (q0 := kc) rfl hLs) rfl hl.1 rfl (Nat.le_of_ble_eq_true rfl) dX10_sessionAt_20 ⟨(Nat.zero_le _), (Nat.zero_le _)⟩ ?_
  obtain ⟨k_1, hk_1⟩ := hS1.at (i := i) (by omega)
  have hk_1_fa := hb_fa i
  have hk_1_fp := hb_fp i
  have hk_1_st := hb_st i
  have hk_1_en := hb_en i
  have hk_1_so := hS1.own (i := i) (by omega)
  refine va_castS hx hb hown (ht _ kw2_184) (hK.1 5 _ rfl).2 (va_recv hK hP (ci := 5) (q0 := k_1) rfl hk_1) dX10_sessionAt_23 ?_
  refine lv_goto (tgt := 30) hx hb dX10_sessionAt_26 (by decide) ?_
  exact hend ((by rw [if_pos (by omega)]; rfl)) dX10_sessionAt_30
set_option maxHeartbeats 4000000 in
set_option maxRecDepth 100000 in
theorem c_X10_sessionAtN {l : Launch} {D : va_G} {cy : Nat → ClassId} {ws : va_W} {kt tb lb ls T : Nat} (hT : ws[kt]? = some (tE tb lb ls T)) {i : Int32} (hi : i < 0) : RO l yX10_sessionAt cX10_sessionAt 2 (some (.object "TransitGate$Session")) 0 0 [.ref tb, .int i] D cy ws (va_rf (none)) := by
  refine ROr (by first | exact Or.inl ⟨_, rfl⟩ | exact Or.inr ⟨_, rfl⟩) (by decide) (lv0 := [(0, .ref tb), (1, .int i)]) rfl (Nat.le_of_ble_eq_true rfl) ?_
  intro p e s m args below meth c ls Q S hP hK hend hl
  have hx := S.1
  have hb := S.2.1
  have hown : s.vm.findClass RX10 = some m.cls := S.2.2.2.1
  have ht : ∀ w ∈ lw_g, w.before args s = true := fun w h => S.2.2.2.2 w (List.mem_cons_of_mem _ h)
  refine lv_iload_n hx hb dX10_sessionAt_0 rfl (lv_at hl 1 rfl) ?_
  refine lv_if_lt (tgt := 29) hx hb dX10_sessionAt_1 (by decide) (fun h1 => ?_) (fun h1 => ?_)
  · skip
    refine lv_null hx hb dX10_sessionAt_29 ?_
    exact hend (rfl) dX10_sessionAt_30
  exact absurd hi h1
theorem dX10_numberOf_0 : decode cX10_numberOf 0 = .ok (.iconst 0, 1) := by decide +kernel
theorem dX10_numberOf_1 : decode cX10_numberOf 1 = .ok (.istore_n 2, 1) := by decide +kernel
theorem dX10_numberOf_2 : decode cX10_numberOf 2 = .ok (.iload_n 2, 1) := by decide +kernel
theorem dX10_numberOf_3 : decode cX10_numberOf 3 = .ok (.aload_n 0, 1) := by decide +kernel
theorem dX10_numberOf_4 : decode cX10_numberOf 4 = .ok (.getfield 12, 3) := by decide +kernel
theorem dX10_numberOf_7 : decode cX10_numberOf 7 = .ok (.invokevirtual 25, 3) := by decide +kernel
theorem dX10_numberOf_10 : decode cX10_numberOf 10 = .ok (.if_icmp .ge 23, 3) := by decide +kernel
theorem dX10_numberOf_13 : decode cX10_numberOf 13 = .ok (.aload_n 0, 1) := by decide +kernel
theorem dX10_numberOf_14 : decode cX10_numberOf 14 = .ok (.getfield 12, 3) := by decide +kernel
theorem dX10_numberOf_17 : decode cX10_numberOf 17 = .ok (.iload_n 2, 1) := by decide +kernel
theorem dX10_numberOf_18 : decode cX10_numberOf 18 = .ok (.invokevirtual 29, 3) := by decide +kernel
theorem dX10_numberOf_21 : decode cX10_numberOf 21 = .ok (.aload_n 1, 1) := by decide +kernel
theorem dX10_numberOf_22 : decode cX10_numberOf 22 = .ok (.if_acmp .ne 5, 3) := by decide +kernel
theorem dX10_numberOf_25 : decode cX10_numberOf 25 = .ok (.iload_n 2, 1) := by decide +kernel
theorem dX10_numberOf_26 : decode cX10_numberOf 26 = .ok (.ireturn, 1) := by decide +kernel
theorem dX10_numberOf_27 : decode cX10_numberOf 27 = .ok (.iinc 2 1, 3) := by decide +kernel
theorem dX10_numberOf_30 : decode cX10_numberOf 30 = .ok (.goto (-28), 3) := by decide +kernel
theorem dX10_numberOf_33 : decode cX10_numberOf 33 = .ok (.iconst (-1), 1) := by decide +kernel
theorem dX10_numberOf_34 : decode cX10_numberOf 34 = .ok (.ireturn, 1) := by decide +kernel
theorem yv_X10_numberOf : YV RX10 yX10_numberOf cX10_numberOf 3 (some .int) 1 := ⟨kw4_77, kw4_78, kw1_6, kw4_79, by decide +kernel⟩
set_option maxHeartbeats 4000000 in
set_option maxRecDepth 100000 in
theorem c_X10_numberOf {l : Launch} {D : va_G} {cy : Nat → ClassId} {ws : va_W} {kt tb lb ls T : Nat} (hT : ws[kt]? = some (tE tb lb ls T)) {kb eb nb e0 : Nat} {mb : Int32} (hLb : ws[kb]? = some (aL lb mb eb nb)) {ba pt ih il ip pn op : Nat → Nat} (hB : TB1 cy ws e0 eb nb ba pt ih il ip pn op) (hb_pt : ∀ i, pt i < 2 ^ 31) (hb_ih : ∀ i, ih i < 2 ^ 64) (hb_il : ∀ i, il i < 2 ^ 64) (hb_ip : ∀ i, ip i < 2 ^ 31) (hb_pn : ∀ i, pn i < 2 ^ 31) (hb_op : ∀ i, op i < 2 ^ 31) {b : Nat} (hb9 : b < nb) : RO l yX10_numberOf cX10_numberOf 3 (some .int) 3 64 [.ref tb, .ref (ba b)] D cy ws (.int (nI b)) := by
  refine ROi (by decide) (lv0 := [(0, .ref tb), (1, .ref (ba b))]) rfl (Nat.le_of_ble_eq_true rfl) ?_
  intro p e s m args below meth c ls Q S hP hK hend hl
  have hx := S.1
  have hb := S.2.1
  have hown : s.vm.findClass RX10 = some m.cls := S.2.2.2.1
  have ht : ∀ w ∈ lw_g, w.before args s = true := fun w h => S.2.2.2.2 w (List.mem_cons_of_mem _ h)
  have hnb := hB.le
  refine nv_iconst (k := 0) hx hb dX10_numberOf_0 rfl ?_
  refine lv_istore_n (lv' := [(2, .int (nI 0)), (0, .ref tb), (1, .ref (ba b))]) hx hb dX10_numberOf_1 rfl hl (by decide) rfl (fun ls hl => ?_)
  have L2 : ∀ (fu : Nat) (i : Nat), nb - i < fu → i ≤ b → ∀ ls : Array Slot, lv_has ls 3 [(0, .ref tb), (1, .ref (ba b)), (2, .int (nI i))] → W p l e (rmo 3 64) s m args below meth c s.heap [] 0 0 Q (F0 m 2 ls []) := by
    intro fu
    induction fu with
    | zero => intro i h9; omega
    | succ fu ihh =>
      intro i hfu hi9 ls hl
      refine lv_iload_n hx hb dX10_numberOf_2 rfl (lv_at hl 2 rfl) ?_
      refine lv_aload_n hx hb dX10_numberOf_3 rfl (lv_at hl 0 rfl) ?_
      refine va_get (ci := 7) (C := RX10) (T := TX10) (N := 3) hx hb ht iFX10 hown hK hP kt hT rfl 0 (by decide) (ht _ kw1_113) (fun _ h9 => h9) rfl dX10_numberOf_4 ?_
      refine ro_V S (c_Jx4a65c_size_8abf5 hLb) kw2_157 yv_Jx4a65c_size_8abf5 ⟨Nat.le_of_ble_eq_true rfl, Nat.le_of_ble_eq_true rfl⟩ hK hP (va_recv hK hP (ci := 0) (q0 := kb) rfl hLb) rfl hl.1 rfl (Nat.le_of_ble_eq_true rfl) dX10_numberOf_7 ⟨(Nat.zero_le _), (Nat.zero_le _)⟩ ?_
      refine nv_icmp_ge (tgt := 33) hx hb dX10_numberOf_10 (by decide) (by omega) (by omega) (fun h10 => ?_) (fun h10 => ?_)
      · skip
        refine lv_iconst (v := -1) hx hb dX10_numberOf_33 (by decide) ?_
        exact hend ((absurd h10 (by omega))) dX10_numberOf_34
      refine lv_aload_n hx hb dX10_numberOf_13 rfl (lv_at hl 0 rfl) ?_
      refine va_get (ci := 7) (C := RX10) (T := TX10) (N := 3) hx hb ht iFX10 hown hK hP kt hT rfl 0 (by decide) (ht _ kw1_113) (fun _ h9 => h9) rfl dX10_numberOf_14 ?_
      refine lv_iload_n hx hb dX10_numberOf_17 rfl (lv_at hl 2 rfl) ?_
      refine ro_V S (c_getB hLb hB (i := i) (by omega)) kw2_161 yv_Jx4a65c_get_915e3 ⟨Nat.le_of_ble_eq_true rfl, Nat.le_of_ble_eq_true rfl⟩ hK hP (va_recv hK hP (ci := 0) (q0 := kb) rfl hLb) rfl hl.1 rfl (Nat.le_of_ble_eq_true rfl) dX10_numberOf_18 ⟨(Nat.zero_le _), (Nat.zero_le _)⟩ ?_
      obtain ⟨k_1, hk_1⟩ := hB.at (i := i) (by omega)
      have hk_1_pt := hb_pt i
      have hk_1_ih := hb_ih i
      have hk_1_il := hb_il i
      have hk_1_ip := hb_ip i
      have hk_1_pn := hb_pn i
      have hk_1_op := hb_op i
      refine lv_aload_n hx hb dX10_numberOf_21 rfl (lv_at hl 1 rfl) ?_
      refine lv_acmp_ne (rx := some (ba i)) (ry := some (ba b)) (tgt := 27) hx hb dX10_numberOf_22 (by decide) (fun h22 => ?_) (fun h22 => ?_)
      · skip
        refine lv_iinc (v := (nI (i + 1))) (lv' := [(2, .int (nI (i + 1))), (0, .ref tb), (1, .ref (ba b))]) hx hb dX10_numberOf_27 hl (k := 2) rfl (nI_inc _ _) (by decide) rfl (fun ls hl => ?_)
        refine lv_goto (tgt := 2) hx hb dX10_numberOf_30 (by decide) ?_
        exact ihh (i + 1) (by omega) (by have h9 : i ≠ b := fun z => h22 (by rw [z]); omega) ls (lv_sub hl [1, 2, 0] rfl)
      refine lv_iload_n hx hb dX10_numberOf_25 rfl (lv_at hl 2 rfl) ?_
      exact hend ((congrArg nI (hB.inj (by omega) hb9 (sinj h22)))) dX10_numberOf_26
  exact L2 (nb + 1) 0 (by omega) (by omega) ls (lv_sub hl [1, 2, 0] rfl)
theorem dX10_sessionsOf_0 : decode cX10_sessionsOf 0 = .ok (.iconst 0, 1) := by decide +kernel
theorem dX10_sessionsOf_1 : decode cX10_sessionsOf 1 = .ok (.istore_n 2, 1) := by decide +kernel
theorem dX10_sessionsOf_2 : decode cX10_sessionsOf 2 = .ok (.iconst 0, 1) := by decide +kernel
theorem dX10_sessionsOf_3 : decode cX10_sessionsOf 3 = .ok (.istore_n 3, 1) := by decide +kernel
theorem dX10_sessionsOf_4 : decode cX10_sessionsOf 4 = .ok (.iload_n 3, 1) := by decide +kernel
theorem dX10_sessionsOf_5 : decode cX10_sessionsOf 5 = .ok (.aload_n 0, 1) := by decide +kernel
theorem dX10_sessionsOf_6 : decode cX10_sessionsOf 6 = .ok (.getfield 18, 3) := by decide +kernel
theorem dX10_sessionsOf_9 : decode cX10_sessionsOf 9 = .ok (.invokevirtual 25, 3) := by decide +kernel
theorem dX10_sessionsOf_12 : decode cX10_sessionsOf 12 = .ok (.if_icmp .ge 30, 3) := by decide +kernel
theorem dX10_sessionsOf_15 : decode cX10_sessionsOf 15 = .ok (.aload_n 0, 1) := by decide +kernel
theorem dX10_sessionsOf_16 : decode cX10_sessionsOf 16 = .ok (.getfield 18, 3) := by decide +kernel
theorem dX10_sessionsOf_19 : decode cX10_sessionsOf 19 = .ok (.iload_n 3, 1) := by decide +kernel
theorem dX10_sessionsOf_20 : decode cX10_sessionsOf 20 = .ok (.invokevirtual 29, 3) := by decide +kernel
theorem dX10_sessionsOf_23 : decode cX10_sessionsOf 23 = .ok (.checkcast 35, 3) := by decide +kernel
theorem dX10_sessionsOf_26 : decode cX10_sessionsOf 26 = .ok (.getfield 40, 3) := by decide +kernel
theorem dX10_sessionsOf_29 : decode cX10_sessionsOf 29 = .ok (.aload_n 1, 1) := by decide +kernel
theorem dX10_sessionsOf_30 : decode cX10_sessionsOf 30 = .ok (.if_acmp .ne 6, 3) := by decide +kernel
theorem dX10_sessionsOf_33 : decode cX10_sessionsOf 33 = .ok (.iinc 2 1, 3) := by decide +kernel
theorem dX10_sessionsOf_36 : decode cX10_sessionsOf 36 = .ok (.iinc 3 1, 3) := by decide +kernel
theorem dX10_sessionsOf_39 : decode cX10_sessionsOf 39 = .ok (.goto (-35), 3) := by decide +kernel
theorem dX10_sessionsOf_42 : decode cX10_sessionsOf 42 = .ok (.iload_n 2, 1) := by decide +kernel
theorem dX10_sessionsOf_43 : decode cX10_sessionsOf 43 = .ok (.ireturn, 1) := by decide +kernel
theorem yv_X10_sessionsOf : YV RX10 yX10_sessionsOf cX10_sessionsOf 4 (some .int) 1 := ⟨kw4_52, kw4_53, kw1_6, kw4_54, by decide +kernel⟩
set_option maxHeartbeats 4000000 in
set_option maxRecDepth 100000 in
theorem c_X10_sessionsOf {l : Launch} {D : va_G} {cy : Nat → ClassId} {ws : va_W} {kt tb lb ls T : Nat} (hT : ws[kt]? = some (tE tb lb ls T)) {kb eb nb e0 : Nat} {mb : Int32} (hLb : ws[kb]? = some (aL lb mb eb nb)) {ba pt ih il ip pn op : Nat → Nat} (hB : TB1 cy ws e0 eb nb ba pt ih il ip pn op) {kc es ns : Nat} {mc9 : Int32} (hLs : ws[kc]? = some (aL ls mc9 es ns)) {sa so fa fp st en : Nat → Nat} (hS1 : TS1 cy ws e0 es ns nb ba sa so fa fp st en) (hb_fa : ∀ i, fa i < 2 ^ 32) (hb_fp : ∀ i, fp i < 2 ^ 31) (hb_st : ∀ i, st i ≤ 7) (hb_en : ∀ i, en i < 2 ^ 62) {b : Nat} (hb9 : b < nb) : RO l yX10_sessionsOf cX10_sessionsOf 4 (some .int) 3 64 [.ref tb, .ref (ba b)] D cy ws (.int (nI (tg_cnt (fun k => decide (so k = b)) ns))) := by
  refine ROi (by decide) (lv0 := [(0, .ref tb), (1, .ref (ba b))]) rfl (Nat.le_of_ble_eq_true rfl) ?_
  intro p e s m args below meth c ls Q S hP hK hend hl
  have hx := S.1
  have hb := S.2.1
  have hown : s.vm.findClass RX10 = some m.cls := S.2.2.2.1
  have ht : ∀ w ∈ lw_g, w.before args s = true := fun w h => S.2.2.2.2 w (List.mem_cons_of_mem _ h)
  have hnb := hB.le
  have hns := hS1.le
  refine nv_iconst (k := 0) hx hb dX10_sessionsOf_0 rfl ?_
  refine lv_istore_n (lv' := [(2, .int (nI 0)), (0, .ref tb), (1, .ref (ba b))]) hx hb dX10_sessionsOf_1 rfl hl (by decide) rfl (fun ls hl => ?_)
  refine nv_iconst (k := 0) hx hb dX10_sessionsOf_2 rfl ?_
  refine lv_istore_n (lv' := [(3, .int (nI 0)), (2, .int (nI 0)), (0, .ref tb), (1, .ref (ba b))]) hx hb dX10_sessionsOf_3 rfl hl (by decide) rfl (fun ls hl => ?_)
  have L4 : ∀ (fu : Nat) (i : Nat) (c9 : Nat), ns - i < fu → i ≤ ns → c9 = tg_cnt (fun k => decide (so k = b)) i → ∀ ls : Array Slot, lv_has ls 4 [(0, .ref tb), (1, .ref (ba b)), (2, .int (nI c9)), (3, .int (nI i))] → W p l e (rmo 3 64) s m args below meth c s.heap [] 0 0 Q (F0 m 4 ls []) := by
    intro fu
    induction fu with
    | zero => intro i c9 h9; omega
    | succ fu ihh =>
      intro i c9 hfu hi9 hc9 ls hl
      have hcl := tg_cnt_le (fun k => decide (so k = b)) i
      refine lv_iload_n hx hb dX10_sessionsOf_4 rfl (lv_at hl 3 rfl) ?_
      refine lv_aload_n hx hb dX10_sessionsOf_5 rfl (lv_at hl 0 rfl) ?_
      refine va_get (ci := 7) (C := RX10) (T := TX10) (N := 3) hx hb ht iFX10 hown hK hP kt hT rfl 1 (by decide) (ht _ kw1_114) (fun _ h9 => h9) rfl dX10_sessionsOf_6 ?_
      refine ro_V S (c_Jx4a65c_size_8abf5 hLs) kw2_157 yv_Jx4a65c_size_8abf5 ⟨Nat.le_of_ble_eq_true rfl, Nat.le_of_ble_eq_true rfl⟩ hK hP (va_recv hK hP (ci := 0) (q0 := kc) rfl hLs) rfl hl.1 rfl (Nat.le_of_ble_eq_true rfl) dX10_sessionsOf_9 ⟨(Nat.zero_le _), (Nat.zero_le _)⟩ ?_
      refine nv_icmp_ge (tgt := 42) hx hb dX10_sessionsOf_12 (by decide) (by omega) (by omega) (fun h12 => ?_) (fun h12 => ?_)
      · skip
        refine lv_iload_n hx hb dX10_sessionsOf_42 rfl (lv_at hl 2 rfl) ?_
        exact hend ((congrArg nI (by rw [hc9, show i = ns by omega]))) dX10_sessionsOf_43
      refine lv_aload_n hx hb dX10_sessionsOf_15 rfl (lv_at hl 0 rfl) ?_
      refine va_get (ci := 7) (C := RX10) (T := TX10) (N := 3) hx hb ht iFX10 hown hK hP kt hT rfl 1 (by decide) (ht _ kw1_114) (fun _ h9 => h9) rfl dX10_sessionsOf_16 ?_
      refine lv_iload_n hx hb dX10_sessionsOf_19 rfl (lv_at hl 3 rfl) ?_
      refine ro_V S (c_getS hLs hS1 (i := i) (by omega)) kw2_161 yv_Jx4a65c_get_915e3 ⟨Nat.le_of_ble_eq_true rfl, Nat.le_of_ble_eq_true rfl⟩ hK hP (va_recv hK hP (ci := 0) (q0 := kc) rfl hLs) rfl hl.1 rfl (Nat.le_of_ble_eq_true rfl) dX10_sessionsOf_20 ⟨(Nat.zero_le _), (Nat.zero_le _)⟩ ?_
      obtain ⟨k_1, hk_1⟩ := hS1.at (i := i) (by omega)
      have hk_1_fa := hb_fa i
      have hk_1_fp := hb_fp i
      have hk_1_st := hb_st i
      have hk_1_en := hb_en i
      have hk_1_so := hS1.own (i := i) (by omega)
      refine va_castS hx hb hown (ht _ kw2_184) (hK.1 5 _ rfl).2 (va_recv hK hP (ci := 5) (q0 := k_1) rfl hk_1) dX10_sessionsOf_23 ?_
      refine va_get (ci := 5) (C := RX7) (T := TX7) (N := 5) hx hb ht iFX7 hown hK hP k_1 hk_1 rfl 0 (by decide) (ht _ kw3_88) (fun _ h9 => h9) rfl dX10_sessionsOf_26 ?_
      refine lv_aload_n hx hb dX10_sessionsOf_29 rfl (lv_at hl 1 rfl) ?_
      refine lv_acmp_ne (rx := some (ba (so i))) (ry := some (ba b)) (tgt := 36) hx hb dX10_sessionsOf_30 (by decide) (fun h30 => ?_) (fun h30 => ?_)
      · skip
        refine lv_iinc (v := (nI (i + 1))) (lv' := [(3, .int (nI (i + 1))), (0, .ref tb), (1, .ref (ba b)), (2, .int (nI c9))]) hx hb dX10_sessionsOf_36 hl (k := 3) rfl (nI_inc _ _) (by decide) rfl (fun ls hl => ?_)
        refine lv_goto (tgt := 4) hx hb dX10_sessionsOf_39 (by decide) ?_
        exact ihh (i + 1) (c9) (by omega) (by omega) (by simp only [tg_cnt, decide_eq_true_eq]; first | rw [if_pos (hB.inj (hS1.own (by omega)) hb9 (sinj h30))]; omega | (rw [if_neg (fun z => h30 (by rw [z]))]; omega)) ls (lv_sub hl [1, 2, 3, 0] rfl)
      refine lv_iinc (v := (nI (c9 + 1))) (lv' := [(2, .int (nI (c9 + 1))), (0, .ref tb), (1, .ref (ba b)), (3, .int (nI i))]) hx hb dX10_sessionsOf_33 hl (k := 2) rfl (nI_inc _ _) (by decide) rfl (fun ls hl => ?_)
      refine lv_iinc (v := (nI (i + 1))) (lv' := [(3, .int (nI (i + 1))), (2, .int (nI (c9 + 1))), (0, .ref tb), (1, .ref (ba b))]) hx hb dX10_sessionsOf_36 hl (k := 3) rfl (nI_inc _ _) (by decide) rfl (fun ls hl => ?_)
      refine lv_goto (tgt := 4) hx hb dX10_sessionsOf_39 (by decide) ?_
      exact ihh (i + 1) (c9 + 1) (by omega) (by omega) (by simp only [tg_cnt, decide_eq_true_eq]; first | rw [if_pos (hB.inj (hS1.own (by omega)) hb9 (sinj h30))]; omega | (rw [if_neg (fun z => h30 (by rw [z]))]; omega)) ls (lv_sub hl [2, 3, 1, 0] rfl)
  exact L4 (ns + 1) 0 0 (by omega) (by omega) rfl ls (lv_sub hl [2, 3, 1, 0] rfl)
theorem dX10_byOuter_0 : decode cX10_byOuter 0 = .ok (.iconst 0, 1) := by decide +kernel
theorem dX10_byOuter_1 : decode cX10_byOuter 1 = .ok (.istore 4, 2) := by decide +kernel
theorem dX10_byOuter_3 : decode cX10_byOuter 3 = .ok (.iload 4, 2) := by decide +kernel
theorem dX10_byOuter_5 : decode cX10_byOuter 5 = .ok (.aload_n 0, 1) := by decide +kernel
theorem dX10_byOuter_6 : decode cX10_byOuter 6 = .ok (.getfield 12, 3) := by decide +kernel
theorem dX10_byOuter_9 : decode cX10_byOuter 9 = .ok (.invokevirtual 25, 3) := by decide +kernel
theorem dX10_byOuter_12 : decode cX10_byOuter 12 = .ok (.if_icmp .ge 65, 3) := by decide +kernel
theorem dX10_byOuter_15 : decode cX10_byOuter 15 = .ok (.aload_n 0, 1) := by decide +kernel
theorem dX10_byOuter_16 : decode cX10_byOuter 16 = .ok (.getfield 12, 3) := by decide +kernel
theorem dX10_byOuter_19 : decode cX10_byOuter 19 = .ok (.iload 4, 2) := by decide +kernel
theorem dX10_byOuter_21 : decode cX10_byOuter 21 = .ok (.invokevirtual 29, 3) := by decide +kernel
theorem dX10_byOuter_24 : decode cX10_byOuter 24 = .ok (.checkcast 33, 3) := by decide +kernel
theorem dX10_byOuter_27 : decode cX10_byOuter 27 = .ok (.astore 5, 2) := by decide +kernel
theorem dX10_byOuter_29 : decode cX10_byOuter 29 = .ok (.aload 5, 2) := by decide +kernel
theorem dX10_byOuter_31 : decode cX10_byOuter 31 = .ok (.getfield 93, 3) := by decide +kernel
theorem dX10_byOuter_34 : decode cX10_byOuter 34 = .ok (.iload_n 2, 1) := by decide +kernel
theorem dX10_byOuter_35 : decode cX10_byOuter 35 = .ok (.if_icmp .ne 16, 3) := by decide +kernel
theorem dX10_byOuter_38 : decode cX10_byOuter 38 = .ok (.aload 5, 2) := by decide +kernel
theorem dX10_byOuter_40 : decode cX10_byOuter 40 = .ok (.getfield 96, 3) := by decide +kernel
theorem dX10_byOuter_43 : decode cX10_byOuter 43 = .ok (.iload_n 3, 1) := by decide +kernel
theorem dX10_byOuter_44 : decode cX10_byOuter 44 = .ok (.if_icmp .ne 7, 3) := by decide +kernel
theorem dX10_byOuter_47 : decode cX10_byOuter 47 = .ok (.iconst 1, 1) := by decide +kernel
theorem dX10_byOuter_48 : decode cX10_byOuter 48 = .ok (.goto 4, 3) := by decide +kernel
theorem dX10_byOuter_51 : decode cX10_byOuter 51 = .ok (.iconst 0, 1) := by decide +kernel
theorem dX10_byOuter_52 : decode cX10_byOuter 52 = .ok (.istore 6, 2) := by decide +kernel
theorem dX10_byOuter_54 : decode cX10_byOuter 54 = .ok (.iload 6, 2) := by decide +kernel
theorem dX10_byOuter_56 : decode cX10_byOuter 56 = .ok (.ifCond .eq 15, 3) := by decide +kernel
theorem dX10_byOuter_59 : decode cX10_byOuter 59 = .ok (.aload 5, 2) := by decide +kernel
theorem dX10_byOuter_61 : decode cX10_byOuter 61 = .ok (.getfield 99, 3) := by decide +kernel
theorem dX10_byOuter_64 : decode cX10_byOuter 64 = .ok (.iload_n 1, 1) := by decide +kernel
theorem dX10_byOuter_65 : decode cX10_byOuter 65 = .ok (.if_icmp .ne 6, 3) := by decide +kernel
theorem dX10_byOuter_68 : decode cX10_byOuter 68 = .ok (.aload 5, 2) := by decide +kernel
theorem dX10_byOuter_70 : decode cX10_byOuter 70 = .ok (.areturn, 1) := by decide +kernel
theorem dX10_byOuter_71 : decode cX10_byOuter 71 = .ok (.iinc 4 1, 3) := by decide +kernel
theorem dX10_byOuter_74 : decode cX10_byOuter 74 = .ok (.goto (-71), 3) := by decide +kernel
theorem dX10_byOuter_77 : decode cX10_byOuter 77 = .ok (.aconst_null, 1) := by decide +kernel
theorem dX10_byOuter_78 : decode cX10_byOuter 78 = .ok (.areturn, 1) := by decide +kernel
theorem yv_X10_byOuter : YV RX10 yX10_byOuter cX10_byOuter 7 (some (.object "TransitGate$Binding")) 3 := ⟨kw2_225, kw2_226, kw1_6, kw2_227, by decide +kernel⟩
set_option maxHeartbeats 4000000 in
set_option maxRecDepth 100000 in
theorem c_X10_byOuter {l : Launch} {D : va_G} {cy : Nat → ClassId} {ws : va_W} {kt tb lb ls T : Nat} (hT : ws[kt]? = some (tE tb lb ls T)) {kb eb nb e0 : Nat} {mb : Int32} (hLb : ws[kb]? = some (aL lb mb eb nb)) {ba pt ih il ip pn op : Nat → Nat} (hB : TB1 cy ws e0 eb nb ba pt ih il ip pn op) (hb_pt : ∀ i, pt i < 2 ^ 31) (hb_ih : ∀ i, ih i < 2 ^ 64) (hb_il : ∀ i, il i < 2 ^ 64) (hb_ip : ∀ i, ip i < 2 ^ 31) (hb_pn : ∀ i, pn i < 2 ^ 31) (hb_op : ∀ i, op i < 2 ^ 31) {q9 num v : Nat} (hq9 : q9 < 2 ^ 31) (hnum : num < 2 ^ 31) (hv9 : v < 2 ^ 31) : RO l yX10_byOuter cX10_byOuter 7 (some (.object "TransitGate$Binding")) 3 64 [.ref tb, .int (nI q9), .int (nI num), .int (nI v)] D cy ws (va_rf (tg_at ba (fun k => decide (pt k = q9 ∧ pn k = num ∧ op k = v)) nb)) := by
  refine ROr (by first | exact Or.inl ⟨_, rfl⟩ | exact Or.inr ⟨_, rfl⟩) (by decide) (lv0 := [(0, .ref tb), (1, .int (nI q9)), (2, .int (nI num)), (3, .int (nI v))]) rfl (Nat.le_of_ble_eq_true rfl) ?_
  intro p e s m args below meth c ls Q S hP hK hend hl
  have hx := S.1
  have hb := S.2.1
  have hown : s.vm.findClass RX10 = some m.cls := S.2.2.2.1
  have ht : ∀ w ∈ lw_g, w.before args s = true := fun w h => S.2.2.2.2 w (List.mem_cons_of_mem _ h)
  have hnb := hB.le
  refine nv_iconst (k := 0) hx hb dX10_byOuter_0 rfl ?_
  refine lv_istore (lv' := [(4, .int (nI 0)), (0, .ref tb), (1, .int (nI q9)), (2, .int (nI num)), (3, .int (nI v))]) hx hb dX10_byOuter_1 hl (by decide) rfl (fun ls hl => ?_)
  have L3 : ∀ (fu : Nat) (i : Nat), nb - i < fu → i ≤ nb → (∀ j, j < i → (fun k => decide (pt k = q9 ∧ pn k = num ∧ op k = v)) j = false) → ∀ ls : Array Slot, lv_has ls 7 [(0, .ref tb), (1, .int (nI q9)), (2, .int (nI num)), (3, .int (nI v)), (4, .int (nI i))] → W p l e (rmo 3 64) s m args below meth c s.heap [] 0 0 Q (F0 m 3 ls []) := by
    intro fu
    induction fu with
    | zero => intro i h9; omega
    | succ fu ihh =>
      intro i hfu hi9 hno ls hl
      refine lv_iload hx hb dX10_byOuter_3 (lv_at hl 4 rfl) ?_
      refine lv_aload_n hx hb dX10_byOuter_5 rfl (lv_at hl 0 rfl) ?_
      refine va_get (ci := 7) (C := RX10) (T := TX10) (N := 3) hx hb ht iFX10 hown hK hP kt hT rfl 0 (by decide) (ht _ kw1_113) (fun _ h9 => h9) rfl dX10_byOuter_6 ?_
      refine ro_V S (c_Jx4a65c_size_8abf5 hLb) kw2_157 yv_Jx4a65c_size_8abf5 ⟨Nat.le_of_ble_eq_true rfl, Nat.le_of_ble_eq_true rfl⟩ hK hP (va_recv hK hP (ci := 0) (q0 := kb) rfl hLb) rfl hl.1 rfl (Nat.le_of_ble_eq_true rfl) dX10_byOuter_9 ⟨(Nat.zero_le _), (Nat.zero_le _)⟩ ?_
      refine nv_icmp_ge (tgt := 77) hx hb dX10_byOuter_12 (by decide) (by omega) (by omega) (fun h12 => ?_) (fun h12 => ?_)
      · skip
        refine lv_null hx hb dX10_byOuter_77 ?_
        exact hend ((by rw [tg_at_none (fun j hj => hno j (by omega))]; rfl)) dX10_byOuter_78
      refine lv_aload_n hx hb dX10_byOuter_15 rfl (lv_at hl 0 rfl) ?_
      refine va_get (ci := 7) (C := RX10) (T := TX10) (N := 3) hx hb ht iFX10 hown hK hP kt hT rfl 0 (by decide) (ht _ kw1_113) (fun _ h9 => h9) rfl dX10_byOuter_16 ?_
      refine lv_iload hx hb dX10_byOuter_19 (lv_at hl 4 rfl) ?_
      refine ro_V S (c_getB hLb hB (i := i) (by omega)) kw2_161 yv_Jx4a65c_get_915e3 ⟨Nat.le_of_ble_eq_true rfl, Nat.le_of_ble_eq_true rfl⟩ hK hP (va_recv hK hP (ci := 0) (q0 := kb) rfl hLb) rfl hl.1 rfl (Nat.le_of_ble_eq_true rfl) dX10_byOuter_21 ⟨(Nat.zero_le _), (Nat.zero_le _)⟩ ?_
      obtain ⟨k_1, hk_1⟩ := hB.at (i := i) (by omega)
      have hk_1_pt := hb_pt i
      have hk_1_ih := hb_ih i
      have hk_1_il := hb_il i
      have hk_1_ip := hb_ip i
      have hk_1_pn := hb_pn i
      have hk_1_op := hb_op i
      refine va_castS hx hb hown (ht _ kw2_175) (hK.1 1 _ rfl).2 (va_recv hK hP (ci := 1) (q0 := k_1) rfl hk_1) dX10_byOuter_24 ?_
      refine lv_astore (lv' := [(5, .ref (ba i)), (0, .ref tb), (1, .int (nI q9)), (2, .int (nI num)), (3, .int (nI v)), (4, .int (nI i))]) hx hb dX10_byOuter_27 hl (by decide) rfl (fun ls hl => ?_)
      refine lv_aload hx hb dX10_byOuter_29 (lv_at hl 0 rfl) ?_
      refine va_get (ci := 1) (C := RX0) (T := TX0) (N := 6) hx hb ht iFX0 hown hK hP k_1 hk_1 rfl 4 (by decide) (ht _ kw3_8) (fun _ h9 => h9) rfl dX10_byOuter_31 ?_
      refine lv_iload_n hx hb dX10_byOuter_34 rfl (lv_at hl 3 rfl) ?_
      have J52 : ∀ v52 : Nat, v52 = (if pn i = num ∧ op i = v then 1 else 0) → ∀ ls : Array Slot, lv_has ls 7 [(5, .ref (ba i)), (0, .ref tb), (1, .int (nI q9)), (2, .int (nI num)), (3, .int (nI v)), (4, .int (nI i))] → W p l e (rmo 3 64) s m args below meth c s.heap [] 0 0 Q (F0 m 52 ls [.int (nI v52)]) := by
        intro v52 hv52 ls hl
        have hv5 : v52 ≤ 1 := by rw [hv52]; split <;> omega
        refine lv_istore (lv' := [(6, .int (nI v52)), (5, .ref (ba i)), (0, .ref tb), (1, .int (nI q9)), (2, .int (nI num)), (3, .int (nI v)), (4, .int (nI i))]) hx hb dX10_byOuter_52 hl (by decide) rfl (fun ls hl => ?_)
        refine lv_iload hx hb dX10_byOuter_54 (lv_at hl 0 rfl) ?_
        refine nv_if_eq (tgt := 71) hx hb dX10_byOuter_56 (by decide) (by omega) (fun h56 => ?_) (fun h56 => ?_)
        · skip
          refine lv_iinc (v := (nI (i + 1))) (lv' := [(4, .int (nI (i + 1))), (6, .int (nI v52)), (5, .ref (ba i)), (0, .ref tb), (1, .int (nI q9)), (2, .int (nI num)), (3, .int (nI v))]) hx hb dX10_byOuter_71 hl (k := 6) rfl (nI_inc _ _) (by decide) rfl (fun ls hl => ?_)
          refine lv_goto (tgt := 3) hx hb dX10_byOuter_74 (by decide) ?_
          exact ihh (i + 1) (by omega) (by omega) (no_step hno (decide_eq_false (by split at hv52 <;> omega))) ls (lv_sub hl [3, 4, 5, 6, 0] rfl)
        refine lv_aload hx hb dX10_byOuter_59 (lv_at hl 1 rfl) ?_
        refine va_get (ci := 1) (C := RX0) (T := TX0) (N := 6) hx hb ht iFX0 hown hK hP k_1 hk_1 rfl 0 (by decide) (ht _ kw2_235) (fun _ h9 => h9) rfl dX10_byOuter_61 ?_
        refine lv_iload_n hx hb dX10_byOuter_64 rfl (lv_at hl 3 rfl) ?_
        refine nv_icmp_ne (tgt := 71) hx hb dX10_byOuter_65 (by decide) (by omega) (by omega) (fun h65 => ?_) (fun h65 => ?_)
        · skip
          refine lv_iinc (v := (nI (i + 1))) (lv' := [(4, .int (nI (i + 1))), (6, .int (nI v52)), (5, .ref (ba i)), (0, .ref tb), (1, .int (nI q9)), (2, .int (nI num)), (3, .int (nI v))]) hx hb dX10_byOuter_71 hl (k := 6) rfl (nI_inc _ _) (by decide) rfl (fun ls hl => ?_)
          refine lv_goto (tgt := 3) hx hb dX10_byOuter_74 (by decide) ?_
          exact ihh (i + 1) (by omega) (by omega) (no_step hno (decide_eq_false (by split at hv52 <;> omega))) ls (lv_sub hl [3, 4, 5, 6, 0] rfl)
        refine lv_aload hx hb dX10_byOuter_68 (lv_at hl 1 rfl) ?_
        exact hend ((by rw [tg_at_some (i := i) (by omega) (decide_eq_true (by split at hv52 <;> omega)) hno]; rfl)) dX10_byOuter_70
      refine nv_icmp_ne (tgt := 51) hx hb dX10_byOuter_35 (by decide) (by omega) (by omega) (fun h35 => ?_) (fun h35 => ?_)
      · skip
        refine nv_iconst (k := 0) hx hb dX10_byOuter_51 rfl ?_
        exact J52 (0) (by split <;> omega) ls (lv_sub hl [0, 1, 2, 3, 4, 5] rfl)
      refine lv_aload hx hb dX10_byOuter_38 (lv_at hl 0 rfl) ?_
      refine va_get (ci := 1) (C := RX0) (T := TX0) (N := 6) hx hb ht iFX0 hown hK hP k_1 hk_1 rfl 5 (by decide) (ht _ kw3_12) (fun _ h9 => h9) rfl dX10_byOuter_40 ?_
      refine lv_iload_n hx hb dX10_byOuter_43 rfl (lv_at hl 4 rfl) ?_
      refine nv_icmp_ne (tgt := 51) hx hb dX10_byOuter_44 (by decide) (by omega) (by omega) (fun h44 => ?_) (fun h44 => ?_)
      · skip
        refine nv_iconst (k := 0) hx hb dX10_byOuter_51 rfl ?_
        exact J52 (0) (by split <;> omega) ls (lv_sub hl [0, 1, 2, 3, 4, 5] rfl)
      refine nv_iconst (k := 1) hx hb dX10_byOuter_47 rfl ?_
      refine lv_goto (tgt := 52) hx hb dX10_byOuter_48 (by decide) ?_
      exact J52 (1) (by split <;> omega) ls (lv_sub hl [0, 1, 2, 3, 4, 5] rfl)
  exact L3 (nb + 1) 0 (by omega) (by omega) (fun j hj => absurd hj (by omega)) ls (lv_sub hl [1, 2, 3, 4, 0] rfl)
theorem dX10_byInner_0 : decode cX10_byInner 0 = .ok (.iconst 0, 1) := by decide +kernel
theorem dX10_byInner_1 : decode cX10_byInner 1 = .ok (.istore 6, 2) := by decide +kernel
theorem dX10_byInner_3 : decode cX10_byInner 3 = .ok (.iload 6, 2) := by decide +kernel
theorem dX10_byInner_5 : decode cX10_byInner 5 = .ok (.aload_n 0, 1) := by decide +kernel
theorem dX10_byInner_6 : decode cX10_byInner 6 = .ok (.getfield 12, 3) := by decide +kernel
theorem dX10_byInner_9 : decode cX10_byInner 9 = .ok (.invokevirtual 25, 3) := by decide +kernel
theorem dX10_byInner_12 : decode cX10_byInner 12 = .ok (.if_icmp .ge 73, 3) := by decide +kernel
theorem dX10_byInner_15 : decode cX10_byInner 15 = .ok (.aload_n 0, 1) := by decide +kernel
theorem dX10_byInner_16 : decode cX10_byInner 16 = .ok (.getfield 12, 3) := by decide +kernel
theorem dX10_byInner_19 : decode cX10_byInner 19 = .ok (.iload 6, 2) := by decide +kernel
theorem dX10_byInner_21 : decode cX10_byInner 21 = .ok (.invokevirtual 29, 3) := by decide +kernel
theorem dX10_byInner_24 : decode cX10_byInner 24 = .ok (.checkcast 33, 3) := by decide +kernel
theorem dX10_byInner_27 : decode cX10_byInner 27 = .ok (.astore 7, 2) := by decide +kernel
theorem dX10_byInner_29 : decode cX10_byInner 29 = .ok (.aload 7, 2) := by decide +kernel
theorem dX10_byInner_31 : decode cX10_byInner 31 = .ok (.getfield 99, 3) := by decide +kernel
theorem dX10_byInner_34 : decode cX10_byInner 34 = .ok (.aload_n 1, 1) := by decide +kernel
theorem dX10_byInner_35 : decode cX10_byInner 35 = .ok (.getfield 80, 3) := by decide +kernel
theorem dX10_byInner_38 : decode cX10_byInner 38 = .ok (.if_icmp .ne 19, 3) := by decide +kernel
theorem dX10_byInner_41 : decode cX10_byInner 41 = .ok (.aload 7, 2) := by decide +kernel
theorem dX10_byInner_43 : decode cX10_byInner 43 = .ok (.getfield 100, 3) := by decide +kernel
theorem dX10_byInner_46 : decode cX10_byInner 46 = .ok (.aload_n 1, 1) := by decide +kernel
theorem dX10_byInner_47 : decode cX10_byInner 47 = .ok (.getfield 86, 3) := by decide +kernel
theorem dX10_byInner_50 : decode cX10_byInner 50 = .ok (.if_icmp .ne 7, 3) := by decide +kernel
theorem dX10_byInner_53 : decode cX10_byInner 53 = .ok (.iconst 1, 1) := by decide +kernel
theorem dX10_byInner_54 : decode cX10_byInner 54 = .ok (.goto 4, 3) := by decide +kernel
theorem dX10_byInner_57 : decode cX10_byInner 57 = .ok (.iconst 0, 1) := by decide +kernel
theorem dX10_byInner_58 : decode cX10_byInner 58 = .ok (.istore 8, 2) := by decide +kernel
theorem dX10_byInner_60 : decode cX10_byInner 60 = .ok (.iload 8, 2) := by decide +kernel
theorem dX10_byInner_62 : decode cX10_byInner 62 = .ok (.ifCond .eq 17, 3) := by decide +kernel
theorem dX10_byInner_65 : decode cX10_byInner 65 = .ok (.aload 7, 2) := by decide +kernel
theorem dX10_byInner_67 : decode cX10_byInner 67 = .ok (.lload_n 2, 1) := by decide +kernel
theorem dX10_byInner_68 : decode cX10_byInner 68 = .ok (.lload 4, 2) := by decide +kernel
theorem dX10_byInner_70 : decode cX10_byInner 70 = .ok (.invokevirtual 103, 3) := by decide +kernel
theorem dX10_byInner_73 : decode cX10_byInner 73 = .ok (.ifCond .eq 6, 3) := by decide +kernel
theorem dX10_byInner_76 : decode cX10_byInner 76 = .ok (.aload 7, 2) := by decide +kernel
theorem dX10_byInner_78 : decode cX10_byInner 78 = .ok (.areturn, 1) := by decide +kernel
theorem dX10_byInner_79 : decode cX10_byInner 79 = .ok (.iinc 6 1, 3) := by decide +kernel
theorem dX10_byInner_82 : decode cX10_byInner 82 = .ok (.goto (-79), 3) := by decide +kernel
theorem dX10_byInner_85 : decode cX10_byInner 85 = .ok (.aconst_null, 1) := by decide +kernel
theorem dX10_byInner_86 : decode cX10_byInner 86 = .ok (.areturn, 1) := by decide +kernel
theorem yv_X10_byInner : YV RX10 yX10_byInner cX10_byInner 9 (some (.object "TransitGate$Binding")) 3 := ⟨kw2_155, kws_3, kw1_6, kw2_156, by decide +kernel⟩
set_option maxHeartbeats 4000000 in
set_option maxRecDepth 100000 in
theorem c_X10_byInner {l : Launch} {D : va_G} {cy : Nat → ClassId} {ws : va_W} {kt tb lb ls T : Nat} (hT : ws[kt]? = some (tE tb lb ls T)) {kb eb nb e0 : Nat} {mb : Int32} (hLb : ws[kb]? = some (aL lb mb eb nb)) {ba pt ih il ip pn op : Nat → Nat} (hB : TB1 cy ws e0 eb nb ba pt ih il ip pn op) (hb_pt : ∀ i, pt i < 2 ^ 31) (hb_ih : ∀ i, ih i < 2 ^ 64) (hb_il : ∀ i, il i < 2 ^ 64) (hb_ip : ∀ i, ip i < 2 ^ 31) (hb_pn : ∀ i, pn i < 2 ^ 31) (hb_op : ∀ i, op i < 2 ^ 31) {kf fl q port far fpt ev : Nat} {ins : Bool} (hf0 : ws[kf]? = some (fE fl ins q port far fpt ev)) (hq : q < 256) (hport : port < 65536) (hfar : far < 2 ^ 32) (hfpt : fpt < 65536) (hev : ev ≤ 3) {hi lo : Nat} (hhi : hi < 2 ^ 64) (hlo : lo < 2 ^ 64) : RO l yX10_byInner cX10_byInner 9 (some (.object "TransitGate$Binding")) 3 64 [.ref tb, .ref fl, .long (lN (hi)), .long (lN (lo))] D cy ws (va_rf (tg_at ba (fun k => decide (pt k = q ∧ ih k = hi ∧ il k = lo ∧ ip k = port)) nb)) := by
  refine ROr (by first | exact Or.inl ⟨_, rfl⟩ | exact Or.inr ⟨_, rfl⟩) (by decide) (lv0 := [(0, .ref tb), (1, .ref fl), (2, .long (lN (hi))), (4, .long (lN (lo)))]) rfl (Nat.le_of_ble_eq_true rfl) ?_
  intro p e s m args below meth c ls Q S hP hK hend hl
  have hx := S.1
  have hb := S.2.1
  have hown : s.vm.findClass RX10 = some m.cls := S.2.2.2.1
  have ht : ∀ w ∈ lw_g, w.before args s = true := fun w h => S.2.2.2.2 w (List.mem_cons_of_mem _ h)
  have hnb := hB.le
  refine nv_iconst (k := 0) hx hb dX10_byInner_0 rfl ?_
  refine lv_istore (lv' := [(6, .int (nI 0)), (0, .ref tb), (1, .ref fl), (2, .long (lN (hi))), (4, .long (lN (lo)))]) hx hb dX10_byInner_1 hl (by decide) rfl (fun ls hl => ?_)
  have L3 : ∀ (fu : Nat) (i : Nat), nb - i < fu → i ≤ nb → (∀ j, j < i → (fun k => decide (pt k = q ∧ ih k = hi ∧ il k = lo ∧ ip k = port)) j = false) → ∀ ls : Array Slot, lv_has ls 9 [(0, .ref tb), (1, .ref fl), (2, .long (lN (hi))), (4, .long (lN (lo))), (6, .int (nI i))] → W p l e (rmo 3 64) s m args below meth c s.heap [] 0 0 Q (F0 m 3 ls []) := by
    intro fu
    induction fu with
    | zero => intro i h9; omega
    | succ fu ihh =>
      intro i hfu hi9 hno ls hl
      refine lv_iload hx hb dX10_byInner_3 (lv_at hl 4 rfl) ?_
      refine lv_aload_n hx hb dX10_byInner_5 rfl (lv_at hl 0 rfl) ?_
      refine va_get (ci := 7) (C := RX10) (T := TX10) (N := 3) hx hb ht iFX10 hown hK hP kt hT rfl 0 (by decide) (ht _ kw1_113) (fun _ h9 => h9) rfl dX10_byInner_6 ?_
      refine ro_V S (c_Jx4a65c_size_8abf5 hLb) kw2_157 yv_Jx4a65c_size_8abf5 ⟨Nat.le_of_ble_eq_true rfl, Nat.le_of_ble_eq_true rfl⟩ hK hP (va_recv hK hP (ci := 0) (q0 := kb) rfl hLb) rfl hl.1 rfl (Nat.le_of_ble_eq_true rfl) dX10_byInner_9 ⟨(Nat.zero_le _), (Nat.zero_le _)⟩ ?_
      refine nv_icmp_ge (tgt := 85) hx hb dX10_byInner_12 (by decide) (by omega) (by omega) (fun h12 => ?_) (fun h12 => ?_)
      · skip
        refine lv_null hx hb dX10_byInner_85 ?_
        exact hend ((by rw [tg_at_none (fun j hj => hno j (by omega))]; rfl)) dX10_byInner_86
      refine lv_aload_n hx hb dX10_byInner_15 rfl (lv_at hl 0 rfl) ?_
      refine va_get (ci := 7) (C := RX10) (T := TX10) (N := 3) hx hb ht iFX10 hown hK hP kt hT rfl 0 (by decide) (ht _ kw1_113) (fun _ h9 => h9) rfl dX10_byInner_16 ?_
      refine lv_iload hx hb dX10_byInner_19 (lv_at hl 4 rfl) ?_
      refine ro_V S (c_getB hLb hB (i := i) (by omega)) kw2_161 yv_Jx4a65c_get_915e3 ⟨Nat.le_of_ble_eq_true rfl, Nat.le_of_ble_eq_true rfl⟩ hK hP (va_recv hK hP (ci := 0) (q0 := kb) rfl hLb) rfl hl.1 rfl (Nat.le_of_ble_eq_true rfl) dX10_byInner_21 ⟨(Nat.zero_le _), (Nat.zero_le _)⟩ ?_
      obtain ⟨k_1, hk_1⟩ := hB.at (i := i) (by omega)
      have hk_1_pt := hb_pt i
      have hk_1_ih := hb_ih i
      have hk_1_il := hb_il i
      have hk_1_ip := hb_ip i
      have hk_1_pn := hb_pn i
      have hk_1_op := hb_op i
      refine va_castS hx hb hown (ht _ kw2_175) (hK.1 1 _ rfl).2 (va_recv hK hP (ci := 1) (q0 := k_1) rfl hk_1) dX10_byInner_24 ?_
      refine lv_astore (lv' := [(7, .ref (ba i)), (0, .ref tb), (1, .ref fl), (2, .long (lN (hi))), (4, .long (lN (lo))), (6, .int (nI i))]) hx hb dX10_byInner_27 hl (by decide) rfl (fun ls hl => ?_)
      refine lv_aload hx hb dX10_byInner_29 (lv_at hl 0 rfl) ?_
      refine va_get (ci := 1) (C := RX0) (T := TX0) (N := 6) hx hb ht iFX0 hown hK hP k_1 hk_1 rfl 0 (by decide) (ht _ kw2_235) (fun _ h9 => h9) rfl dX10_byInner_31 ?_
      refine lv_aload_n hx hb dX10_byInner_34 rfl (lv_at hl 2 rfl) ?_
      refine va_get (ci := 3) (C := RX2) (T := TX2) (N := 6) hx hb ht iFX2 hown hK hP kf hf0 rfl 1 (by decide) (ht _ kw2_122) (fun _ h9 => h9) rfl dX10_byInner_35 ?_
      have J58 : ∀ v58 : Nat, v58 = (if pt i = q ∧ ip i = port then 1 else 0) → ∀ ls : Array Slot, lv_has ls 9 [(7, .ref (ba i)), (0, .ref tb), (1, .ref fl), (2, .long (lN (hi))), (4, .long (lN (lo))), (6, .int (nI i))] → W p l e (rmo 3 64) s m args below meth c s.heap [] 0 0 Q (F0 m 58 ls [.int (nI v58)]) := by
        intro v58 hv58 ls hl
        have hv5 : v58 ≤ 1 := by rw [hv58]; split <;> omega
        refine lv_istore (lv' := [(8, .int (nI v58)), (7, .ref (ba i)), (0, .ref tb), (1, .ref fl), (2, .long (lN (hi))), (4, .long (lN (lo))), (6, .int (nI i))]) hx hb dX10_byInner_58 hl (by decide) rfl (fun ls hl => ?_)
        refine lv_iload hx hb dX10_byInner_60 (lv_at hl 0 rfl) ?_
        refine nv_if_eq (tgt := 79) hx hb dX10_byInner_62 (by decide) (by omega) (fun h62 => ?_) (fun h62 => ?_)
        · skip
          refine lv_iinc (v := (nI (i + 1))) (lv' := [(6, .int (nI (i + 1))), (8, .int (nI v58)), (7, .ref (ba i)), (0, .ref tb), (1, .ref fl), (2, .long (lN (hi))), (4, .long (lN (lo)))]) hx hb dX10_byInner_79 hl (k := 6) rfl (nI_inc _ _) (by decide) rfl (fun ls hl => ?_)
          refine lv_goto (tgt := 3) hx hb dX10_byInner_82 (by decide) ?_
          exact ihh (i + 1) (by omega) (by omega) (no_step hno (decide_eq_false (by split at hv58 <;> first | omega | (have h9 := of_decide_eq_false h73; omega)))) ls (lv_sub hl [3, 4, 5, 6, 0] rfl)
        refine lv_aload hx hb dX10_byInner_65 (lv_at hl 1 rfl) ?_
        refine lv_lload_n hx hb dX10_byInner_67 rfl (lv_at hl 4 rfl) ?_
        refine lv_lload hx hb dX10_byInner_68 (lv_at hl 5 rfl) ?_
        refine ro_V S (c_X0_isOf hk_1 (hb_ih _) (hb_il _) (hi := hi) (lo := lo) (by omega) (by omega)) kw2_176 yv_X0_isOf ⟨Nat.le_of_ble_eq_true rfl, Nat.le_of_ble_eq_true rfl⟩ hK hP (va_recv hK hP (ci := 1) (q0 := k_1) rfl hk_1) rfl hl.1 rfl (Nat.le_of_ble_eq_true rfl) dX10_byInner_70 ⟨(Nat.zero_le _), (Nat.zero_le _)⟩ ?_
        refine nv_if_eqb (tgt := 79) hx hb dX10_byInner_73 (by decide) (fun h73 => ?_) (fun h73 => ?_)
        · skip
          refine lv_iinc (v := (nI (i + 1))) (lv' := [(6, .int (nI (i + 1))), (8, .int (nI v58)), (7, .ref (ba i)), (0, .ref tb), (1, .ref fl), (2, .long (lN (hi))), (4, .long (lN (lo)))]) hx hb dX10_byInner_79 hl (k := 6) rfl (nI_inc _ _) (by decide) rfl (fun ls hl => ?_)
          refine lv_goto (tgt := 3) hx hb dX10_byInner_82 (by decide) ?_
          exact ihh (i + 1) (by omega) (by omega) (no_step hno (decide_eq_false (by split at hv58 <;> first | omega | (have h9 := of_decide_eq_false h73; omega)))) ls (lv_sub hl [3, 4, 5, 6, 0] rfl)
        refine lv_aload hx hb dX10_byInner_76 (lv_at hl 1 rfl) ?_
        exact hend ((by rw [tg_at_some (i := i) (by omega) (decide_eq_true (by have h9 := of_decide_eq_true h73; split at hv58 <;> omega)) hno]; rfl)) dX10_byInner_78
      refine nv_icmp_ne (tgt := 57) hx hb dX10_byInner_38 (by decide) (by omega) (by omega) (fun h38 => ?_) (fun h38 => ?_)
      · skip
        refine nv_iconst (k := 0) hx hb dX10_byInner_57 rfl ?_
        exact J58 (0) (by split <;> omega) ls (lv_sub hl [0, 1, 2, 3, 4, 5] rfl)
      refine lv_aload hx hb dX10_byInner_41 (lv_at hl 0 rfl) ?_
      refine va_get (ci := 1) (C := RX0) (T := TX0) (N := 6) hx hb ht iFX0 hown hK hP k_1 hk_1 rfl 3 (by decide) (ht _ kw3_5) (fun _ h9 => h9) rfl dX10_byInner_43 ?_
      refine lv_aload_n hx hb dX10_byInner_46 rfl (lv_at hl 2 rfl) ?_
      refine va_get (ci := 3) (C := RX2) (T := TX2) (N := 6) hx hb ht iFX2 hown hK hP kf hf0 rfl 2 (by decide) (ht _ kw2_125) (fun _ h9 => h9) rfl dX10_byInner_47 ?_
      refine nv_icmp_ne (tgt := 57) hx hb dX10_byInner_50 (by decide) (by omega) (by omega) (fun h50 => ?_) (fun h50 => ?_)
      · skip
        refine nv_iconst (k := 0) hx hb dX10_byInner_57 rfl ?_
        exact J58 (0) (by split <;> omega) ls (lv_sub hl [0, 1, 2, 3, 4, 5] rfl)
      refine nv_iconst (k := 1) hx hb dX10_byInner_53 rfl ?_
      refine lv_goto (tgt := 58) hx hb dX10_byInner_54 (by decide) ?_
      exact J58 (1) (by split <;> omega) ls (lv_sub hl [0, 1, 2, 3, 4, 5] rfl)
  exact L3 (nb + 1) 0 (by omega) (by omega) (fun j hj => absurd hj (by omega)) ls (lv_sub hl [1, 2, 3, 4, 0] rfl)
theorem dX10_bindingsAt_0 : decode cX10_bindingsAt 0 = .ok (.iconst 0, 1) := by decide +kernel
theorem dX10_bindingsAt_1 : decode cX10_bindingsAt 1 = .ok (.istore_n 2, 1) := by decide +kernel
theorem dX10_bindingsAt_2 : decode cX10_bindingsAt 2 = .ok (.iconst 0, 1) := by decide +kernel
theorem dX10_bindingsAt_3 : decode cX10_bindingsAt 3 = .ok (.istore_n 3, 1) := by decide +kernel
theorem dX10_bindingsAt_4 : decode cX10_bindingsAt 4 = .ok (.iload_n 3, 1) := by decide +kernel
theorem dX10_bindingsAt_5 : decode cX10_bindingsAt 5 = .ok (.aload_n 0, 1) := by decide +kernel
theorem dX10_bindingsAt_6 : decode cX10_bindingsAt 6 = .ok (.getfield 12, 3) := by decide +kernel
theorem dX10_bindingsAt_9 : decode cX10_bindingsAt 9 = .ok (.invokevirtual 25, 3) := by decide +kernel
theorem dX10_bindingsAt_12 : decode cX10_bindingsAt 12 = .ok (.if_icmp .ge 30, 3) := by decide +kernel
theorem dX10_bindingsAt_15 : decode cX10_bindingsAt 15 = .ok (.aload_n 0, 1) := by decide +kernel
theorem dX10_bindingsAt_16 : decode cX10_bindingsAt 16 = .ok (.getfield 12, 3) := by decide +kernel
theorem dX10_bindingsAt_19 : decode cX10_bindingsAt 19 = .ok (.iload_n 3, 1) := by decide +kernel
theorem dX10_bindingsAt_20 : decode cX10_bindingsAt 20 = .ok (.invokevirtual 29, 3) := by decide +kernel
theorem dX10_bindingsAt_23 : decode cX10_bindingsAt 23 = .ok (.checkcast 33, 3) := by decide +kernel
theorem dX10_bindingsAt_26 : decode cX10_bindingsAt 26 = .ok (.getfield 93, 3) := by decide +kernel
theorem dX10_bindingsAt_29 : decode cX10_bindingsAt 29 = .ok (.iload_n 1, 1) := by decide +kernel
theorem dX10_bindingsAt_30 : decode cX10_bindingsAt 30 = .ok (.if_icmp .ne 6, 3) := by decide +kernel
theorem dX10_bindingsAt_33 : decode cX10_bindingsAt 33 = .ok (.iinc 2 1, 3) := by decide +kernel
theorem dX10_bindingsAt_36 : decode cX10_bindingsAt 36 = .ok (.iinc 3 1, 3) := by decide +kernel
theorem dX10_bindingsAt_39 : decode cX10_bindingsAt 39 = .ok (.goto (-35), 3) := by decide +kernel
theorem dX10_bindingsAt_42 : decode cX10_bindingsAt 42 = .ok (.iload_n 2, 1) := by decide +kernel
theorem dX10_bindingsAt_43 : decode cX10_bindingsAt 43 = .ok (.ireturn, 1) := by decide +kernel
theorem yv_X10_bindingsAt : YV RX10 yX10_bindingsAt cX10_bindingsAt 4 (some .int) 1 := ⟨kw2_215, kws_9, kw1_6, kw2_216, by decide +kernel⟩
set_option maxHeartbeats 4000000 in
set_option maxRecDepth 100000 in
theorem c_X10_bindingsAt {l : Launch} {D : va_G} {cy : Nat → ClassId} {ws : va_W} {kt tb lb ls T : Nat} (hT : ws[kt]? = some (tE tb lb ls T)) {kb eb nb e0 : Nat} {mb : Int32} (hLb : ws[kb]? = some (aL lb mb eb nb)) {ba pt ih il ip pn op : Nat → Nat} (hB : TB1 cy ws e0 eb nb ba pt ih il ip pn op) (hb_pt : ∀ i, pt i < 2 ^ 31) (hb_ih : ∀ i, ih i < 2 ^ 64) (hb_il : ∀ i, il i < 2 ^ 64) (hb_ip : ∀ i, ip i < 2 ^ 31) (hb_pn : ∀ i, pn i < 2 ^ 31) (hb_op : ∀ i, op i < 2 ^ 31) {z : Nat} (hz : z < 2 ^ 31) : RO l yX10_bindingsAt cX10_bindingsAt 4 (some .int) 3 64 [.ref tb, .int (nI z)] D cy ws (.int (nI (tg_cnt (fun k => decide (pn k = z)) nb))) := by
  refine ROi (by decide) (lv0 := [(0, .ref tb), (1, .int (nI z))]) rfl (Nat.le_of_ble_eq_true rfl) ?_
  intro p e s m args below meth c ls Q S hP hK hend hl
  have hx := S.1
  have hb := S.2.1
  have hown : s.vm.findClass RX10 = some m.cls := S.2.2.2.1
  have ht : ∀ w ∈ lw_g, w.before args s = true := fun w h => S.2.2.2.2 w (List.mem_cons_of_mem _ h)
  have hnb := hB.le
  refine nv_iconst (k := 0) hx hb dX10_bindingsAt_0 rfl ?_
  refine lv_istore_n (lv' := [(2, .int (nI 0)), (0, .ref tb), (1, .int (nI z))]) hx hb dX10_bindingsAt_1 rfl hl (by decide) rfl (fun ls hl => ?_)
  refine nv_iconst (k := 0) hx hb dX10_bindingsAt_2 rfl ?_
  refine lv_istore_n (lv' := [(3, .int (nI 0)), (2, .int (nI 0)), (0, .ref tb), (1, .int (nI z))]) hx hb dX10_bindingsAt_3 rfl hl (by decide) rfl (fun ls hl => ?_)
  have L4 : ∀ (fu : Nat) (i : Nat) (c9 : Nat), nb - i < fu → i ≤ nb → c9 = tg_cnt (fun k => decide (pn k = z)) i → ∀ ls : Array Slot, lv_has ls 4 [(0, .ref tb), (1, .int (nI z)), (2, .int (nI c9)), (3, .int (nI i))] → W p l e (rmo 3 64) s m args below meth c s.heap [] 0 0 Q (F0 m 4 ls []) := by
    intro fu
    induction fu with
    | zero => intro i c9 h9; omega
    | succ fu ihh =>
      intro i c9 hfu hi9 hc9 ls hl
      have hcl := tg_cnt_le (fun k => decide (pn k = z)) i
      refine lv_iload_n hx hb dX10_bindingsAt_4 rfl (lv_at hl 3 rfl) ?_
      refine lv_aload_n hx hb dX10_bindingsAt_5 rfl (lv_at hl 0 rfl) ?_
      refine va_get (ci := 7) (C := RX10) (T := TX10) (N := 3) hx hb ht iFX10 hown hK hP kt hT rfl 0 (by decide) (ht _ kw1_113) (fun _ h9 => h9) rfl dX10_bindingsAt_6 ?_
      refine ro_V S (c_Jx4a65c_size_8abf5 hLb) kw2_157 yv_Jx4a65c_size_8abf5 ⟨Nat.le_of_ble_eq_true rfl, Nat.le_of_ble_eq_true rfl⟩ hK hP (va_recv hK hP (ci := 0) (q0 := kb) rfl hLb) rfl hl.1 rfl (Nat.le_of_ble_eq_true rfl) dX10_bindingsAt_9 ⟨(Nat.zero_le _), (Nat.zero_le _)⟩ ?_
      refine nv_icmp_ge (tgt := 42) hx hb dX10_bindingsAt_12 (by decide) (by omega) (by omega) (fun h12 => ?_) (fun h12 => ?_)
      · skip
        refine lv_iload_n hx hb dX10_bindingsAt_42 rfl (lv_at hl 2 rfl) ?_
        exact hend ((congrArg nI (by rw [hc9, show i = nb by omega]))) dX10_bindingsAt_43
      refine lv_aload_n hx hb dX10_bindingsAt_15 rfl (lv_at hl 0 rfl) ?_
      refine va_get (ci := 7) (C := RX10) (T := TX10) (N := 3) hx hb ht iFX10 hown hK hP kt hT rfl 0 (by decide) (ht _ kw1_113) (fun _ h9 => h9) rfl dX10_bindingsAt_16 ?_
      refine lv_iload_n hx hb dX10_bindingsAt_19 rfl (lv_at hl 3 rfl) ?_
      refine ro_V S (c_getB hLb hB (i := i) (by omega)) kw2_161 yv_Jx4a65c_get_915e3 ⟨Nat.le_of_ble_eq_true rfl, Nat.le_of_ble_eq_true rfl⟩ hK hP (va_recv hK hP (ci := 0) (q0 := kb) rfl hLb) rfl hl.1 rfl (Nat.le_of_ble_eq_true rfl) dX10_bindingsAt_20 ⟨(Nat.zero_le _), (Nat.zero_le _)⟩ ?_
      obtain ⟨k_1, hk_1⟩ := hB.at (i := i) (by omega)
      have hk_1_pt := hb_pt i
      have hk_1_ih := hb_ih i
      have hk_1_il := hb_il i
      have hk_1_ip := hb_ip i
      have hk_1_pn := hb_pn i
      have hk_1_op := hb_op i
      refine va_castS hx hb hown (ht _ kw2_175) (hK.1 1 _ rfl).2 (va_recv hK hP (ci := 1) (q0 := k_1) rfl hk_1) dX10_bindingsAt_23 ?_
      refine va_get (ci := 1) (C := RX0) (T := TX0) (N := 6) hx hb ht iFX0 hown hK hP k_1 hk_1 rfl 4 (by decide) (ht _ kw3_8) (fun _ h9 => h9) rfl dX10_bindingsAt_26 ?_
      refine lv_iload_n hx hb dX10_bindingsAt_29 rfl (lv_at hl 1 rfl) ?_
      refine nv_icmp_ne (tgt := 36) hx hb dX10_bindingsAt_30 (by decide) (by omega) (by omega) (fun h30 => ?_) (fun h30 => ?_)
      · skip
        refine lv_iinc (v := (nI (i + 1))) (lv' := [(3, .int (nI (i + 1))), (0, .ref tb), (1, .int (nI z)), (2, .int (nI c9))]) hx hb dX10_bindingsAt_36 hl (k := 3) rfl (nI_inc _ _) (by decide) rfl (fun ls hl => ?_)
        refine lv_goto (tgt := 4) hx hb dX10_bindingsAt_39 (by decide) ?_
        exact ihh (i + 1) (c9) (by omega) (by omega) (by simp only [tg_cnt, decide_eq_true_eq]; split <;> omega) ls (lv_sub hl [1, 2, 3, 0] rfl)
      refine lv_iinc (v := (nI (c9 + 1))) (lv' := [(2, .int (nI (c9 + 1))), (0, .ref tb), (1, .int (nI z)), (3, .int (nI i))]) hx hb dX10_bindingsAt_33 hl (k := 2) rfl (nI_inc _ _) (by decide) rfl (fun ls hl => ?_)
      refine lv_iinc (v := (nI (i + 1))) (lv' := [(3, .int (nI (i + 1))), (2, .int (nI (c9 + 1))), (0, .ref tb), (1, .int (nI z))]) hx hb dX10_bindingsAt_36 hl (k := 3) rfl (nI_inc _ _) (by decide) rfl (fun ls hl => ?_)
      refine lv_goto (tgt := 4) hx hb dX10_bindingsAt_39 (by decide) ?_
      exact ihh (i + 1) (c9 + 1) (by omega) (by omega) (by simp only [tg_cnt, decide_eq_true_eq]; split <;> omega) ls (lv_sub hl [2, 3, 1, 0] rfl)
  exact L4 (nb + 1) 0 0 (by omega) (by omega) rfl ls (lv_sub hl [2, 3, 1, 0] rfl)
theorem dX10_numberFor_0 : decode cX10_numberFor 0 = .ok (.iconst 0, 1) := by decide +kernel
theorem dX10_numberFor_1 : decode cX10_numberFor 1 = .ok (.istore 6, 2) := by decide +kernel
theorem dX10_numberFor_3 : decode cX10_numberFor 3 = .ok (.iload 6, 2) := by decide +kernel
theorem dX10_numberFor_5 : decode cX10_numberFor 5 = .ok (.aload_n 0, 1) := by decide +kernel
theorem dX10_numberFor_6 : decode cX10_numberFor 6 = .ok (.getfield 12, 3) := by decide +kernel
theorem dX10_numberFor_9 : decode cX10_numberFor 9 = .ok (.invokevirtual 25, 3) := by decide +kernel
theorem dX10_numberFor_12 : decode cX10_numberFor 12 = .ok (.if_icmp .ge 45, 3) := by decide +kernel
theorem dX10_numberFor_15 : decode cX10_numberFor 15 = .ok (.aload_n 0, 1) := by decide +kernel
theorem dX10_numberFor_16 : decode cX10_numberFor 16 = .ok (.getfield 12, 3) := by decide +kernel
theorem dX10_numberFor_19 : decode cX10_numberFor 19 = .ok (.iload 6, 2) := by decide +kernel
theorem dX10_numberFor_21 : decode cX10_numberFor 21 = .ok (.invokevirtual 29, 3) := by decide +kernel
theorem dX10_numberFor_24 : decode cX10_numberFor 24 = .ok (.checkcast 33, 3) := by decide +kernel
theorem dX10_numberFor_27 : decode cX10_numberFor 27 = .ok (.lload_n 1, 1) := by decide +kernel
theorem dX10_numberFor_28 : decode cX10_numberFor 28 = .ok (.lload_n 3, 1) := by decide +kernel
theorem dX10_numberFor_29 : decode cX10_numberFor 29 = .ok (.invokevirtual 103, 3) := by decide +kernel
theorem dX10_numberFor_32 : decode cX10_numberFor 32 = .ok (.ifCond .eq 19, 3) := by decide +kernel
theorem dX10_numberFor_35 : decode cX10_numberFor 35 = .ok (.aload_n 0, 1) := by decide +kernel
theorem dX10_numberFor_36 : decode cX10_numberFor 36 = .ok (.getfield 12, 3) := by decide +kernel
theorem dX10_numberFor_39 : decode cX10_numberFor 39 = .ok (.iload 6, 2) := by decide +kernel
theorem dX10_numberFor_41 : decode cX10_numberFor 41 = .ok (.invokevirtual 29, 3) := by decide +kernel
theorem dX10_numberFor_44 : decode cX10_numberFor 44 = .ok (.checkcast 33, 3) := by decide +kernel
theorem dX10_numberFor_47 : decode cX10_numberFor 47 = .ok (.getfield 93, 3) := by decide +kernel
theorem dX10_numberFor_50 : decode cX10_numberFor 50 = .ok (.ireturn, 1) := by decide +kernel
theorem dX10_numberFor_51 : decode cX10_numberFor 51 = .ok (.iinc 6 1, 3) := by decide +kernel
theorem dX10_numberFor_54 : decode cX10_numberFor 54 = .ok (.goto (-51), 3) := by decide +kernel
theorem dX10_numberFor_57 : decode cX10_numberFor 57 = .ok (.iconst 0, 1) := by decide +kernel
theorem dX10_numberFor_58 : decode cX10_numberFor 58 = .ok (.istore 6, 2) := by decide +kernel
theorem dX10_numberFor_60 : decode cX10_numberFor 60 = .ok (.iconst 1, 1) := by decide +kernel
theorem dX10_numberFor_61 : decode cX10_numberFor 61 = .ok (.istore 7, 2) := by decide +kernel
theorem dX10_numberFor_63 : decode cX10_numberFor 63 = .ok (.iload 7, 2) := by decide +kernel
theorem dX10_numberFor_65 : decode cX10_numberFor 65 = .ok (.iload 5, 2) := by decide +kernel
theorem dX10_numberFor_67 : decode cX10_numberFor 67 = .ok (.if_icmp .ge 28, 3) := by decide +kernel
theorem dX10_numberFor_70 : decode cX10_numberFor 70 = .ok (.aload_n 0, 1) := by decide +kernel
theorem dX10_numberFor_71 : decode cX10_numberFor 71 = .ok (.iload 7, 2) := by decide +kernel
theorem dX10_numberFor_73 : decode cX10_numberFor 73 = .ok (.invokevirtual 134, 3) := by decide +kernel
theorem dX10_numberFor_76 : decode cX10_numberFor 76 = .ok (.aload_n 0, 1) := by decide +kernel
theorem dX10_numberFor_77 : decode cX10_numberFor 77 = .ok (.iload 6, 2) := by decide +kernel
theorem dX10_numberFor_79 : decode cX10_numberFor 79 = .ok (.invokevirtual 134, 3) := by decide +kernel
theorem dX10_numberFor_82 : decode cX10_numberFor 82 = .ok (.if_icmp .ge 7, 3) := by decide +kernel
theorem dX10_numberFor_85 : decode cX10_numberFor 85 = .ok (.iload 7, 2) := by decide +kernel
theorem dX10_numberFor_87 : decode cX10_numberFor 87 = .ok (.istore 6, 2) := by decide +kernel
theorem dX10_numberFor_89 : decode cX10_numberFor 89 = .ok (.iinc 7 1, 3) := by decide +kernel
theorem dX10_numberFor_92 : decode cX10_numberFor 92 = .ok (.goto (-29), 3) := by decide +kernel
theorem dX10_numberFor_95 : decode cX10_numberFor 95 = .ok (.iload 6, 2) := by decide +kernel
theorem dX10_numberFor_97 : decode cX10_numberFor 97 = .ok (.ireturn, 1) := by decide +kernel
theorem yv_X10_numberFor : YV RX10 yX10_numberFor cX10_numberFor 8 (some .int) 3 := ⟨kw2_211, kws_8, kw1_6, kw2_212, by decide +kernel⟩
set_option maxHeartbeats 4000000 in
set_option maxRecDepth 100000 in
theorem c_X10_numberFor {l : Launch} {D : va_G} {cy : Nat → ClassId} {ws : va_W} {kt tb lb ls T : Nat} (hT : ws[kt]? = some (tE tb lb ls T)) {kb eb nb e0 : Nat} {mb : Int32} (hLb : ws[kb]? = some (aL lb mb eb nb)) {ba pt ih il ip pn op : Nat → Nat} (hB : TB1 cy ws e0 eb nb ba pt ih il ip pn op) (hb_pt : ∀ i, pt i < 2 ^ 31) (hb_ih : ∀ i, ih i < 2 ^ 64) (hb_il : ∀ i, il i < 2 ^ 64) (hb_ip : ∀ i, ip i < 2 ^ 31) (hb_pn : ∀ i, pn i < 2 ^ 31) (hb_op : ∀ i, op i < 2 ^ 31) {hi lo u : Nat} (hhi : hi < 2 ^ 64) (hlo : lo < 2 ^ 64) (hu0 : 1 ≤ u) (hu : u ≤ 4) : RO l yX10_numberFor cX10_numberFor 8 (some .int) 4 87 [.ref tb, .long (lN (hi)), .long (lN (lo)), .int (nI u)] D cy ws (.int (nI (tg_best ih il pn nb u hi lo))) := by
  refine ROi (by decide) (lv0 := [(0, .ref tb), (1, .long (lN (hi))), (3, .long (lN (lo))), (5, .int (nI u))]) rfl (Nat.le_of_ble_eq_true rfl) ?_
  intro p e s m args below meth c ls Q S hP hK hend hl
  have hx := S.1
  have hb := S.2.1
  have hown : s.vm.findClass RX10 = some m.cls := S.2.2.2.1
  have ht : ∀ w ∈ lw_g, w.before args s = true := fun w h => S.2.2.2.2 w (List.mem_cons_of_mem _ h)
  have hnb := hB.le
  refine nv_iconst (k := 0) hx hb dX10_numberFor_0 rfl ?_
  refine lv_istore (lv' := [(6, .int (nI 0)), (0, .ref tb), (1, .long (lN (hi))), (3, .long (lN (lo))), (5, .int (nI u))]) hx hb dX10_numberFor_1 hl (by decide) rfl (fun ls hl => ?_)
  have L3 : ∀ (fu : Nat) (i : Nat), nb - i < fu → i ≤ nb → (∀ j, j < i → (fun k => decide (ih k = hi ∧ il k = lo)) j = false) → ∀ ls : Array Slot, lv_has ls 8 [(0, .ref tb), (1, .long (lN (hi))), (3, .long (lN (lo))), (5, .int (nI u)), (6, .int (nI i))] → W p l e (rmo 4 87) s m args below meth c s.heap [] 0 0 Q (F0 m 3 ls []) := by
    intro fu
    induction fu with
    | zero => intro i h9; omega
    | succ fu ih3 =>
      intro i hfu hi9 hno ls hl
      refine lv_iload hx hb dX10_numberFor_3 (lv_at hl 4 rfl) ?_
      refine lv_aload_n hx hb dX10_numberFor_5 rfl (lv_at hl 0 rfl) ?_
      refine va_get (ci := 7) (C := RX10) (T := TX10) (N := 3) hx hb ht iFX10 hown hK hP kt hT rfl 0 (by decide) (ht _ kw1_113) (fun _ h9 => h9) rfl dX10_numberFor_6 ?_
      refine ro_V S (c_Jx4a65c_size_8abf5 hLb) kw2_157 yv_Jx4a65c_size_8abf5 ⟨Nat.le_of_ble_eq_true rfl, Nat.le_of_ble_eq_true rfl⟩ hK hP (va_recv hK hP (ci := 0) (q0 := kb) rfl hLb) rfl hl.1 rfl (Nat.le_of_ble_eq_true rfl) dX10_numberFor_9 ⟨(Nat.zero_le _), (Nat.zero_le _)⟩ ?_
      refine nv_icmp_ge (tgt := 57) hx hb dX10_numberFor_12 (by decide) (by omega) (by omega) (fun h12 => ?_) (fun h12 => ?_)
      · skip
        refine nv_iconst (k := 0) hx hb dX10_numberFor_57 rfl ?_
        refine lv_istore (lv' := [(6, .int (nI 0)), (0, .ref tb), (1, .long (lN (hi))), (3, .long (lN (lo))), (5, .int (nI u))]) hx hb dX10_numberFor_58 hl (by decide) rfl (fun ls hl => ?_)
        refine nv_iconst (k := 1) hx hb dX10_numberFor_60 rfl ?_
        refine lv_istore (lv' := [(7, .int (nI 1)), (6, .int (nI 0)), (0, .ref tb), (1, .long (lN (hi))), (3, .long (lN (lo))), (5, .int (nI u))]) hx hb dX10_numberFor_61 hl (by decide) rfl (fun ls hl => ?_)
        have L63 : ∀ (fu : Nat) (k : Nat) (best : Nat), u - k < fu → 1 ≤ k ∧ k ≤ u → best ≤ 4 ∧ best = tg_few (fun z => tg_cnt (fun k => decide (pn k = z)) nb) (k - 1) → ∀ ls : Array Slot, lv_has ls 8 [(0, .ref tb), (1, .long (lN (hi))), (3, .long (lN (lo))), (5, .int (nI u)), (6, .int (nI best)), (7, .int (nI k))] → W p l e (rmo 4 87) s m args below meth c s.heap [] 0 0 Q (F0 m 63 ls []) := by
          intro fu
          induction fu with
          | zero => intro k best h9; omega
          | succ fu ih63 =>
            intro k best hfu hk hbe ls hl
            refine lv_iload hx hb dX10_numberFor_63 (lv_at hl 5 rfl) ?_
            refine lv_iload hx hb dX10_numberFor_65 (lv_at hl 3 rfl) ?_
            refine nv_icmp_ge (tgt := 95) hx hb dX10_numberFor_67 (by decide) (by omega) (by omega) (fun h67 => ?_) (fun h67 => ?_)
            · skip
              refine lv_iload hx hb dX10_numberFor_95 (lv_at hl 4 rfl) ?_
              exact hend ((congrArg nI (by unfold tg_best; rw [tg_first_none (q := (fun k => decide (ih k = hi ∧ il k = lo))) (fun j hj => hno j (by omega)), if_neg (by omega), show u = k by omega]; exact hbe.2))) dX10_numberFor_97
            refine lv_aload_n hx hb dX10_numberFor_70 rfl (lv_at hl 0 rfl) ?_
            refine lv_iload hx hb dX10_numberFor_71 (lv_at hl 5 rfl) ?_
            refine ro_V S (c_X10_bindingsAt hT hLb hB hb_pt hb_ih hb_il hb_ip hb_pn hb_op (z := k) (by omega)) kw2_213 yv_X10_bindingsAt ⟨Nat.le_of_ble_eq_true rfl, Nat.le_of_ble_eq_true rfl⟩ hK hP (va_recv hK hP (ci := 7) (q0 := kt) rfl hT) rfl hl.1 rfl (Nat.le_of_ble_eq_true rfl) dX10_numberFor_73 ⟨(Nat.zero_le _), (Nat.zero_le _)⟩ ?_
            have hq73 := tg_cnt_le (fun k9 => decide (pn k9 = k)) nb
            refine lv_aload_n hx hb dX10_numberFor_76 rfl (lv_at hl 0 rfl) ?_
            refine lv_iload hx hb dX10_numberFor_77 (lv_at hl 4 rfl) ?_
            refine ro_V S (c_X10_bindingsAt hT hLb hB hb_pt hb_ih hb_il hb_ip hb_pn hb_op (z := best) (by omega)) kw2_213 yv_X10_bindingsAt ⟨Nat.le_of_ble_eq_true rfl, Nat.le_of_ble_eq_true rfl⟩ hK hP (va_recv hK hP (ci := 7) (q0 := kt) rfl hT) rfl hl.1 rfl (Nat.le_of_ble_eq_true rfl) dX10_numberFor_79 ⟨(Nat.zero_le _), (Nat.zero_le _)⟩ ?_
            have hq79 := tg_cnt_le (fun k9 => decide (pn k9 = best)) nb
            refine nv_icmp_ge (tgt := 89) hx hb dX10_numberFor_82 (by decide) (by omega) (by omega) (fun h82 => ?_) (fun h82 => ?_)
            · skip
              refine lv_iinc (v := (nI (k + 1))) (lv' := [(7, .int (nI (k + 1))), (0, .ref tb), (1, .long (lN (hi))), (3, .long (lN (lo))), (5, .int (nI u)), (6, .int (nI best))]) hx hb dX10_numberFor_89 hl (k := 5) rfl (nI_inc _ _) (by decide) rfl (fun ls hl => ?_)
              refine lv_goto (tgt := 63) hx hb dX10_numberFor_92 (by decide) ?_
              exact ih63 (k + 1) (best) (by omega) (by omega) ⟨by omega, by rw [Nat.add_sub_cancel, few_step (by omega), ← hbe.2]; first | (rw [if_pos (by omega)]; done) | (rw [if_neg (by omega)]; done)⟩ ls (lv_sub hl [1, 2, 3, 4, 5, 0] rfl)
            refine lv_iload hx hb dX10_numberFor_85 (lv_at hl 5 rfl) ?_
            refine lv_istore (lv' := [(6, .int (nI k)), (0, .ref tb), (1, .long (lN (hi))), (3, .long (lN (lo))), (5, .int (nI u)), (7, .int (nI k))]) hx hb dX10_numberFor_87 hl (by decide) rfl (fun ls hl => ?_)
            refine lv_iinc (v := (nI (k + 1))) (lv' := [(7, .int (nI (k + 1))), (6, .int (nI k)), (0, .ref tb), (1, .long (lN (hi))), (3, .long (lN (lo))), (5, .int (nI u))]) hx hb dX10_numberFor_89 hl (k := 5) rfl (nI_inc _ _) (by decide) rfl (fun ls hl => ?_)
            refine lv_goto (tgt := 63) hx hb dX10_numberFor_92 (by decide) ?_
            exact ih63 (k + 1) (k) (by omega) (by omega) ⟨by omega, by rw [Nat.add_sub_cancel, few_step (by omega), ← hbe.2]; first | (rw [if_pos (by omega)]; done) | (rw [if_neg (by omega)]; done)⟩ ls (lv_sub hl [2, 3, 4, 5, 1, 0] rfl)
        exact L63 (u + 1) 1 0 (by omega) (by omega) (by exact ⟨by omega, rfl⟩) ls (lv_sub hl [2, 3, 4, 5, 1, 0] rfl)
      refine lv_aload_n hx hb dX10_numberFor_15 rfl (lv_at hl 0 rfl) ?_
      refine va_get (ci := 7) (C := RX10) (T := TX10) (N := 3) hx hb ht iFX10 hown hK hP kt hT rfl 0 (by decide) (ht _ kw1_113) (fun _ h9 => h9) rfl dX10_numberFor_16 ?_
      refine lv_iload hx hb dX10_numberFor_19 (lv_at hl 4 rfl) ?_
      refine ro_V S (c_getB hLb hB (i := i) (by omega)) kw2_161 yv_Jx4a65c_get_915e3 ⟨Nat.le_of_ble_eq_true rfl, Nat.le_of_ble_eq_true rfl⟩ hK hP (va_recv hK hP (ci := 0) (q0 := kb) rfl hLb) rfl hl.1 rfl (Nat.le_of_ble_eq_true rfl) dX10_numberFor_21 ⟨(Nat.zero_le _), (Nat.zero_le _)⟩ ?_
      obtain ⟨k_1, hk_1⟩ := hB.at (i := i) (by omega)
      have hk_1_pt := hb_pt i
      have hk_1_ih := hb_ih i
      have hk_1_il := hb_il i
      have hk_1_ip := hb_ip i
      have hk_1_pn := hb_pn i
      have hk_1_op := hb_op i
      refine va_castS hx hb hown (ht _ kw2_175) (hK.1 1 _ rfl).2 (va_recv hK hP (ci := 1) (q0 := k_1) rfl hk_1) dX10_numberFor_24 ?_
      refine lv_lload_n hx hb dX10_numberFor_27 rfl (lv_at hl 1 rfl) ?_
      refine lv_lload_n hx hb dX10_numberFor_28 rfl (lv_at hl 2 rfl) ?_
      refine ro_V S (c_X0_isOf hk_1 (hb_ih _) (hb_il _) (hi := hi) (lo := lo) (by omega) (by omega)) kw2_176 yv_X0_isOf ⟨Nat.le_of_ble_eq_true rfl, Nat.le_of_ble_eq_true rfl⟩ hK hP (va_recv hK hP (ci := 1) (q0 := k_1) rfl hk_1) rfl hl.1 rfl (Nat.le_of_ble_eq_true rfl) dX10_numberFor_29 ⟨(Nat.zero_le _), (Nat.zero_le _)⟩ ?_
      refine nv_if_eqb (tgt := 51) hx hb dX10_numberFor_32 (by decide) (fun h32 => ?_) (fun h32 => ?_)
      · skip
        refine lv_iinc (v := (nI (i + 1))) (lv' := [(6, .int (nI (i + 1))), (0, .ref tb), (1, .long (lN (hi))), (3, .long (lN (lo))), (5, .int (nI u))]) hx hb dX10_numberFor_51 hl (k := 4) rfl (nI_inc _ _) (by decide) rfl (fun ls hl => ?_)
        refine lv_goto (tgt := 3) hx hb dX10_numberFor_54 (by decide) ?_
        exact ih3 (i + 1) (by omega) (by omega) (no_step hno h32) ls (lv_sub hl [1, 2, 3, 4, 0] rfl)
      refine lv_aload_n hx hb dX10_numberFor_35 rfl (lv_at hl 0 rfl) ?_
      refine va_get (ci := 7) (C := RX10) (T := TX10) (N := 3) hx hb ht iFX10 hown hK hP kt hT rfl 0 (by decide) (ht _ kw1_113) (fun _ h9 => h9) rfl dX10_numberFor_36 ?_
      refine lv_iload hx hb dX10_numberFor_39 (lv_at hl 4 rfl) ?_
      refine ro_V S (c_getB hLb hB (i := i) (by omega)) kw2_161 yv_Jx4a65c_get_915e3 ⟨Nat.le_of_ble_eq_true rfl, Nat.le_of_ble_eq_true rfl⟩ hK hP (va_recv hK hP (ci := 0) (q0 := kb) rfl hLb) rfl hl.1 rfl (Nat.le_of_ble_eq_true rfl) dX10_numberFor_41 ⟨(Nat.zero_le _), (Nat.zero_le _)⟩ ?_
      obtain ⟨k_2, hk_2⟩ := hB.at (i := i) (by omega)
      have hk_2_pt := hb_pt i
      have hk_2_ih := hb_ih i
      have hk_2_il := hb_il i
      have hk_2_ip := hb_ip i
      have hk_2_pn := hb_pn i
      have hk_2_op := hb_op i
      refine va_castS hx hb hown (ht _ kw2_175) (hK.1 1 _ rfl).2 (va_recv hK hP (ci := 1) (q0 := k_2) rfl hk_2) dX10_numberFor_44 ?_
      refine va_get (ci := 1) (C := RX0) (T := TX0) (N := 6) hx hb ht iFX0 hown hK hP k_2 hk_2 rfl 4 (by decide) (ht _ kw3_8) (fun _ h9 => h9) rfl dX10_numberFor_47 ?_
      exact hend ((congrArg nI (by unfold tg_best; rw [tg_first_at (q := (fun k => decide (ih k = hi ∧ il k = lo))) (k := i) h32 hno (by omega), if_pos (by omega)]))) dX10_numberFor_50
  exact L3 (nb + 1) 0 (by omega) (by omega) (fun j hj => absurd hj (by omega)) ls (lv_sub hl [1, 2, 3, 4, 0] rfl)
theorem dX10_mayAddSession_0 : decode cX10_mayAddSession 0 = .ok (.aload_n 1, 1) := by decide +kernel
theorem dX10_mayAddSession_1 : decode cX10_mayAddSession 1 = .ok (.invokevirtual 119, 3) := by decide +kernel
theorem dX10_mayAddSession_4 : decode cX10_mayAddSession 4 = .ok (.ifCond .eq 20, 3) := by decide +kernel
theorem dX10_mayAddSession_7 : decode cX10_mayAddSession 7 = .ok (.aload_n 0, 1) := by decide +kernel
theorem dX10_mayAddSession_8 : decode cX10_mayAddSession 8 = .ok (.getfield 18, 3) := by decide +kernel
theorem dX10_mayAddSession_11 : decode cX10_mayAddSession 11 = .ok (.invokevirtual 25, 3) := by decide +kernel
theorem dX10_mayAddSession_14 : decode cX10_mayAddSession 14 = .ok (.sipush 128, 3) := by decide +kernel
theorem dX10_mayAddSession_17 : decode cX10_mayAddSession 17 = .ok (.if_icmp .ge 7, 3) := by decide +kernel
theorem dX10_mayAddSession_20 : decode cX10_mayAddSession 20 = .ok (.iconst 1, 1) := by decide +kernel
theorem dX10_mayAddSession_21 : decode cX10_mayAddSession 21 = .ok (.goto 4, 3) := by decide +kernel
theorem dX10_mayAddSession_24 : decode cX10_mayAddSession 24 = .ok (.iconst 0, 1) := by decide +kernel
theorem dX10_mayAddSession_25 : decode cX10_mayAddSession 25 = .ok (.ireturn, 1) := by decide +kernel
theorem yv_X10_mayAddSession : YV RX10 yX10_mayAddSession cX10_mayAddSession 2 (some .boolean) 1 := ⟨kw2_199, kws_6, kw1_6, kw2_200, by decide +kernel⟩
set_option maxHeartbeats 4000000 in
set_option maxRecDepth 100000 in
theorem c_X10_mayAddSession {l : Launch} {D : va_G} {cy : Nat → ClassId} {ws : va_W} {kt tb lb ls T : Nat} (hT : ws[kt]? = some (tE tb lb ls T)) {kc es ns : Nat} {mc9 : Int32} (hLs : ws[kc]? = some (aL ls mc9 es ns)) (hns : ns ≤ 128) {kf fl q port far fpt ev : Nat} {ins : Bool} (hf0 : ws[kf]? = some (fE fl ins q port far fpt ev)) (hq : q < 256) (hport : port < 65536) (hfar : far < 2 ^ 32) (hfpt : fpt < 65536) (hev : ev ≤ 3) : RO l yX10_mayAddSession cX10_mayAddSession 2 (some .boolean) 1 20 [.ref tb, .ref fl] D cy ws (.int (bI (decide ((q ≠ 6 ∨ ev = 2) ∧ ns < 128)))) := by
  refine ROz (by decide) (lv0 := [(0, .ref tb), (1, .ref fl)]) rfl (Nat.le_of_ble_eq_true rfl) ?_
  intro p e s m args below meth c ls Q S hP hK hend hl
  have hx := S.1
  have hb := S.2.1
  have hown : s.vm.findClass RX10 = some m.cls := S.2.2.2.1
  have ht : ∀ w ∈ lw_g, w.before args s = true := fun w h => S.2.2.2.2 w (List.mem_cons_of_mem _ h)
  refine lv_aload_n hx hb dX10_mayAddSession_0 rfl (lv_at hl 1 rfl) ?_
  refine ro_V S (c_X2_mayOpen hf0 hq hport hev) kw2_201 yv_X2_mayOpen ⟨Nat.le_of_ble_eq_true rfl, Nat.le_of_ble_eq_true rfl⟩ hK hP (va_recv hK hP (ci := 3) (q0 := kf) rfl hf0) rfl hl.1 rfl (Nat.le_of_ble_eq_true rfl) dX10_mayAddSession_1 ⟨(Nat.zero_le _), (Nat.zero_le _)⟩ ?_
  refine nv_if_eqb (tgt := 24) hx hb dX10_mayAddSession_4 (by decide) (fun h4 => ?_) (fun h4 => ?_)
  · skip
    refine nv_iconst (k := 0) hx hb dX10_mayAddSession_24 rfl ?_
    exact hend ((bI_f (decide_eq_false (by first | (have h9 := of_decide_eq_false h4; omega) | omega)))) dX10_mayAddSession_25
  refine lv_aload_n hx hb dX10_mayAddSession_7 rfl (lv_at hl 0 rfl) ?_
  refine va_get (ci := 7) (C := RX10) (T := TX10) (N := 3) hx hb ht iFX10 hown hK hP kt hT rfl 1 (by decide) (ht _ kw1_114) (fun _ h9 => h9) rfl dX10_mayAddSession_8 ?_
  refine ro_V S (c_Jx4a65c_size_8abf5 hLs) kw2_157 yv_Jx4a65c_size_8abf5 ⟨Nat.le_of_ble_eq_true rfl, Nat.le_of_ble_eq_true rfl⟩ hK hP (va_recv hK hP (ci := 0) (q0 := kc) rfl hLs) rfl hl.1 rfl (Nat.le_of_ble_eq_true rfl) dX10_mayAddSession_11 ⟨(Nat.zero_le _), (Nat.zero_le _)⟩ ?_
  refine nv_sipush (k := 128) hx hb dX10_mayAddSession_14 (by decide) ?_
  refine nv_icmp_ge (tgt := 24) hx hb dX10_mayAddSession_17 (by decide) (by omega) (by omega) (fun h17 => ?_) (fun h17 => ?_)
  · skip
    refine nv_iconst (k := 0) hx hb dX10_mayAddSession_24 rfl ?_
    exact hend ((bI_f (decide_eq_false (by first | (have h9 := of_decide_eq_false h4; omega) | omega)))) dX10_mayAddSession_25
  refine nv_iconst (k := 1) hx hb dX10_mayAddSession_20 rfl ?_
  refine lv_goto (tgt := 25) hx hb dX10_mayAddSession_21 (by decide) ?_
  exact hend ((bI_t (decide_eq_true ⟨of_decide_eq_true h4, by omega⟩))) dX10_mayAddSession_25
theorem dX10_freePort_0 : decode cX10_freePort 0 = .ok (.aload_n 1, 1) := by decide +kernel
theorem dX10_freePort_1 : decode cX10_freePort 1 = .ok (.invokestatic 138, 3) := by decide +kernel
theorem dX10_freePort_4 : decode cX10_freePort 4 = .ok (.istore_n 3, 1) := by decide +kernel
theorem dX10_freePort_5 : decode cX10_freePort 5 = .ok (.aload_n 1, 1) := by decide +kernel
theorem dX10_freePort_6 : decode cX10_freePort 6 = .ok (.getfield 80, 3) := by decide +kernel
theorem dX10_freePort_9 : decode cX10_freePort 9 = .ok (.iconst 1, 1) := by decide +kernel
theorem dX10_freePort_10 : decode cX10_freePort 10 = .ok (.if_icmp .ne 7, 3) := by decide +kernel
theorem dX10_freePort_13 : decode cX10_freePort 13 = .ok (.iconst 1, 1) := by decide +kernel
theorem dX10_freePort_14 : decode cX10_freePort 14 = .ok (.goto 4, 3) := by decide +kernel
theorem dX10_freePort_17 : decode cX10_freePort 17 = .ok (.iconst 2, 1) := by decide +kernel
theorem dX10_freePort_18 : decode cX10_freePort 18 = .ok (.istore 4, 2) := by decide +kernel
theorem dX10_freePort_20 : decode cX10_freePort 20 = .ok (.iconst 0, 1) := by decide +kernel
theorem dX10_freePort_21 : decode cX10_freePort 21 = .ok (.istore 5, 2) := by decide +kernel
theorem dX10_freePort_23 : decode cX10_freePort 23 = .ok (.iload 5, 2) := by decide +kernel
theorem dX10_freePort_25 : decode cX10_freePort 25 = .ok (.bipush 64, 2) := by decide +kernel
theorem dX10_freePort_27 : decode cX10_freePort 27 = .ok (.if_icmp .ge 29, 3) := by decide +kernel
theorem dX10_freePort_30 : decode cX10_freePort 30 = .ok (.aload_n 0, 1) := by decide +kernel
theorem dX10_freePort_31 : decode cX10_freePort 31 = .ok (.aload_n 1, 1) := by decide +kernel
theorem dX10_freePort_32 : decode cX10_freePort 32 = .ok (.getfield 80, 3) := by decide +kernel
theorem dX10_freePort_35 : decode cX10_freePort 35 = .ok (.iload_n 2, 1) := by decide +kernel
theorem dX10_freePort_36 : decode cX10_freePort 36 = .ok (.iload_n 3, 1) := by decide +kernel
theorem dX10_freePort_37 : decode cX10_freePort 37 = .ok (.invokevirtual 89, 3) := by decide +kernel
theorem dX10_freePort_40 : decode cX10_freePort 40 = .ok (.ifnonnull 5, 3) := by decide +kernel
theorem dX10_freePort_43 : decode cX10_freePort 43 = .ok (.iload_n 3, 1) := by decide +kernel
theorem dX10_freePort_44 : decode cX10_freePort 44 = .ok (.ireturn, 1) := by decide +kernel
theorem dX10_freePort_45 : decode cX10_freePort 45 = .ok (.iload_n 3, 1) := by decide +kernel
theorem dX10_freePort_46 : decode cX10_freePort 46 = .ok (.iload 4, 2) := by decide +kernel
theorem dX10_freePort_48 : decode cX10_freePort 48 = .ok (.iadd, 1) := by decide +kernel
theorem dX10_freePort_49 : decode cX10_freePort 49 = .ok (.istore_n 3, 1) := by decide +kernel
theorem dX10_freePort_50 : decode cX10_freePort 50 = .ok (.iinc 5 1, 3) := by decide +kernel
theorem dX10_freePort_53 : decode cX10_freePort 53 = .ok (.goto (-30), 3) := by decide +kernel
theorem dX10_freePort_56 : decode cX10_freePort 56 = .ok (.iload_n 3, 1) := by decide +kernel
theorem dX10_freePort_57 : decode cX10_freePort 57 = .ok (.ireturn, 1) := by decide +kernel
theorem yv_X10_freePort : YV RX10 yX10_freePort cX10_freePort 6 (some .int) 2 := ⟨kw2_219, kws_10, kw1_6, kw2_220, by decide +kernel⟩
set_option maxHeartbeats 4000000 in
set_option maxRecDepth 100000 in
theorem c_X10_freePort {l : Launch} {D : va_G} {cy : Nat → ClassId} {ws : va_W} {kt tb lb ls T : Nat} (hT : ws[kt]? = some (tE tb lb ls T)) {kb eb nb e0 : Nat} {mb : Int32} (hLb : ws[kb]? = some (aL lb mb eb nb)) {ba pt ih il ip pn op : Nat → Nat} (hB : TB1 cy ws e0 eb nb ba pt ih il ip pn op) (hb_pt : ∀ i, pt i < 2 ^ 31) (hb_ih : ∀ i, ih i < 2 ^ 64) (hb_il : ∀ i, il i < 2 ^ 64) (hb_ip : ∀ i, ip i < 2 ^ 31) (hb_pn : ∀ i, pn i < 2 ^ 31) (hb_op : ∀ i, op i < 2 ^ 31) {kf fl q port far fpt ev : Nat} {ins : Bool} (hf0 : ws[kf]? = some (fE fl ins q port far fpt ev)) (hq : q < 256) (hport : port < 65536) (hfar : far < 2 ^ 32) (hfpt : fpt < 65536) (hev : ev ≤ 3) {num : Nat} (hnum : num < 2 ^ 31) (hnb0 : nb < 64) : RO l yX10_freePort cX10_freePort 6 (some .int) 4 90 [.ref tb, .ref fl, .int (nI num)] D cy ws (.int (nI (tg_port pt pn op nb q num port))) := by
  refine ROi (by decide) (lv0 := [(0, .ref tb), (1, .ref fl), (2, .int (nI num))]) rfl (Nat.le_of_ble_eq_true rfl) ?_
  intro p e s m args below meth c ls Q S hP hK hend hl
  have hx := S.1
  have hb := S.2.1
  have hown : s.vm.findClass RX10 = some m.cls := S.2.2.2.1
  have ht : ∀ w ∈ lw_g, w.before args s = true := fun w h => S.2.2.2.2 w (List.mem_cons_of_mem _ h)
  have hvl := tg_v0_le q port
  refine lv_aload_n hx hb dX10_freePort_0 rfl (lv_at hl 1 rfl) ?_
  refine ro_S S (c_X10_firstPort hf0 hq hport hev) kw2_221 yv_X10_firstPort ⟨Nat.le_of_ble_eq_true rfl, Nat.le_of_ble_eq_true rfl⟩ hK hP rfl hl.1 rfl (Nat.le_of_ble_eq_true rfl) dX10_freePort_1 ⟨(Nat.zero_le _), (Nat.zero_le _)⟩ ?_
  refine lv_istore_n (lv' := [(3, .int (nI (tg_v0 q port))), (0, .ref tb), (1, .ref fl), (2, .int (nI num))]) hx hb dX10_freePort_4 rfl hl (by decide) rfl (fun ls hl => ?_)
  refine lv_aload_n hx hb dX10_freePort_5 rfl (lv_at hl 2 rfl) ?_
  refine va_get (ci := 3) (C := RX2) (T := TX2) (N := 6) hx hb ht iFX2 hown hK hP kf hf0 rfl 1 (by decide) (ht _ kw2_122) (fun _ h9 => h9) rfl dX10_freePort_6 ?_
  refine nv_iconst (k := 1) hx hb dX10_freePort_9 rfl ?_
  have J18 : ∀ v18 : Nat, v18 = tg_sp q → ∀ ls : Array Slot, lv_has ls 6 [(3, .int (nI (tg_v0 q port))), (0, .ref tb), (1, .ref fl), (2, .int (nI num))] → W p l e (rmo 4 90) s m args below meth c s.heap [] 0 0 Q (F0 m 18 ls [.int (nI v18)]) := by
    intro v18 hv18 ls hl
    have hs9 := tg_sp_le q
    refine lv_istore (lv' := [(4, .int (nI v18)), (3, .int (nI (tg_v0 q port))), (0, .ref tb), (1, .ref fl), (2, .int (nI num))]) hx hb dX10_freePort_18 hl (by decide) rfl (fun ls hl => ?_)
    refine nv_iconst (k := 0) hx hb dX10_freePort_20 rfl ?_
    refine lv_istore (lv' := [(5, .int (nI 0)), (4, .int (nI v18)), (3, .int (nI (tg_v0 q port))), (0, .ref tb), (1, .ref fl), (2, .int (nI num))]) hx hb dX10_freePort_21 hl (by decide) rfl (fun ls hl => ?_)
    have L23 : ∀ (fu : Nat) (j : Nat) (w : Nat), 64 - j < fu → j ≤ 64 → w = tg_v0 q port + tg_sp q * j → (∀ i, i < j → tg_used pt pn op nb q num (tg_v0 q port + tg_sp q * i) = true) → ∀ ls : Array Slot, lv_has ls 6 [(0, .ref tb), (1, .ref fl), (2, .int (nI num)), (4, .int (nI v18)), (3, .int (nI w)), (5, .int (nI j))] → W p l e (rmo 4 90) s m args below meth c s.heap [] 0 0 Q (F0 m 23 ls []) := by
      intro fu
      induction fu with
      | zero => intro j w h9; omega
      | succ fu ihh =>
        intro j w hfu hj hw hus ls hl
        have hvl := tg_v0_le q port
        have hsl := tg_sp_le q
        have hwb : w ≤ 1025 + 2 * 64 := by rw [hw]; have : tg_sp q * j ≤ 2 * 64 := Nat.mul_le_mul (by omega) (by omega); omega
        refine lv_iload hx hb dX10_freePort_23 (lv_at hl 5 rfl) ?_
        refine nv_bipush (k := 64) hx hb dX10_freePort_25 (by decide) ?_
        refine nv_icmp_ge (tgt := 56) hx hb dX10_freePort_27 (by decide) (by omega) (by omega) (fun h27 => ?_) (fun h27 => ?_)
        · skip
          refine lv_iload_n hx hb dX10_freePort_56 rfl (lv_at hl 4 rfl) ?_
          exact hend ((by exfalso; have h9 := tg_pig (j := j) (by omega) hus; omega)) dX10_freePort_57
        refine lv_aload_n hx hb dX10_freePort_30 rfl (lv_at hl 0 rfl) ?_
        refine lv_aload_n hx hb dX10_freePort_31 rfl (lv_at hl 1 rfl) ?_
        refine va_get (ci := 3) (C := RX2) (T := TX2) (N := 6) hx hb ht iFX2 hown hK hP kf hf0 rfl 1 (by decide) (ht _ kw2_122) (fun _ h9 => h9) rfl dX10_freePort_32 ?_
        refine lv_iload_n hx hb dX10_freePort_35 rfl (lv_at hl 2 rfl) ?_
        refine lv_iload_n hx hb dX10_freePort_36 rfl (lv_at hl 4 rfl) ?_
        refine ro_V S (c_X10_byOuter hT hLb hB hb_pt hb_ih hb_il hb_ip hb_pn hb_op (q9 := q) (num := num) (v := w) (by omega) (by omega) (by omega)) kw2_224 yv_X10_byOuter ⟨Nat.le_of_ble_eq_true rfl, Nat.le_of_ble_eq_true rfl⟩ hK hP (va_recv hK hP (ci := 7) (q0 := kt) rfl hT) rfl hl.1 rfl (Nat.le_of_ble_eq_true rfl) dX10_freePort_37 ⟨(Nat.zero_le _), (Nat.zero_le _)⟩ ?_
        by_cases hus1 : tg_used pt pn op nb q num w = true
        · have eX : tg_at ba (fun k => decide (pt k = q ∧ pn k = num ∧ op k = w)) nb = some (ba (tg_first (fun k => decide (pt k = q ∧ pn k = num ∧ op k = w)) nb)) := tg_at_first (of_decide_eq_true hus1)
          rw [eX]
          refine lv_ifnonnull (tgt := 45) hx hb dX10_freePort_40 (by decide) ?_
          have hus2 : ∀ i, i < j + 1 → tg_used pt pn op nb q num (tg_v0 q port + tg_sp q * i) = true := fun i hi => by
            rcases Nat.lt_or_ge i j with z | z
            · exact hus i z
            · rw [show i = j by omega, ← hw]; exact hus1
          refine lv_iload_n hx hb dX10_freePort_45 rfl (lv_at hl 4 rfl) ?_
          refine lv_iload hx hb dX10_freePort_46 (lv_at hl 3 rfl) ?_
          refine nv_iadd hx hb dX10_freePort_48 ?_
          refine lv_istore_n (lv' := [(3, .int (nI (w + v18))), (0, .ref tb), (1, .ref fl), (2, .int (nI num)), (4, .int (nI v18)), (5, .int (nI j))]) hx hb dX10_freePort_49 rfl hl (by decide) rfl (fun ls hl => ?_)
          refine lv_iinc (v := (nI (j + 1))) (lv' := [(5, .int (nI (j + 1))), (3, .int (nI (w + v18))), (0, .ref tb), (1, .ref fl), (2, .int (nI num)), (4, .int (nI v18))]) hx hb dX10_freePort_50 hl (k := 5) rfl (nI_inc _ _) (by decide) rfl (fun ls hl => ?_)
          refine lv_goto (tgt := 23) hx hb dX10_freePort_53 (by decide) ?_
          exact ihh (j + 1) (w + v18) (by omega) (by omega) (by rw [hv18, hw, Nat.mul_add, Nat.mul_one]; omega) hus2 ls (lv_sub hl [2, 3, 4, 5, 1, 0] rfl)
        have eX : tg_at ba (fun k => decide (pt k = q ∧ pn k = num ∧ op k = w)) nb = none := tg_at_nf (fun z => hus1 (decide_eq_true z))
        rw [eX]
        refine lv_ifnonnullN hx hb dX10_freePort_40 ?_
        refine lv_iload_n hx hb dX10_freePort_43 rfl (lv_at hl 4 rfl) ?_
        exact hend ((congrArg nI (by rw [tg_port_at (by omega) hus (by rw [← hw]; exact Bool.eq_false_iff.mpr hus1)]; exact hw))) dX10_freePort_44
    exact L23 (65) 0 (tg_v0 q port) (by omega) (by omega) (by rw [Nat.mul_zero, Nat.add_zero]) (fun i hi => absurd hi (by omega)) ls (lv_sub hl [3, 4, 5, 1, 2, 0] rfl)
  refine nv_icmp_ne (tgt := 17) hx hb dX10_freePort_10 (by decide) (by omega) (by omega) (fun h10 => ?_) (fun h10 => ?_)
  · skip
    refine nv_iconst (k := 2) hx hb dX10_freePort_17 rfl ?_
    exact J18 (2) (by unfold tg_sp; (repeat' split) <;> omega) ls (lv_sub hl [0, 1, 2, 3] rfl)
  refine nv_iconst (k := 1) hx hb dX10_freePort_13 rfl ?_
  refine lv_goto (tgt := 18) hx hb dX10_freePort_14 (by decide) ?_
  exact J18 (1) (by unfold tg_sp; (repeat' split) <;> omega) ls (lv_sub hl [0, 1, 2, 3] rfl)
