theorem dX3_putSixHead_0 : decode cX3_putSixHead 0 = .ok (.aload_n 0, 1) := by decide +kernel
theorem dX3_putSixHead_1 : decode cX3_putSixHead 1 = .ok (.iload_n 1, 1) := by decide +kernel
theorem dX3_putSixHead_2 : decode cX3_putSixHead 2 = .ok (.sipush 24576, 3) := by decide +kernel
theorem dX3_putSixHead_5 : decode cX3_putSixHead 5 = .ok (.iload_n 2, 1) := by decide +kernel
theorem dX3_putSixHead_6 : decode cX3_putSixHead 6 = .ok (.iconst 4, 1) := by decide +kernel
theorem dX3_putSixHead_7 : decode cX3_putSixHead 7 = .ok (.ishl, 1) := by decide +kernel
theorem dX3_putSixHead_8 : decode cX3_putSixHead 8 = .ok (.ior, 1) := by decide +kernel
theorem dX3_putSixHead_9 : decode cX3_putSixHead 9 = .ok (.invokevirtual 33, 3) := by decide +kernel
theorem dX3_putSixHead_12 : decode cX3_putSixHead 12 = .ok (.aload_n 0, 1) := by decide +kernel
theorem dX3_putSixHead_13 : decode cX3_putSixHead 13 = .ok (.iload_n 1, 1) := by decide +kernel
theorem dX3_putSixHead_14 : decode cX3_putSixHead 14 = .ok (.iconst 2, 1) := by decide +kernel
theorem dX3_putSixHead_15 : decode cX3_putSixHead 15 = .ok (.iadd, 1) := by decide +kernel
theorem dX3_putSixHead_16 : decode cX3_putSixHead 16 = .ok (.iconst 0, 1) := by decide +kernel
theorem dX3_putSixHead_17 : decode cX3_putSixHead 17 = .ok (.invokevirtual 33, 3) := by decide +kernel
theorem dX3_putSixHead_20 : decode cX3_putSixHead 20 = .ok (.aload_n 0, 1) := by decide +kernel
theorem dX3_putSixHead_21 : decode cX3_putSixHead 21 = .ok (.iload_n 1, 1) := by decide +kernel
theorem dX3_putSixHead_22 : decode cX3_putSixHead 22 = .ok (.iconst 4, 1) := by decide +kernel
theorem dX3_putSixHead_23 : decode cX3_putSixHead 23 = .ok (.iadd, 1) := by decide +kernel
theorem dX3_putSixHead_24 : decode cX3_putSixHead 24 = .ok (.iload_n 3, 1) := by decide +kernel
theorem dX3_putSixHead_25 : decode cX3_putSixHead 25 = .ok (.invokevirtual 33, 3) := by decide +kernel
theorem dX3_putSixHead_28 : decode cX3_putSixHead 28 = .ok (.aload_n 0, 1) := by decide +kernel
theorem dX3_putSixHead_29 : decode cX3_putSixHead 29 = .ok (.iload_n 1, 1) := by decide +kernel
theorem dX3_putSixHead_30 : decode cX3_putSixHead 30 = .ok (.bipush 6, 2) := by decide +kernel
theorem dX3_putSixHead_32 : decode cX3_putSixHead 32 = .ok (.iadd, 1) := by decide +kernel
theorem dX3_putSixHead_33 : decode cX3_putSixHead 33 = .ok (.iload 4, 2) := by decide +kernel
theorem dX3_putSixHead_35 : decode cX3_putSixHead 35 = .ok (.iconst 1, 1) := by decide +kernel
theorem dX3_putSixHead_36 : decode cX3_putSixHead 36 = .ok (.if_icmp .ne 8, 3) := by decide +kernel
theorem dX3_putSixHead_39 : decode cX3_putSixHead 39 = .ok (.bipush 58, 2) := by decide +kernel
theorem dX3_putSixHead_41 : decode cX3_putSixHead 41 = .ok (.goto 5, 3) := by decide +kernel
theorem dX3_putSixHead_44 : decode cX3_putSixHead 44 = .ok (.iload 4, 2) := by decide +kernel
theorem dX3_putSixHead_46 : decode cX3_putSixHead 46 = .ok (.invokevirtual 25, 3) := by decide +kernel
theorem dX3_putSixHead_49 : decode cX3_putSixHead 49 = .ok (.aload_n 0, 1) := by decide +kernel
theorem dX3_putSixHead_50 : decode cX3_putSixHead 50 = .ok (.iload_n 1, 1) := by decide +kernel
theorem dX3_putSixHead_51 : decode cX3_putSixHead 51 = .ok (.bipush 7, 2) := by decide +kernel
theorem dX3_putSixHead_53 : decode cX3_putSixHead 53 = .ok (.iadd, 1) := by decide +kernel
theorem dX3_putSixHead_54 : decode cX3_putSixHead 54 = .ok (.iload 5, 2) := by decide +kernel
theorem dX3_putSixHead_56 : decode cX3_putSixHead 56 = .ok (.invokevirtual 25, 3) := by decide +kernel
theorem dX3_putSixHead_59 : decode cX3_putSixHead 59 = .ok (.return_, 1) := by decide +kernel
theorem yv_X3_putSixHead : YS yX3_putSixHead cX3_putSixHead 6 none 6 := ⟨kw3_204, kw1_22, kw3_205, by decide +kernel⟩
set_option maxHeartbeats 4000000 in
set_option maxRecDepth 100000 in
theorem c_X3_putSixHead {l : Launch} {D : va_G} {cy : Nat → ClassId} {ws : va_W} {kb ka b ar N n : Nat} {f : Nat → UInt8} (hb0 : ws[kb]? = some (b, .inr (2, [.ref ar, .int (nI n)]))) (ha0 : ws[ka]? = some (ar, .inl (cy 0, N, .inl (bt f)))) (hnN : n ≤ N) (hN : N ≤ 1700) {a tr pl q hp : Nat} (ha : a + 8 ≤ n) (htr : tr < 256) (hpl : pl < 2 ^ 32) (hq : q < 256) (hhp : hp < 256) : WR (S := (Nat → UInt8)) l yX3_putSixHead cX3_putSixHead 6 none 2 0 0 48 [.ref b, .int (nI a), .int (nI tr), .int (nI pl), .int (nI q), .int (nI hp)] D cy ws (fun _ => none) (fun g => g = tg_six f a tr pl q hp) (fun g => wB ws kb ka b ar N cy g n) := by
  refine WRv (by decide) (lv0 := [(0, .ref b), (1, .int (nI a)), (2, .int (nI tr)), (3, .int (nI pl)), (4, .int (nI q)), (5, .int (nI hp))]) rfl (Nat.le_of_ble_eq_true rfl) ?_
  intro p e s m args below meth c ls A Q S hnm hP hK hD hS hA hend hl
  have hx := S.1
  have hb := S.2.1
  have hown : s.vm.findClass RX3 = some m.cls := S.2.2.2.1
  have ht : ∀ w ∈ lw_g, w.before args s = true := fun w h => S.2.2.2.2 w (List.mem_cons_of_mem _ h)
  have hne : kb ≠ ka := lst_ne hb0 ha0 (fun z => by cases z)
  have hP : va_P D vwCl (wB ws kb ka b ar N cy f n) s.heap := by rw [wB_self hb0 ha0]; exact hP
  have hD : va_D A (wB ws kb ka b ar N cy f n) := by rw [wB_self hb0 ha0]; exact hD
  refine lv_aload_n hx hb dX3_putSixHead_0 rfl (lv_at hl 0 rfl) ?_
  refine lv_iload_n hx hb dX3_putSixHead_1 rfl (lv_at hl 1 rfl) ?_
  refine nv_sipush (k := 24576) hx hb dX3_putSixHead_2 (by decide) ?_
  refine lv_iload_n hx hb dX3_putSixHead_5 rfl (lv_at hl 2 rfl) ?_
  refine nv_iconst (k := 4) hx hb dX3_putSixHead_6 rfl ?_
  refine nv_ishl hx hb (by omega) dX3_putSixHead_7 ?_
  refine nv_iorc (k := 13) (q := 3) hx hb (by decide) (by omega) dX3_putSixHead_8 ?_
  refine wr_V S (c_X1_putPair (wB_b hne hb0) (wB_a ha0) (by omega) hN (a := a) (x := 24576 + (tr) * 2 ^ 4) (by omega) (by omega)) kw3_126 yv_X1_putPair ⟨Nat.le_of_ble_eq_true rfl, Nat.le_of_ble_eq_true rfl⟩ hK hP hD hS hA (va_recv hK hP (ci := 2) (q0 := kb) rfl (wB_b hne hb0)) rfl hl.1 rfl (Nat.le_of_ble_eq_true rfl) dX3_putSixHead_9 ⟨Nat.zero_le _, Nat.zero_le _⟩ (fun g_1 H locs hg_1 hP hD hS => ?_)
  rw [wB_wB hne] at hP hD
  refine W.eq (g2 := F0 m 12 ls []) rfl ?_
  refine lv_aload_n hx hb dX3_putSixHead_12 rfl (lv_at hl 0 rfl) ?_
  refine lv_iload_n hx hb dX3_putSixHead_13 rfl (lv_at hl 1 rfl) ?_
  refine nv_iconst (k := 2) hx hb dX3_putSixHead_14 rfl ?_
  refine nv_iadd hx hb dX3_putSixHead_15 ?_
  refine nv_iconst (k := 0) hx hb dX3_putSixHead_16 rfl ?_
  refine wr_V S (c_X1_putPair (wB_b hne hb0) (wB_a ha0) (by omega) hN (a := a + 2) (x := 0) (by omega) (by omega)) kw3_126 yv_X1_putPair ⟨Nat.le_of_ble_eq_true rfl, Nat.le_of_ble_eq_true rfl⟩ hK hP hD hS hA (va_recv hK hP (ci := 2) (q0 := kb) rfl (wB_b hne hb0)) rfl hl.1 rfl (Nat.le_of_ble_eq_true rfl) dX3_putSixHead_17 ⟨Nat.zero_le _, Nat.zero_le _⟩ (fun g_2 H locs hg_2 hP hD hS => ?_)
  rw [wB_wB hne] at hP hD
  refine W.eq (g2 := F0 m 20 ls []) rfl ?_
  refine lv_aload_n hx hb dX3_putSixHead_20 rfl (lv_at hl 0 rfl) ?_
  refine lv_iload_n hx hb dX3_putSixHead_21 rfl (lv_at hl 1 rfl) ?_
  refine nv_iconst (k := 4) hx hb dX3_putSixHead_22 rfl ?_
  refine nv_iadd hx hb dX3_putSixHead_23 ?_
  refine lv_iload_n hx hb dX3_putSixHead_24 rfl (lv_at hl 3 rfl) ?_
  refine wr_V S (c_X1_putPair (wB_b hne hb0) (wB_a ha0) (by omega) hN (a := a + 4) (x := pl) (by omega) (by omega)) kw3_126 yv_X1_putPair ⟨Nat.le_of_ble_eq_true rfl, Nat.le_of_ble_eq_true rfl⟩ hK hP hD hS hA (va_recv hK hP (ci := 2) (q0 := kb) rfl (wB_b hne hb0)) rfl hl.1 rfl (Nat.le_of_ble_eq_true rfl) dX3_putSixHead_25 ⟨Nat.zero_le _, Nat.zero_le _⟩ (fun g_3 H locs hg_3 hP hD hS => ?_)
  rw [wB_wB hne] at hP hD
  refine W.eq (g2 := F0 m 28 ls []) rfl ?_
  refine lv_aload_n hx hb dX3_putSixHead_28 rfl (lv_at hl 0 rfl) ?_
  refine lv_iload_n hx hb dX3_putSixHead_29 rfl (lv_at hl 1 rfl) ?_
  refine nv_bipush (k := 6) hx hb dX3_putSixHead_30 (by decide) ?_
  refine nv_iadd hx hb dX3_putSixHead_32 ?_
  refine lv_iload hx hb dX3_putSixHead_33 (lv_at hl 4 rfl) ?_
  refine nv_iconst (k := 1) hx hb dX3_putSixHead_35 rfl ?_
  have J46 : ∀ v46 : Nat, v46 = tg_nx q → ∀ ls : Array Slot, lv_has ls 6 [(0, .ref b), (1, .int (nI a)), (2, .int (nI tr)), (3, .int (nI pl)), (4, .int (nI q)), (5, .int (nI hp))] → W p l e (rmw 2 0 0 48) s m args below meth c H locs 0 0 Q (F0 m 46 ls [.int (nI v46), .int (nI (a + 6)), .ref b]) := by
    intro v46 hv46 ls hl
    have hvb : v46 < 256 := by rw [hv46]; simp only [tg_nx]; split <;> omega
    refine wr_V S (c_X1_put (wB_b hne hb0) (wB_a ha0) (by omega) hN (k := a + 6) (x := nI (v46)) (by omega)) kw3_121 yv_X1_put ⟨Nat.le_of_ble_eq_true rfl, Nat.le_of_ble_eq_true rfl⟩ hK hP hD hS hA (va_recv hK hP (ci := 2) (q0 := kb) rfl (wB_b hne hb0)) rfl hl.1 rfl (Nat.le_of_ble_eq_true rfl) dX3_putSixHead_46 ⟨Nat.zero_le _, Nat.zero_le _⟩ (fun g_4 H locs hg_4 hP hD hS => ?_)
    rw [wB_wB hne] at hP hD
    rw [by8_nI] at hg_4
    refine W.eq (g2 := F0 m 49 ls []) rfl ?_
    refine lv_aload_n hx hb dX3_putSixHead_49 rfl (lv_at hl 0 rfl) ?_
    refine lv_iload_n hx hb dX3_putSixHead_50 rfl (lv_at hl 1 rfl) ?_
    refine nv_bipush (k := 7) hx hb dX3_putSixHead_51 (by decide) ?_
    refine nv_iadd hx hb dX3_putSixHead_53 ?_
    refine lv_iload hx hb dX3_putSixHead_54 (lv_at hl 5 rfl) ?_
    refine wr_V S (c_X1_put (wB_b hne hb0) (wB_a ha0) (by omega) hN (k := a + 7) (x := nI (hp)) (by omega)) kw3_121 yv_X1_put ⟨Nat.le_of_ble_eq_true rfl, Nat.le_of_ble_eq_true rfl⟩ hK hP hD hS hA (va_recv hK hP (ci := 2) (q0 := kb) rfl (wB_b hne hb0)) rfl hl.1 rfl (Nat.le_of_ble_eq_true rfl) dX3_putSixHead_56 ⟨Nat.zero_le _, Nat.zero_le _⟩ (fun g_5 H locs hg_5 hP hD hS => ?_)
    rw [wB_wB hne] at hP hD
    rw [by8_nI] at hg_5
    refine W.eq (g2 := F0 m 59 ls []) rfl ?_
    exact hend _ (by rw [hg_5, hg_4, hg_3, hg_2, hg_1, hv46] <;> rfl) hP hD hS dX3_putSixHead_59
  refine nv_icmp_ne (tgt := 44) hx hb dX3_putSixHead_36 (by decide) (by omega) (by omega) (fun h36 => ?_) (fun h36 => ?_)
  · skip
    refine lv_iload hx hb dX3_putSixHead_44 (lv_at hl 4 rfl) ?_
    exact J46 (q) (by simp only [tg_nx]; split <;> omega) ls (lv_sub hl [0, 1, 2, 3, 4, 5] rfl)
  refine nv_bipush (k := 58) hx hb dX3_putSixHead_39 (by decide) ?_
  refine lv_goto (tgt := 46) hx hb dX3_putSixHead_41 (by decide) ?_
  exact J46 (58) (by simp only [tg_nx]; split <;> omega) ls (lv_sub hl [0, 1, 2, 3, 4, 5] rfl)
theorem dX3_putEmbedded_0 : decode cX3_putEmbedded 0 = .ok (.aload_n 0, 1) := by decide +kernel
theorem dX3_putEmbedded_1 : decode cX3_putEmbedded 1 = .ok (.iload_n 1, 1) := by decide +kernel
theorem dX3_putEmbedded_2 : decode cX3_putEmbedded 2 = .ok (.aload_n 3, 1) := by decide +kernel
theorem dX3_putEmbedded_3 : decode cX3_putEmbedded 3 = .ok (.iload_n 2, 1) := by decide +kernel
theorem dX3_putEmbedded_4 : decode cX3_putEmbedded 4 = .ok (.invokevirtual 103, 3) := by decide +kernel
theorem dX3_putEmbedded_7 : decode cX3_putEmbedded 7 = .ok (.invokevirtual 109, 3) := by decide +kernel
theorem dX3_putEmbedded_10 : decode cX3_putEmbedded 10 = .ok (.aload_n 0, 1) := by decide +kernel
theorem dX3_putEmbedded_11 : decode cX3_putEmbedded 11 = .ok (.iload_n 1, 1) := by decide +kernel
theorem dX3_putEmbedded_12 : decode cX3_putEmbedded 12 = .ok (.bipush 8, 2) := by decide +kernel
theorem dX3_putEmbedded_14 : decode cX3_putEmbedded 14 = .ok (.iadd, 1) := by decide +kernel
theorem dX3_putEmbedded_15 : decode cX3_putEmbedded 15 = .ok (.aload_n 3, 1) := by decide +kernel
theorem dX3_putEmbedded_16 : decode cX3_putEmbedded 16 = .ok (.iload_n 2, 1) := by decide +kernel
theorem dX3_putEmbedded_17 : decode cX3_putEmbedded 17 = .ok (.invokevirtual 113, 3) := by decide +kernel
theorem dX3_putEmbedded_20 : decode cX3_putEmbedded 20 = .ok (.invokevirtual 109, 3) := by decide +kernel
theorem dX3_putEmbedded_23 : decode cX3_putEmbedded 23 = .ok (.return_, 1) := by decide +kernel
theorem yv_X3_putEmbedded : YS yX3_putEmbedded cX3_putEmbedded 4 none 4 := ⟨kw3_208, kw1_22, kw3_209, by decide +kernel⟩
set_option maxHeartbeats 4000000 in
set_option maxRecDepth 100000 in
theorem c_X3_putEmbedded {l : Launch} {D : va_G} {cy : Nat → ClassId} {ws : va_W} {kb ka b ar N n : Nat} {f : Nat → UInt8} (hb0 : ws[kb]? = some (b, .inr (2, [.ref ar, .int (nI n)]))) (ha0 : ws[ka]? = some (ar, .inl (cy 0, N, .inl (bt f)))) (hnN : n ≤ N) (hN : N ≤ 1700) {ks st bits F G : Nat} (hs0 : ws[ks]? = some (st, .inr (6, [.long (lN F), .long (lN G), .int (nI bits), .int (nI (bits - 32))]))) (hsi : SI bits F G) (ds1 : kb ≠ ks) (ds2 : ka ≠ ks) {a x : Nat} (ha : a + 16 ≤ n) (hx0 : x < 2 ^ 32) : WR (S := (Nat → UInt8)) l yX3_putEmbedded cX3_putEmbedded 4 none 2 0 0 49 [.ref b, .int (nI a), .int (nI x), .ref st] D cy ws (fun _ => none) (fun g => g = tg_emb f a x bits F G) (fun g => wB ws kb ka b ar N cy g n) := by
  refine WRv (by decide) (lv0 := [(0, .ref b), (1, .int (nI a)), (2, .int (nI x)), (3, .ref st)]) rfl (Nat.le_of_ble_eq_true rfl) ?_
  intro p e s m args below meth c ls A Q S hnm hP hK hD hS hA hend hl
  have hx := S.1
  have hb := S.2.1
  have hown : s.vm.findClass RX3 = some m.cls := S.2.2.2.1
  have ht : ∀ w ∈ lw_g, w.before args s = true := fun w h => S.2.2.2.2 w (List.mem_cons_of_mem _ h)
  have hne : kb ≠ ka := lst_ne hb0 ha0 (fun z => by cases z)
  have hP : va_P D vwCl (wB ws kb ka b ar N cy f n) s.heap := by rw [wB_self hb0 ha0]; exact hP
  have hD : va_D A (wB ws kb ka b ar N cy f n) := by rw [wB_self hb0 ha0]; exact hD
  refine lv_aload_n hx hb dX3_putEmbedded_0 rfl (lv_at hl 0 rfl) ?_
  refine lv_iload_n hx hb dX3_putEmbedded_1 rfl (lv_at hl 1 rfl) ?_
  refine lv_aload_n hx hb dX3_putEmbedded_2 rfl (lv_at hl 3 rfl) ?_
  refine lv_iload_n hx hb dX3_putEmbedded_3 rfl (lv_at hl 2 rfl) ?_
  refine ro_V S (c_X8_embedHigh (STP_of (wB_o ds1 ds2 hs0) hsi) (x := x) (by omega)) kw3_210 yv_X8_embedHigh ⟨Nat.le_of_ble_eq_true rfl, Nat.le_of_ble_eq_true rfl⟩ hK hP (va_recv hK hP (ci := 6) (q0 := ks) rfl (wB_o ds1 ds2 hs0)) rfl hl.1 rfl (Nat.le_of_ble_eq_true rfl) dX3_putEmbedded_4 ⟨Nat.zero_le _, Nat.zero_le _⟩ ?_
  have hq4 := tg_eh_lt hsi (x := x) (by omega)
  refine wr_V S (c_X1_putEight (wB_b hne hb0) (wB_a ha0) (by omega) hN (a := a) (x := tg_eh bits F (x)) (by omega) (by omega)) kw3_211 yv_X1_putEight ⟨Nat.le_of_ble_eq_true rfl, Nat.le_of_ble_eq_true rfl⟩ hK hP hD hS hA (va_recv hK hP (ci := 2) (q0 := kb) rfl (wB_b hne hb0)) rfl hl.1 rfl (Nat.le_of_ble_eq_true rfl) dX3_putEmbedded_7 ⟨Nat.zero_le _, Nat.zero_le _⟩ (fun g_1 H locs hg_1 hP hD hS => ?_)
  rw [wB_wB hne] at hP hD
  refine W.eq (g2 := F0 m 10 ls []) rfl ?_
  refine lv_aload_n hx hb dX3_putEmbedded_10 rfl (lv_at hl 0 rfl) ?_
  refine lv_iload_n hx hb dX3_putEmbedded_11 rfl (lv_at hl 1 rfl) ?_
  refine nv_bipush (k := 8) hx hb dX3_putEmbedded_12 (by decide) ?_
  refine nv_iadd hx hb dX3_putEmbedded_14 ?_
  refine lv_aload_n hx hb dX3_putEmbedded_15 rfl (lv_at hl 3 rfl) ?_
  refine lv_iload_n hx hb dX3_putEmbedded_16 rfl (lv_at hl 2 rfl) ?_
  refine ro_V S (c_X8_embedLow (STP_of (wB_o ds1 ds2 hs0) hsi) (x := x) (by omega)) kw3_215 yv_X8_embedLow ⟨Nat.le_of_ble_eq_true rfl, Nat.le_of_ble_eq_true rfl⟩ hK hP (va_recv hK hP (ci := 6) (q0 := ks) rfl (wB_o ds1 ds2 hs0)) rfl hl.1 rfl (Nat.le_of_ble_eq_true rfl) dX3_putEmbedded_17 ⟨Nat.zero_le _, Nat.zero_le _⟩ ?_
  have hq17 := tg_el_lt hsi (x := x) (by omega)
  refine wr_V S (c_X1_putEight (wB_b hne hb0) (wB_a ha0) (by omega) hN (a := a + 8) (x := tg_el bits G (x)) (by omega) (by omega)) kw3_211 yv_X1_putEight ⟨Nat.le_of_ble_eq_true rfl, Nat.le_of_ble_eq_true rfl⟩ hK hP hD hS hA (va_recv hK hP (ci := 2) (q0 := kb) rfl (wB_b hne hb0)) rfl hl.1 rfl (Nat.le_of_ble_eq_true rfl) dX3_putEmbedded_20 ⟨Nat.zero_le _, Nat.zero_le _⟩ (fun g_2 H locs hg_2 hP hD hS => ?_)
  rw [wB_wB hne] at hP hD
  refine W.eq (g2 := F0 m 23 ls []) rfl ?_
  exact hend _ (by rw [hg_2, hg_1] <;> rfl) hP hD hS dX3_putEmbedded_23
theorem dX3_putInner_0 : decode cX3_putInner 0 = .ok (.aload_n 0, 1) := by decide +kernel
theorem dX3_putInner_1 : decode cX3_putInner 1 = .ok (.iload_n 1, 1) := by decide +kernel
theorem dX3_putInner_2 : decode cX3_putInner 2 = .ok (.aload_n 2, 1) := by decide +kernel
theorem dX3_putInner_3 : decode cX3_putInner 3 = .ok (.getfield 116, 3) := by decide +kernel
theorem dX3_putInner_6 : decode cX3_putInner 6 = .ok (.invokevirtual 109, 3) := by decide +kernel
theorem dX3_putInner_9 : decode cX3_putInner 9 = .ok (.aload_n 0, 1) := by decide +kernel
theorem dX3_putInner_10 : decode cX3_putInner 10 = .ok (.iload_n 1, 1) := by decide +kernel
theorem dX3_putInner_11 : decode cX3_putInner 11 = .ok (.bipush 8, 2) := by decide +kernel
theorem dX3_putInner_13 : decode cX3_putInner 13 = .ok (.iadd, 1) := by decide +kernel
theorem dX3_putInner_14 : decode cX3_putInner 14 = .ok (.aload_n 2, 1) := by decide +kernel
theorem dX3_putInner_15 : decode cX3_putInner 15 = .ok (.getfield 120, 3) := by decide +kernel
theorem dX3_putInner_18 : decode cX3_putInner 18 = .ok (.invokevirtual 109, 3) := by decide +kernel
theorem dX3_putInner_21 : decode cX3_putInner 21 = .ok (.return_, 1) := by decide +kernel
theorem yv_X3_putInner : YS yX3_putInner cX3_putInner 3 none 3 := ⟨kw3_217, kw1_22, kw3_218, by decide +kernel⟩
set_option maxHeartbeats 4000000 in
set_option maxRecDepth 100000 in
theorem c_X3_putInner {l : Launch} {D : va_G} {cy : Nat → ClassId} {ws : va_W} {kb ka b ar N n : Nat} {f : Nat → UInt8} (hb0 : ws[kb]? = some (b, .inr (2, [.ref ar, .int (nI n)]))) (ha0 : ws[ka]? = some (ar, .inl (cy 0, N, .inl (bt f)))) (hnN : n ≤ N) (hN : N ≤ 1700) {kw ow pt ih il ip pn op : Nat} (hw0 : ws[kw]? = some (ow, .inr (1, [.int (nI pt), .long (lN ih), .long (lN il), .int (nI ip), .int (nI pn), .int (nI op)]))) (hpt : pt = 1 ∨ pt = 6 ∨ pt = 17) (hih : ih < 2 ^ 64) (hil : il < 2 ^ 64) (hip : ip < 65536) (hop : op < 2 ^ 31) (dw1 : kb ≠ kw) (dw2 : ka ≠ kw) {a : Nat} (ha : a + 16 ≤ n) : WR (S := (Nat → UInt8)) l yX3_putInner cX3_putInner 3 none 2 0 0 49 [.ref b, .int (nI a), .ref ow] D cy ws (fun _ => none) (fun g => g = tg_inn f a ih il) (fun g => wB ws kb ka b ar N cy g n) := by
  refine WRv (by decide) (lv0 := [(0, .ref b), (1, .int (nI a)), (2, .ref ow)]) rfl (Nat.le_of_ble_eq_true rfl) ?_
  intro p e s m args below meth c ls A Q S hnm hP hK hD hS hA hend hl
  have hx := S.1
  have hb := S.2.1
  have hown : s.vm.findClass RX3 = some m.cls := S.2.2.2.1
  have ht : ∀ w ∈ lw_g, w.before args s = true := fun w h => S.2.2.2.2 w (List.mem_cons_of_mem _ h)
  have hne : kb ≠ ka := lst_ne hb0 ha0 (fun z => by cases z)
  have hP : va_P D vwCl (wB ws kb ka b ar N cy f n) s.heap := by rw [wB_self hb0 ha0]; exact hP
  have hD : va_D A (wB ws kb ka b ar N cy f n) := by rw [wB_self hb0 ha0]; exact hD
  refine lv_aload_n hx hb dX3_putInner_0 rfl (lv_at hl 0 rfl) ?_
  refine lv_iload_n hx hb dX3_putInner_1 rfl (lv_at hl 1 rfl) ?_
  refine lv_aload_n hx hb dX3_putInner_2 rfl (lv_at hl 2 rfl) ?_
  refine va_get (ci := 1) (C := RX0) (T := TX0) (N := 6) hx hb ht iFX0 hown hK hP kw (wB_o dw1 dw2 hw0) rfl 1 (by decide) (ht _ kw2_238) (fun _ h9 => h9) rfl dX3_putInner_3 ?_
  refine wr_V S (c_X1_putEight (wB_b hne hb0) (wB_a ha0) (by omega) hN (a := a) (x := ih) (by omega) (by omega)) kw3_211 yv_X1_putEight ⟨Nat.le_of_ble_eq_true rfl, Nat.le_of_ble_eq_true rfl⟩ hK hP hD hS hA (va_recv hK hP (ci := 2) (q0 := kb) rfl (wB_b hne hb0)) rfl hl.1 rfl (Nat.le_of_ble_eq_true rfl) dX3_putInner_6 ⟨Nat.zero_le _, Nat.zero_le _⟩ (fun g_1 H locs hg_1 hP hD hS => ?_)
  rw [wB_wB hne] at hP hD
  refine W.eq (g2 := F0 m 9 ls []) rfl ?_
  refine lv_aload_n hx hb dX3_putInner_9 rfl (lv_at hl 0 rfl) ?_
  refine lv_iload_n hx hb dX3_putInner_10 rfl (lv_at hl 1 rfl) ?_
  refine nv_bipush (k := 8) hx hb dX3_putInner_11 (by decide) ?_
  refine nv_iadd hx hb dX3_putInner_13 ?_
  refine lv_aload_n hx hb dX3_putInner_14 rfl (lv_at hl 2 rfl) ?_
  refine va_get (ci := 1) (C := RX0) (T := TX0) (N := 6) hx hb ht iFX0 hown hK hP kw (wB_o dw1 dw2 hw0) rfl 2 (by decide) (ht _ kw3_1) (fun _ h9 => h9) rfl dX3_putInner_15 ?_
  refine wr_V S (c_X1_putEight (wB_b hne hb0) (wB_a ha0) (by omega) hN (a := a + 8) (x := il) (by omega) (by omega)) kw3_211 yv_X1_putEight ⟨Nat.le_of_ble_eq_true rfl, Nat.le_of_ble_eq_true rfl⟩ hK hP hD hS hA (va_recv hK hP (ci := 2) (q0 := kb) rfl (wB_b hne hb0)) rfl hl.1 rfl (Nat.le_of_ble_eq_true rfl) dX3_putInner_18 ⟨Nat.zero_le _, Nat.zero_le _⟩ (fun g_2 H locs hg_2 hP hD hS => ?_)
  rw [wB_wB hne] at hP hD
  refine W.eq (g2 := F0 m 21 ls []) rfl ?_
  exact hend _ (by rw [hg_2, hg_1] <;> rfl) hP hD hS dX3_putInner_21
theorem dX3_unreachableCode_0 : decode cX3_unreachableCode 0 = .ok (.iload_n 0, 1) := by decide +kernel
theorem dX3_unreachableCode_1 : decode cX3_unreachableCode 1 = .ok (.tableswitch 71 3 15 #[67, 71, 71, 71, 71, 71, 69, 69, 71, 71, 69, 71, 69], 67) := by decide +kernel
theorem dX3_unreachableCode_68 : decode cX3_unreachableCode 68 = .ok (.iconst 4, 1) := by decide +kernel
theorem dX3_unreachableCode_69 : decode cX3_unreachableCode 69 = .ok (.ireturn, 1) := by decide +kernel
theorem dX3_unreachableCode_70 : decode cX3_unreachableCode 70 = .ok (.iconst 1, 1) := by decide +kernel
theorem dX3_unreachableCode_71 : decode cX3_unreachableCode 71 = .ok (.ireturn, 1) := by decide +kernel
theorem dX3_unreachableCode_72 : decode cX3_unreachableCode 72 = .ok (.iconst 0, 1) := by decide +kernel
theorem dX3_unreachableCode_73 : decode cX3_unreachableCode 73 = .ok (.ireturn, 1) := by decide +kernel
theorem yv_X3_unreachableCode : YS yX3_unreachableCode cX3_unreachableCode 1 (some .int) 1 := ⟨kw3_224, kw1_22, kw3_225, by decide +kernel⟩
set_option maxHeartbeats 4000000 in
set_option maxRecDepth 100000 in
theorem c_X3_unreachableCode {l : Launch} {D : va_G} {cy : Nat → ClassId} {ws : va_W} {x : Nat} (hx0 : x < 256) : RO l yX3_unreachableCode cX3_unreachableCode 1 (some .int) 0 0 [.int (nI x)] D cy ws (.int (nI (tg_unr x))) := by
  refine ROi (by decide) (lv0 := [(0, .int (nI x))]) rfl (Nat.le_of_ble_eq_true rfl) ?_
  intro p e s m args below meth c ls Q S hP hK hend hl
  have hx := S.1
  have hb := S.2.1
  have hown : s.vm.findClass RX3 = some m.cls := S.2.2.2.1
  have ht : ∀ w ∈ lw_g, w.before args s = true := fun w h => S.2.2.2.2 w (List.mem_cons_of_mem _ h)
  refine lv_iload_n hx hb dX3_unreachableCode_0 rfl (lv_at hl 0 rfl) ?_
  by_cases hs1_0 : x = 3
  · refine lv_tableIn (off := 67) (tgt := 68) hx hb dX3_unreachableCode_1 (by rw [hs1_0]; decide) (by rw [hs1_0]; decide) (by rw [hs1_0]; decide) (by decide) ?_
    refine nv_iconst (k := 4) hx hb dX3_unreachableCode_68 rfl ?_
    exact hend ((congrArg nI (by simp only [tg_unr]; (repeat' split) <;> omega))) dX3_unreachableCode_69
  by_cases hs1_1 : x = 4
  · refine lv_tableIn (off := 71) (tgt := 72) hx hb dX3_unreachableCode_1 (by rw [hs1_1]; decide) (by rw [hs1_1]; decide) (by rw [hs1_1]; decide) (by decide) ?_
    refine nv_iconst (k := 0) hx hb dX3_unreachableCode_72 rfl ?_
    exact hend ((congrArg nI (by simp only [tg_unr]; (repeat' split) <;> omega))) dX3_unreachableCode_73
  by_cases hs1_2 : x = 5
  · refine lv_tableIn (off := 71) (tgt := 72) hx hb dX3_unreachableCode_1 (by rw [hs1_2]; decide) (by rw [hs1_2]; decide) (by rw [hs1_2]; decide) (by decide) ?_
    refine nv_iconst (k := 0) hx hb dX3_unreachableCode_72 rfl ?_
    exact hend ((congrArg nI (by simp only [tg_unr]; (repeat' split) <;> omega))) dX3_unreachableCode_73
  by_cases hs1_3 : x = 6
  · refine lv_tableIn (off := 71) (tgt := 72) hx hb dX3_unreachableCode_1 (by rw [hs1_3]; decide) (by rw [hs1_3]; decide) (by rw [hs1_3]; decide) (by decide) ?_
    refine nv_iconst (k := 0) hx hb dX3_unreachableCode_72 rfl ?_
    exact hend ((congrArg nI (by simp only [tg_unr]; (repeat' split) <;> omega))) dX3_unreachableCode_73
  by_cases hs1_4 : x = 7
  · refine lv_tableIn (off := 71) (tgt := 72) hx hb dX3_unreachableCode_1 (by rw [hs1_4]; decide) (by rw [hs1_4]; decide) (by rw [hs1_4]; decide) (by decide) ?_
    refine nv_iconst (k := 0) hx hb dX3_unreachableCode_72 rfl ?_
    exact hend ((congrArg nI (by simp only [tg_unr]; (repeat' split) <;> omega))) dX3_unreachableCode_73
  by_cases hs1_5 : x = 8
  · refine lv_tableIn (off := 71) (tgt := 72) hx hb dX3_unreachableCode_1 (by rw [hs1_5]; decide) (by rw [hs1_5]; decide) (by rw [hs1_5]; decide) (by decide) ?_
    refine nv_iconst (k := 0) hx hb dX3_unreachableCode_72 rfl ?_
    exact hend ((congrArg nI (by simp only [tg_unr]; (repeat' split) <;> omega))) dX3_unreachableCode_73
  by_cases hs1_6 : x = 9
  · refine lv_tableIn (off := 69) (tgt := 70) hx hb dX3_unreachableCode_1 (by rw [hs1_6]; decide) (by rw [hs1_6]; decide) (by rw [hs1_6]; decide) (by decide) ?_
    refine nv_iconst (k := 1) hx hb dX3_unreachableCode_70 rfl ?_
    exact hend ((congrArg nI (by simp only [tg_unr]; (repeat' split) <;> omega))) dX3_unreachableCode_71
  by_cases hs1_7 : x = 10
  · refine lv_tableIn (off := 69) (tgt := 70) hx hb dX3_unreachableCode_1 (by rw [hs1_7]; decide) (by rw [hs1_7]; decide) (by rw [hs1_7]; decide) (by decide) ?_
    refine nv_iconst (k := 1) hx hb dX3_unreachableCode_70 rfl ?_
    exact hend ((congrArg nI (by simp only [tg_unr]; (repeat' split) <;> omega))) dX3_unreachableCode_71
  by_cases hs1_8 : x = 11
  · refine lv_tableIn (off := 71) (tgt := 72) hx hb dX3_unreachableCode_1 (by rw [hs1_8]; decide) (by rw [hs1_8]; decide) (by rw [hs1_8]; decide) (by decide) ?_
    refine nv_iconst (k := 0) hx hb dX3_unreachableCode_72 rfl ?_
    exact hend ((congrArg nI (by simp only [tg_unr]; (repeat' split) <;> omega))) dX3_unreachableCode_73
  by_cases hs1_9 : x = 12
  · refine lv_tableIn (off := 71) (tgt := 72) hx hb dX3_unreachableCode_1 (by rw [hs1_9]; decide) (by rw [hs1_9]; decide) (by rw [hs1_9]; decide) (by decide) ?_
    refine nv_iconst (k := 0) hx hb dX3_unreachableCode_72 rfl ?_
    exact hend ((congrArg nI (by simp only [tg_unr]; (repeat' split) <;> omega))) dX3_unreachableCode_73
  by_cases hs1_10 : x = 13
  · refine lv_tableIn (off := 69) (tgt := 70) hx hb dX3_unreachableCode_1 (by rw [hs1_10]; decide) (by rw [hs1_10]; decide) (by rw [hs1_10]; decide) (by decide) ?_
    refine nv_iconst (k := 1) hx hb dX3_unreachableCode_70 rfl ?_
    exact hend ((congrArg nI (by simp only [tg_unr]; (repeat' split) <;> omega))) dX3_unreachableCode_71
  by_cases hs1_11 : x = 14
  · refine lv_tableIn (off := 71) (tgt := 72) hx hb dX3_unreachableCode_1 (by rw [hs1_11]; decide) (by rw [hs1_11]; decide) (by rw [hs1_11]; decide) (by decide) ?_
    refine nv_iconst (k := 0) hx hb dX3_unreachableCode_72 rfl ?_
    exact hend ((congrArg nI (by simp only [tg_unr]; (repeat' split) <;> omega))) dX3_unreachableCode_73
  by_cases hs1_12 : x = 15
  · refine lv_tableIn (off := 69) (tgt := 70) hx hb dX3_unreachableCode_1 (by rw [hs1_12]; decide) (by rw [hs1_12]; decide) (by rw [hs1_12]; decide) (by decide) ?_
    refine nv_iconst (k := 1) hx hb dX3_unreachableCode_70 rfl ?_
    exact hend ((congrArg nI (by simp only [tg_unr]; (repeat' split) <;> omega))) dX3_unreachableCode_71
  refine lv_tableOut (tgt := 72) hx hb dX3_unreachableCode_1 (by rw [nI_toInt (by omega)]; omega) (by decide) ?_
  refine nv_iconst (k := 0) hx hb dX3_unreachableCode_72 rfl ?_
  exact hend ((congrArg nI (by simp only [tg_unr]; (repeat' split) <;> omega))) dX3_unreachableCode_73
theorem dX3_putErrorKind_0 : decode cX3_putErrorKind 0 = .ok (.aload_n 0, 1) := by decide +kernel
theorem dX3_putErrorKind_1 : decode cX3_putErrorKind 1 = .ok (.bipush 21, 2) := by decide +kernel
theorem dX3_putErrorKind_3 : decode cX3_putErrorKind 3 = .ok (.invokevirtual 36, 3) := by decide +kernel
theorem dX3_putErrorKind_6 : decode cX3_putErrorKind 6 = .ok (.istore_n 2, 1) := by decide +kernel
theorem dX3_putErrorKind_7 : decode cX3_putErrorKind 7 = .ok (.aload_n 0, 1) := by decide +kernel
theorem dX3_putErrorKind_8 : decode cX3_putErrorKind 8 = .ok (.bipush 20, 2) := by decide +kernel
theorem dX3_putErrorKind_10 : decode cX3_putErrorKind 10 = .ok (.invokevirtual 36, 3) := by decide +kernel
theorem dX3_putErrorKind_13 : decode cX3_putErrorKind 13 = .ok (.bipush 11, 2) := by decide +kernel
theorem dX3_putErrorKind_15 : decode cX3_putErrorKind 15 = .ok (.if_icmp .ne 24, 3) := by decide +kernel
theorem dX3_putErrorKind_18 : decode cX3_putErrorKind 18 = .ok (.aload_n 1, 1) := by decide +kernel
theorem dX3_putErrorKind_19 : decode cX3_putErrorKind 19 = .ok (.bipush 40, 2) := by decide +kernel
theorem dX3_putErrorKind_21 : decode cX3_putErrorKind 21 = .ok (.sipush 768, 3) := by decide +kernel
theorem dX3_putErrorKind_24 : decode cX3_putErrorKind 24 = .ok (.iload_n 2, 1) := by decide +kernel
theorem dX3_putErrorKind_25 : decode cX3_putErrorKind 25 = .ok (.ior, 1) := by decide +kernel
theorem dX3_putErrorKind_26 : decode cX3_putErrorKind 26 = .ok (.invokevirtual 33, 3) := by decide +kernel
theorem dX3_putErrorKind_29 : decode cX3_putErrorKind 29 = .ok (.aload_n 1, 1) := by decide +kernel
theorem dX3_putErrorKind_30 : decode cX3_putErrorKind 30 = .ok (.bipush 44, 2) := by decide +kernel
theorem dX3_putErrorKind_32 : decode cX3_putErrorKind 32 = .ok (.iconst 0, 1) := by decide +kernel
theorem dX3_putErrorKind_33 : decode cX3_putErrorKind 33 = .ok (.invokevirtual 39, 3) := by decide +kernel
theorem dX3_putErrorKind_36 : decode cX3_putErrorKind 36 = .ok (.goto 62, 3) := by decide +kernel
theorem dX3_putErrorKind_39 : decode cX3_putErrorKind 39 = .ok (.iload_n 2, 1) := by decide +kernel
theorem dX3_putErrorKind_40 : decode cX3_putErrorKind 40 = .ok (.iconst 4, 1) := by decide +kernel
theorem dX3_putErrorKind_41 : decode cX3_putErrorKind 41 = .ok (.if_icmp .ne 36, 3) := by decide +kernel
theorem dX3_putErrorKind_44 : decode cX3_putErrorKind 44 = .ok (.aload_n 1, 1) := by decide +kernel
theorem dX3_putErrorKind_45 : decode cX3_putErrorKind 45 = .ok (.bipush 40, 2) := by decide +kernel
theorem dX3_putErrorKind_47 : decode cX3_putErrorKind 47 = .ok (.sipush 512, 3) := by decide +kernel
theorem dX3_putErrorKind_50 : decode cX3_putErrorKind 50 = .ok (.invokevirtual 33, 3) := by decide +kernel
theorem dX3_putErrorKind_53 : decode cX3_putErrorKind 53 = .ok (.aload_n 1, 1) := by decide +kernel
theorem dX3_putErrorKind_54 : decode cX3_putErrorKind 54 = .ok (.bipush 44, 2) := by decide +kernel
theorem dX3_putErrorKind_56 : decode cX3_putErrorKind 56 = .ok (.sipush 1280, 3) := by decide +kernel
theorem dX3_putErrorKind_59 : decode cX3_putErrorKind 59 = .ok (.aload_n 0, 1) := by decide +kernel
theorem dX3_putErrorKind_60 : decode cX3_putErrorKind 60 = .ok (.bipush 26, 2) := by decide +kernel
theorem dX3_putErrorKind_62 : decode cX3_putErrorKind 62 = .ok (.invokevirtual 29, 3) := by decide +kernel
theorem dX3_putErrorKind_65 : decode cX3_putErrorKind 65 = .ok (.bipush 20, 2) := by decide +kernel
theorem dX3_putErrorKind_67 : decode cX3_putErrorKind 67 = .ok (.iadd, 1) := by decide +kernel
theorem dX3_putErrorKind_68 : decode cX3_putErrorKind 68 = .ok (.invokestatic 97, 3) := by decide +kernel
theorem dX3_putErrorKind_71 : decode cX3_putErrorKind 71 = .ok (.invokevirtual 39, 3) := by decide +kernel
theorem dX3_putErrorKind_74 : decode cX3_putErrorKind 74 = .ok (.goto 24, 3) := by decide +kernel
theorem dX3_putErrorKind_77 : decode cX3_putErrorKind 77 = .ok (.aload_n 1, 1) := by decide +kernel
theorem dX3_putErrorKind_78 : decode cX3_putErrorKind 78 = .ok (.bipush 40, 2) := by decide +kernel
theorem dX3_putErrorKind_80 : decode cX3_putErrorKind 80 = .ok (.sipush 256, 3) := by decide +kernel
theorem dX3_putErrorKind_83 : decode cX3_putErrorKind 83 = .ok (.iload_n 2, 1) := by decide +kernel
theorem dX3_putErrorKind_84 : decode cX3_putErrorKind 84 = .ok (.invokestatic 100, 3) := by decide +kernel
theorem dX3_putErrorKind_87 : decode cX3_putErrorKind 87 = .ok (.ior, 1) := by decide +kernel
theorem dX3_putErrorKind_88 : decode cX3_putErrorKind 88 = .ok (.invokevirtual 33, 3) := by decide +kernel
theorem dX3_putErrorKind_91 : decode cX3_putErrorKind 91 = .ok (.aload_n 1, 1) := by decide +kernel
theorem dX3_putErrorKind_92 : decode cX3_putErrorKind 92 = .ok (.bipush 44, 2) := by decide +kernel
theorem dX3_putErrorKind_94 : decode cX3_putErrorKind 94 = .ok (.iconst 0, 1) := by decide +kernel
theorem dX3_putErrorKind_95 : decode cX3_putErrorKind 95 = .ok (.invokevirtual 39, 3) := by decide +kernel
theorem dX3_putErrorKind_98 : decode cX3_putErrorKind 98 = .ok (.return_, 1) := by decide +kernel
theorem yv_X3_putErrorKind : YS yX3_putErrorKind cX3_putErrorKind 3 none 2 := ⟨kw3_220, kw1_22, kw3_221, by decide +kernel⟩
set_option maxHeartbeats 4000000 in
set_option maxRecDepth 100000 in
theorem c_X3_putErrorKind {l : Launch} {D : va_G} {cy : Nat → ClassId} {ws : va_W} {kb ka b ar N n : Nat} {f : Nat → UInt8} (hb0 : ws[kb]? = some (b, .inr (2, [.ref ar, .int (nI n)]))) (ha0 : ws[ka]? = some (ar, .inl (cy 0, N, .inl (bt f)))) (hnN : n ≤ N) (hN : N ≤ 1700) {ki kai bi ai Ni ni : Nat} {fi : Nat → UInt8} (hi0 : ws[ki]? = some (bi, .inr (2, [.ref ai, .int (nI ni)]))) (hi1 : ws[kai]? = some (ai, .inl (cy 0, Ni, .inl (bt fi)))) (hniN : ni ≤ Ni) (hNi : Ni ≤ 1700) (di1 : kb ≠ ki) (di2 : ka ≠ ki) (di3 : kb ≠ kai) (di4 : ka ≠ kai) (hn48 : 48 ≤ n) : WR (S := (Nat → UInt8)) l yX3_putErrorKind cX3_putErrorKind 3 none 2 0 0 48 [.ref bi, .ref b] D cy ws (fun _ => none) (fun g => g = tg_kind (tg_rd fi ni) f) (fun g => wB ws kb ka b ar N cy g n) := by
  refine WRv (by decide) (lv0 := [(0, .ref bi), (1, .ref b)]) rfl (Nat.le_of_ble_eq_true rfl) ?_
  intro p e s m args below meth c ls A Q S hnm hP hK hD hS hA hend hl
  have hx := S.1
  have hb := S.2.1
  have hown : s.vm.findClass RX3 = some m.cls := S.2.2.2.1
  have ht : ∀ w ∈ lw_g, w.before args s = true := fun w h => S.2.2.2.2 w (List.mem_cons_of_mem _ h)
  have hne : kb ≠ ka := lst_ne hb0 ha0 (fun z => by cases z)
  have hP : va_P D vwCl (wB ws kb ka b ar N cy f n) s.heap := by rw [wB_self hb0 ha0]; exact hP
  have hD : va_D A (wB ws kb ka b ar N cy f n) := by rw [wB_self hb0 ha0]; exact hD
  refine lv_aload_n hx hb dX3_putErrorKind_0 rfl (lv_at hl 0 rfl) ?_
  refine nv_bipush (k := 21) hx hb dX3_putErrorKind_1 (by decide) ?_
  refine ro_V S (c_X1_octet (PK_of (wB_o di1 di2 hi0) (wB_o di3 di4 hi1) hniN hNi) (k := 21) (by omega)) kw3_130 yv_X1_octet ⟨Nat.le_of_ble_eq_true rfl, Nat.le_of_ble_eq_true rfl⟩ hK hP (va_recv hK hP (ci := 2) (q0 := ki) rfl (wB_o di1 di2 hi0)) rfl hl.1 rfl (Nat.le_of_ble_eq_true rfl) dX3_putErrorKind_3 ⟨Nat.zero_le _, Nat.zero_le _⟩ ?_
  have hq3 := tg_rd_lt fi ni 21
  refine lv_istore_n (lv' := [(2, .int (nI (tg_rd fi ni 21))), (0, .ref bi), (1, .ref b)]) hx hb dX3_putErrorKind_6 rfl hl (by decide) rfl (fun ls hl => ?_)
  refine lv_aload_n hx hb dX3_putErrorKind_7 rfl (lv_at hl 1 rfl) ?_
  refine nv_bipush (k := 20) hx hb dX3_putErrorKind_8 (by decide) ?_
  refine ro_V S (c_X1_octet (PK_of (wB_o di1 di2 hi0) (wB_o di3 di4 hi1) hniN hNi) (k := 20) (by omega)) kw3_130 yv_X1_octet ⟨Nat.le_of_ble_eq_true rfl, Nat.le_of_ble_eq_true rfl⟩ hK hP (va_recv hK hP (ci := 2) (q0 := ki) rfl (wB_o di1 di2 hi0)) rfl hl.1 rfl (Nat.le_of_ble_eq_true rfl) dX3_putErrorKind_10 ⟨Nat.zero_le _, Nat.zero_le _⟩ ?_
  have hq10 := tg_rd_lt fi ni 20
  refine nv_bipush (k := 11) hx hb dX3_putErrorKind_13 (by decide) ?_
  refine nv_icmp_ne (tgt := 39) hx hb dX3_putErrorKind_15 (by decide) (by omega) (by omega) (fun h15 => ?_) (fun h15 => ?_)
  · skip
    refine lv_iload_n hx hb dX3_putErrorKind_39 rfl (lv_at hl 0 rfl) ?_
    refine nv_iconst (k := 4) hx hb dX3_putErrorKind_40 rfl ?_
    refine nv_icmp_ne (tgt := 77) hx hb dX3_putErrorKind_41 (by decide) (by omega) (by omega) (fun h41 => ?_) (fun h41 => ?_)
    · skip
      refine lv_aload_n hx hb dX3_putErrorKind_77 rfl (lv_at hl 2 rfl) ?_
      refine nv_bipush (k := 40) hx hb dX3_putErrorKind_78 (by decide) ?_
      refine nv_sipush (k := 256) hx hb dX3_putErrorKind_80 (by decide) ?_
      refine lv_iload_n hx hb dX3_putErrorKind_83 rfl (lv_at hl 0 rfl) ?_
      refine ro_S S (c_X3_unreachableCode (x := tg_rd fi ni 21) (by omega)) kw3_223 yv_X3_unreachableCode ⟨Nat.le_of_ble_eq_true rfl, Nat.le_of_ble_eq_true rfl⟩ hK hP rfl hl.1 rfl (Nat.le_of_ble_eq_true rfl) dX3_putErrorKind_84 ⟨Nat.zero_le _, Nat.zero_le _⟩ ?_
      have hq84 := tg_unr_le (tg_rd fi ni 21)
      refine nv_iorc (k := 8) (q := 1) hx hb (by decide) (by omega) dX3_putErrorKind_87 ?_
      refine wr_V S (c_X1_putPair (wB_b hne hb0) (wB_a ha0) (by omega) hN (a := 40) (x := 256 + tg_unr (tg_rd fi ni 21)) (by omega) (by omega)) kw3_126 yv_X1_putPair ⟨Nat.le_of_ble_eq_true rfl, Nat.le_of_ble_eq_true rfl⟩ hK hP hD hS hA (va_recv hK hP (ci := 2) (q0 := kb) rfl (wB_b hne hb0)) rfl hl.1 rfl (Nat.le_of_ble_eq_true rfl) dX3_putErrorKind_88 ⟨Nat.zero_le _, Nat.zero_le _⟩ (fun g_1 H locs hg_1 hP hD hS => ?_)
      rw [wB_wB hne] at hP hD
      refine W.eq (g2 := F0 m 91 ls []) rfl ?_
      refine lv_aload_n hx hb dX3_putErrorKind_91 rfl (lv_at hl 2 rfl) ?_
      refine nv_bipush (k := 44) hx hb dX3_putErrorKind_92 (by decide) ?_
      refine nv_iconst (k := 0) hx hb dX3_putErrorKind_94 rfl ?_
      refine wr_V S (c_X1_putQuad (wB_b hne hb0) (wB_a ha0) (by omega) hN (a := 44) (x := 0) (by omega) (by omega)) kw3_131 yv_X1_putQuad ⟨Nat.le_of_ble_eq_true rfl, Nat.le_of_ble_eq_true rfl⟩ hK hP hD hS hA (va_recv hK hP (ci := 2) (q0 := kb) rfl (wB_b hne hb0)) rfl hl.1 rfl (Nat.le_of_ble_eq_true rfl) dX3_putErrorKind_95 ⟨Nat.zero_le _, Nat.zero_le _⟩ (fun g_2 H locs hg_2 hP hD hS => ?_)
      rw [wB_wB hne] at hP hD
      refine W.eq (g2 := F0 m 98 ls []) rfl ?_
      exact hend _ (by rw [hg_2, hg_1]; simp only [tg_kind]; first | rw [if_pos (by assumption)] | rw [if_neg (by assumption), if_pos (by assumption)] | rw [if_neg (by assumption), if_neg (by assumption)]) hP hD hS dX3_putErrorKind_98
    refine lv_aload_n hx hb dX3_putErrorKind_44 rfl (lv_at hl 2 rfl) ?_
    refine nv_bipush (k := 40) hx hb dX3_putErrorKind_45 (by decide) ?_
    refine nv_sipush (k := 512) hx hb dX3_putErrorKind_47 (by decide) ?_
    refine wr_V S (c_X1_putPair (wB_b hne hb0) (wB_a ha0) (by omega) hN (a := 40) (x := 512) (by omega) (by omega)) kw3_126 yv_X1_putPair ⟨Nat.le_of_ble_eq_true rfl, Nat.le_of_ble_eq_true rfl⟩ hK hP hD hS hA (va_recv hK hP (ci := 2) (q0 := kb) rfl (wB_b hne hb0)) rfl hl.1 rfl (Nat.le_of_ble_eq_true rfl) dX3_putErrorKind_50 ⟨Nat.zero_le _, Nat.zero_le _⟩ (fun g_3 H locs hg_3 hP hD hS => ?_)
    rw [wB_wB hne] at hP hD
    refine W.eq (g2 := F0 m 53 ls []) rfl ?_
    refine lv_aload_n hx hb dX3_putErrorKind_53 rfl (lv_at hl 2 rfl) ?_
    refine nv_bipush (k := 44) hx hb dX3_putErrorKind_54 (by decide) ?_
    refine nv_sipush (k := 1280) hx hb dX3_putErrorKind_56 (by decide) ?_
    refine lv_aload_n hx hb dX3_putErrorKind_59 rfl (lv_at hl 1 rfl) ?_
    refine nv_bipush (k := 26) hx hb dX3_putErrorKind_60 (by decide) ?_
    refine ro_V S (c_X1_pair (PK_of (wB_o di1 di2 hi0) (wB_o di3 di4 hi1) hniN hNi) (a := 26) (by omega)) kw3_125 yv_X1_pair ⟨Nat.le_of_ble_eq_true rfl, Nat.le_of_ble_eq_true rfl⟩ hK hP (va_recv hK hP (ci := 2) (q0 := ki) rfl (wB_o di1 di2 hi0)) rfl hl.1 rfl (Nat.le_of_ble_eq_true rfl) dX3_putErrorKind_62 ⟨Nat.zero_le _, Nat.zero_le _⟩ ?_
    have hq62 := tg_pr_lt fi ni 26
    refine nv_bipush (k := 20) hx hb dX3_putErrorKind_65 (by decide) ?_
    refine nv_iadd hx hb dX3_putErrorKind_67 ?_
    refine nv_max hx hb (S.2.2.1.trans hl.1.symm) hown (ht _ kw3_222) (ht _ kw1_38) (ht _ kw1_3) (ht _ kw1_39) (Nat.le_of_ble_eq_true rfl) (Nat.le_of_ble_eq_true rfl) (Nat.zero_le _) (Nat.zero_le _) (by omega) (by omega) dX3_putErrorKind_68 ?_
    refine wr_V S (c_X1_putQuad (wB_b hne hb0) (wB_a ha0) (by omega) hN (a := 44) (x := max 1280 ((tg_pr (tg_rd fi ni) 26) + 20)) (by omega) (by omega)) kw3_131 yv_X1_putQuad ⟨Nat.le_of_ble_eq_true rfl, Nat.le_of_ble_eq_true rfl⟩ hK hP hD hS hA (va_recv hK hP (ci := 2) (q0 := kb) rfl (wB_b hne hb0)) rfl hl.1 rfl (Nat.le_of_ble_eq_true rfl) dX3_putErrorKind_71 ⟨Nat.zero_le _, Nat.zero_le _⟩ (fun g_4 H locs hg_4 hP hD hS => ?_)
    rw [wB_wB hne] at hP hD
    refine W.eq (g2 := F0 m 74 ls []) rfl ?_
    refine lv_goto (tgt := 98) hx hb dX3_putErrorKind_74 (by decide) ?_
    exact hend _ (by rw [hg_4, hg_3]; simp only [tg_kind]; first | rw [if_pos (by assumption)] | rw [if_neg (by assumption), if_pos (by assumption)] | rw [if_neg (by assumption), if_neg (by assumption)]) hP hD hS dX3_putErrorKind_98
  refine lv_aload_n hx hb dX3_putErrorKind_18 rfl (lv_at hl 2 rfl) ?_
  refine nv_bipush (k := 40) hx hb dX3_putErrorKind_19 (by decide) ?_
  refine nv_sipush (k := 768) hx hb dX3_putErrorKind_21 (by decide) ?_
  refine lv_iload_n hx hb dX3_putErrorKind_24 rfl (lv_at hl 0 rfl) ?_
  refine nv_iorc (k := 8) (q := 3) hx hb (by decide) (by omega) dX3_putErrorKind_25 ?_
  refine wr_V S (c_X1_putPair (wB_b hne hb0) (wB_a ha0) (by omega) hN (a := 40) (x := 768 + tg_rd fi ni 21) (by omega) (by omega)) kw3_126 yv_X1_putPair ⟨Nat.le_of_ble_eq_true rfl, Nat.le_of_ble_eq_true rfl⟩ hK hP hD hS hA (va_recv hK hP (ci := 2) (q0 := kb) rfl (wB_b hne hb0)) rfl hl.1 rfl (Nat.le_of_ble_eq_true rfl) dX3_putErrorKind_26 ⟨Nat.zero_le _, Nat.zero_le _⟩ (fun g_5 H locs hg_5 hP hD hS => ?_)
  rw [wB_wB hne] at hP hD
  refine W.eq (g2 := F0 m 29 ls []) rfl ?_
  refine lv_aload_n hx hb dX3_putErrorKind_29 rfl (lv_at hl 2 rfl) ?_
  refine nv_bipush (k := 44) hx hb dX3_putErrorKind_30 (by decide) ?_
  refine nv_iconst (k := 0) hx hb dX3_putErrorKind_32 rfl ?_
  refine wr_V S (c_X1_putQuad (wB_b hne hb0) (wB_a ha0) (by omega) hN (a := 44) (x := 0) (by omega) (by omega)) kw3_131 yv_X1_putQuad ⟨Nat.le_of_ble_eq_true rfl, Nat.le_of_ble_eq_true rfl⟩ hK hP hD hS hA (va_recv hK hP (ci := 2) (q0 := kb) rfl (wB_b hne hb0)) rfl hl.1 rfl (Nat.le_of_ble_eq_true rfl) dX3_putErrorKind_33 ⟨Nat.zero_le _, Nat.zero_le _⟩ (fun g_6 H locs hg_6 hP hD hS => ?_)
  rw [wB_wB hne] at hP hD
  refine W.eq (g2 := F0 m 36 ls []) rfl ?_
  refine lv_goto (tgt := 98) hx hb dX3_putErrorKind_36 (by decide) ?_
  exact hend _ (by rw [hg_6, hg_5]; simp only [tg_kind]; first | rw [if_pos (by assumption)] | rw [if_neg (by assumption), if_pos (by assumption)] | rw [if_neg (by assumption), if_neg (by assumption)]) hP hD hS dX3_putErrorKind_98
theorem dX9_putPart_0 : decode cX9_putPart 0 = .ok (.iload_n 1, 1) := by decide +kernel
theorem dX9_putPart_1 : decode cX9_putPart 1 = .ok (.aload_n 0, 1) := by decide +kernel
theorem dX9_putPart_2 : decode cX9_putPart 2 = .ok (.iload_n 1, 1) := by decide +kernel
theorem dX9_putPart_3 : decode cX9_putPart 3 = .ok (.invokestatic 19, 3) := by decide +kernel
theorem dX9_putPart_6 : decode cX9_putPart 6 = .ok (.invokestatic 35, 3) := by decide +kernel
theorem dX9_putPart_9 : decode cX9_putPart 9 = .ok (.iadd, 1) := by decide +kernel
theorem dX9_putPart_10 : decode cX9_putPart 10 = .ok (.istore_n 2, 1) := by decide +kernel
theorem dX9_putPart_11 : decode cX9_putPart 11 = .ok (.aload_n 0, 1) := by decide +kernel
theorem dX9_putPart_12 : decode cX9_putPart 12 = .ok (.iload_n 2, 1) := by decide +kernel
theorem dX9_putPart_13 : decode cX9_putPart 13 = .ok (.aload_n 0, 1) := by decide +kernel
theorem dX9_putPart_14 : decode cX9_putPart 14 = .ok (.aload_n 0, 1) := by decide +kernel
theorem dX9_putPart_15 : decode cX9_putPart 15 = .ok (.invokevirtual 38, 3) := by decide +kernel
theorem dX9_putPart_18 : decode cX9_putPart 18 = .ok (.iload_n 1, 1) := by decide +kernel
theorem dX9_putPart_19 : decode cX9_putPart 19 = .ok (.iload_n 2, 1) := by decide +kernel
theorem dX9_putPart_20 : decode cX9_putPart 20 = .ok (.invokestatic 42, 3) := by decide +kernel
theorem dX9_putPart_23 : decode cX9_putPart 23 = .ok (.invokevirtual 45, 3) := by decide +kernel
theorem dX9_putPart_26 : decode cX9_putPart 26 = .ok (.return_, 1) := by decide +kernel
theorem yv_X9_putPart : YS yX9_putPart cX9_putPart 3 none 2 := ⟨kw3_142, kw1_13, kw3_143, by decide +kernel⟩
set_option maxHeartbeats 4000000 in
set_option maxRecDepth 100000 in
theorem c_X9_putPart {l : Launch} {D : va_G} {cy : Nat → ClassId} {ws : va_W} {kb ka b ar N n : Nat} {f : Nat → UInt8} (hb0 : ws[kb]? = some (b, .inr (2, [.ref ar, .int (nI n)]))) (ha0 : ws[ka]? = some (ar, .inl (cy 0, N, .inl (bt f)))) (hnN : n ≤ N) (hN : N ≤ 1700) {hd q : Nat} (hh : hd = 20 ∨ hd = 40) (hq : tg_proto (tg_rd f n) hd = q) (hs : hd + tg_sumAt q + 2 ≤ n) : WR (S := (Nat → UInt8)) l yX9_putPart cX9_putPart 3 none 3 0 0 72 [.ref b, .int (nI hd)] D cy ws (fun _ => none) (fun g => g = tg_fin f n hd q) (fun g => wB ws kb ka b ar N cy g n) := by
  refine WRv (by decide) (lv0 := [(0, .ref b), (1, .int (nI hd))]) rfl (Nat.le_of_ble_eq_true rfl) ?_
  intro p e s m args below meth c ls A Q S hnm hP hK hD hS hA hend hl
  have hx := S.1
  have hb := S.2.1
  have hown : s.vm.findClass RX9 = some m.cls := S.2.2.2.1
  have ht : ∀ w ∈ lw_g, w.before args s = true := fun w h => S.2.2.2.2 w (List.mem_cons_of_mem _ h)
  have hne : kb ≠ ka := lst_ne hb0 ha0 (fun z => by cases z)
  have hP : va_P D vwCl (wB ws kb ka b ar N cy f n) s.heap := by rw [wB_self hb0 ha0]; exact hP
  have hD : va_D A (wB ws kb ka b ar N cy f n) := by rw [wB_self hb0 ha0]; exact hD
  subst hq
  have hsl := tg_sumAt_le (tg_proto (tg_rd f n) hd)
  refine lv_iload_n hx hb dX9_putPart_0 rfl (lv_at hl 1 rfl) ?_
  refine lv_aload_n hx hb dX9_putPart_1 rfl (lv_at hl 0 rfl) ?_
  refine lv_iload_n hx hb dX9_putPart_2 rfl (lv_at hl 1 rfl) ?_
  refine ro_S S (c_X4_protocolOf (PK_of (wB_b hne hb0) (wB_a ha0) (by omega) hN) (hd := hd) (by omega)) kw2_47 yv_X4_protocolOf ⟨Nat.le_of_ble_eq_true rfl, Nat.le_of_ble_eq_true rfl⟩ hK hP rfl hl.1 rfl (Nat.le_of_ble_eq_true rfl) dX9_putPart_3 ⟨Nat.zero_le _, Nat.zero_le _⟩ ?_
  have hq3 := tg_proto_lt f n hd
  refine ro_S S (c_X4_sumAt (q := tg_proto (tg_rd f n) hd) (by omega)) kw2_50 yv_X4_sumAt ⟨Nat.le_of_ble_eq_true rfl, Nat.le_of_ble_eq_true rfl⟩ hK hP rfl hl.1 rfl (Nat.le_of_ble_eq_true rfl) dX9_putPart_6 ⟨Nat.zero_le _, Nat.zero_le _⟩ ?_
  have hq6 := tg_sumAt_le (tg_proto (tg_rd f n) hd)
  refine nv_iadd hx hb dX9_putPart_9 ?_
  refine lv_istore_n (lv' := [(2, .int (nI (hd + (tg_sumAt (tg_proto (tg_rd f n) hd))))), (0, .ref b), (1, .int (nI hd))]) hx hb dX9_putPart_10 rfl hl (by decide) rfl (fun ls hl => ?_)
  refine lv_aload_n hx hb dX9_putPart_11 rfl (lv_at hl 1 rfl) ?_
  refine lv_iload_n hx hb dX9_putPart_12 rfl (lv_at hl 0 rfl) ?_
  refine lv_aload_n hx hb dX9_putPart_13 rfl (lv_at hl 1 rfl) ?_
  refine lv_aload_n hx hb dX9_putPart_14 rfl (lv_at hl 1 rfl) ?_
  refine ro_V S (c_X1_length (PK_of (wB_b hne hb0) (wB_a ha0) (by omega) hN)) kw2_54 yv_X1_length ⟨Nat.le_of_ble_eq_true rfl, Nat.le_of_ble_eq_true rfl⟩ hK hP (va_recv hK hP (ci := 2) (q0 := kb) rfl (wB_b hne hb0)) rfl hl.1 rfl (Nat.le_of_ble_eq_true rfl) dX9_putPart_15 ⟨Nat.zero_le _, Nat.zero_le _⟩ ?_
  refine lv_iload_n hx hb dX9_putPart_18 rfl (lv_at hl 2 rfl) ?_
  refine lv_iload_n hx hb dX9_putPart_19 rfl (lv_at hl 0 rfl) ?_
  refine ro_S S (c_X9_ofPart (PK_of (wB_b hne hb0) (wB_a ha0) (by omega) hN) (z := n) (hd := hd) (w := hd + (tg_sumAt (tg_proto (tg_rd f n) hd))) (by omega) (by omega) (by omega) (by omega)) kw2_55 yv_X9_ofPart ⟨Nat.le_of_ble_eq_true rfl, Nat.le_of_ble_eq_true rfl⟩ hK hP rfl hl.1 rfl (Nat.le_of_ble_eq_true rfl) dX9_putPart_20 ⟨Nat.zero_le _, Nat.zero_le _⟩ ?_
  have hq20 := tg_sum_le (tg_rd f n) hd n (hd + (tg_sumAt (tg_proto (tg_rd f n) hd))) (tg_proto (tg_rd f n) hd)
  refine wr_V S (c_X1_putPair (wB_b hne hb0) (wB_a ha0) (by omega) hN (a := hd + (tg_sumAt (tg_proto (tg_rd f n) hd))) (x := tg_sum (tg_rd f n) hd n (hd + (tg_sumAt (tg_proto (tg_rd f n) hd))) (tg_proto (tg_rd f n) hd)) (by omega) (by omega)) kw3_144 yv_X1_putPair ⟨Nat.le_of_ble_eq_true rfl, Nat.le_of_ble_eq_true rfl⟩ hK hP hD hS hA (va_recv hK hP (ci := 2) (q0 := kb) rfl (wB_b hne hb0)) rfl hl.1 rfl (Nat.le_of_ble_eq_true rfl) dX9_putPart_23 ⟨Nat.zero_le _, Nat.zero_le _⟩ (fun g_1 H locs hg_1 hP hD hS => ?_)
  rw [wB_wB hne] at hP hD
  refine W.eq (g2 := F0 m 26 ls []) rfl ?_
  exact hend _ (by rw [hg_1]; try subst_vars; rfl) hP hD hS dX9_putPart_26
