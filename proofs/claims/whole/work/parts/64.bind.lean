theorem dX10_meetsSession_0 : decode cX10_meetsSession 0 = .ok (.iconst 0, 1) := by decide +kernel
theorem dX10_meetsSession_1 : decode cX10_meetsSession 1 = .ok (.istore_n 3, 1) := by decide +kernel
theorem dX10_meetsSession_2 : decode cX10_meetsSession 2 = .ok (.iload_n 3, 1) := by decide +kernel
theorem dX10_meetsSession_3 : decode cX10_meetsSession 3 = .ok (.aload_n 0, 1) := by decide +kernel
theorem dX10_meetsSession_4 : decode cX10_meetsSession 4 = .ok (.getfield 18, 3) := by decide +kernel
theorem dX10_meetsSession_7 : decode cX10_meetsSession 7 = .ok (.invokevirtual 25, 3) := by decide +kernel
theorem dX10_meetsSession_10 : decode cX10_meetsSession 10 = .ok (.if_icmp .ge 79, 3) := by decide +kernel
theorem dX10_meetsSession_13 : decode cX10_meetsSession 13 = .ok (.aload_n 0, 1) := by decide +kernel
theorem dX10_meetsSession_14 : decode cX10_meetsSession 14 = .ok (.getfield 18, 3) := by decide +kernel
theorem dX10_meetsSession_17 : decode cX10_meetsSession 17 = .ok (.iload_n 3, 1) := by decide +kernel
theorem dX10_meetsSession_18 : decode cX10_meetsSession 18 = .ok (.invokevirtual 29, 3) := by decide +kernel
theorem dX10_meetsSession_21 : decode cX10_meetsSession 21 = .ok (.checkcast 35, 3) := by decide +kernel
theorem dX10_meetsSession_24 : decode cX10_meetsSession 24 = .ok (.astore 4, 2) := by decide +kernel
theorem dX10_meetsSession_26 : decode cX10_meetsSession 26 = .ok (.aload 4, 2) := by decide +kernel
theorem dX10_meetsSession_28 : decode cX10_meetsSession 28 = .ok (.getfield 107, 3) := by decide +kernel
theorem dX10_meetsSession_31 : decode cX10_meetsSession 31 = .ok (.aload_n 2, 1) := by decide +kernel
theorem dX10_meetsSession_32 : decode cX10_meetsSession 32 = .ok (.getfield 110, 3) := by decide +kernel
theorem dX10_meetsSession_35 : decode cX10_meetsSession 35 = .ok (.if_icmp .ne 19, 3) := by decide +kernel
theorem dX10_meetsSession_38 : decode cX10_meetsSession 38 = .ok (.aload 4, 2) := by decide +kernel
theorem dX10_meetsSession_40 : decode cX10_meetsSession 40 = .ok (.getfield 111, 3) := by decide +kernel
theorem dX10_meetsSession_43 : decode cX10_meetsSession 43 = .ok (.aload_n 2, 1) := by decide +kernel
theorem dX10_meetsSession_44 : decode cX10_meetsSession 44 = .ok (.getfield 114, 3) := by decide +kernel
theorem dX10_meetsSession_47 : decode cX10_meetsSession 47 = .ok (.if_icmp .ne 7, 3) := by decide +kernel
theorem dX10_meetsSession_50 : decode cX10_meetsSession 50 = .ok (.iconst 1, 1) := by decide +kernel
theorem dX10_meetsSession_51 : decode cX10_meetsSession 51 = .ok (.goto 4, 3) := by decide +kernel
theorem dX10_meetsSession_54 : decode cX10_meetsSession 54 = .ok (.iconst 0, 1) := by decide +kernel
theorem dX10_meetsSession_55 : decode cX10_meetsSession 55 = .ok (.istore 5, 2) := by decide +kernel
theorem dX10_meetsSession_57 : decode cX10_meetsSession 57 = .ok (.iload 5, 2) := by decide +kernel
theorem dX10_meetsSession_59 : decode cX10_meetsSession 59 = .ok (.ifCond .eq 24, 3) := by decide +kernel
theorem dX10_meetsSession_62 : decode cX10_meetsSession 62 = .ok (.aload 4, 2) := by decide +kernel
theorem dX10_meetsSession_64 : decode cX10_meetsSession 64 = .ok (.getfield 40, 3) := by decide +kernel
theorem dX10_meetsSession_67 : decode cX10_meetsSession 67 = .ok (.aload_n 1, 1) := by decide +kernel
theorem dX10_meetsSession_68 : decode cX10_meetsSession 68 = .ok (.if_acmp .ne 15, 3) := by decide +kernel
theorem dX10_meetsSession_71 : decode cX10_meetsSession 71 = .ok (.aload 4, 2) := by decide +kernel
theorem dX10_meetsSession_73 : decode cX10_meetsSession 73 = .ok (.aload_n 2, 1) := by decide +kernel
theorem dX10_meetsSession_74 : decode cX10_meetsSession 74 = .ok (.aload_n 0, 1) := by decide +kernel
theorem dX10_meetsSession_75 : decode cX10_meetsSession 75 = .ok (.getfield 21, 3) := by decide +kernel
theorem dX10_meetsSession_78 : decode cX10_meetsSession 78 = .ok (.invokevirtual 115, 3) := by decide +kernel
theorem dX10_meetsSession_81 : decode cX10_meetsSession 81 = .ok (.iconst 1, 1) := by decide +kernel
theorem dX10_meetsSession_82 : decode cX10_meetsSession 82 = .ok (.ireturn, 1) := by decide +kernel
theorem dX10_meetsSession_83 : decode cX10_meetsSession 83 = .ok (.iinc 3 1, 3) := by decide +kernel
theorem dX10_meetsSession_86 : decode cX10_meetsSession 86 = .ok (.goto (-84), 3) := by decide +kernel
theorem dX10_meetsSession_89 : decode cX10_meetsSession 89 = .ok (.iconst 0, 1) := by decide +kernel
theorem dX10_meetsSession_90 : decode cX10_meetsSession 90 = .ok (.ireturn, 1) := by decide +kernel
theorem yv_X10_meetsSession : YV RX10 yX10_meetsSession cX10_meetsSession 6 (some .boolean) 2 := ⟨kw2_182, kws_4, kw1_6, kw2_183, by decide +kernel⟩
set_option maxHeartbeats 4000000 in
set_option maxRecDepth 100000 in
theorem c_X10_meetsSession0 {l : Launch} {D : va_G} {cy : Nat → ClassId} {ws : va_W} {kt tb lb ls T : Nat} (hT : ws[kt]? = some (tE tb lb ls T)) {kb eb nb e0 : Nat} {mb : Int32} (hLb : ws[kb]? = some (aL lb mb eb nb)) {ba pt ih il ip pn op : Nat → Nat} (hB : TB1 cy ws e0 eb nb ba pt ih il ip pn op) {kc es ns : Nat} {mc9 : Int32} (hLs : ws[kc]? = some (aL ls mc9 es ns)) {sa so fa fp st en : Nat → Nat} (hS1 : TS1 cy ws e0 es ns nb ba sa so fa fp st en) (hb_fa : ∀ i, fa i < 2 ^ 32) (hb_fp : ∀ i, fp i < 2 ^ 31) (hb_st : ∀ i, st i ≤ 7) (hb_en : ∀ i, en i < 2 ^ 62) {kf fl q port far fpt ev : Nat} {ins : Bool} (hf0 : ws[kf]? = some (fE fl ins q port far fpt ev)) (hq : q < 256) (hport : port < 65536) (hfar : far < 2 ^ 32) (hfpt : fpt < 65536) (hev : ev ≤ 3) {b : Nat} (hb9 : b < nb) (hno : ∀ j, j < ns → (fun k => decide (so k = b ∧ fa k = far ∧ fp k = fpt)) j = false) : RO l yX10_meetsSession cX10_meetsSession 6 (some .boolean) 3 64 [.ref tb, .ref (ba b), .ref fl] D cy ws (.int (bI (false))) := by
  refine ROz (by decide) (lv0 := [(0, .ref tb), (1, .ref (ba b)), (2, .ref fl)]) rfl (Nat.le_of_ble_eq_true rfl) ?_
  intro p e s m args below meth c ls Q S hP hK hend hl
  have hx := S.1
  have hb := S.2.1
  have hown : s.vm.findClass RX10 = some m.cls := S.2.2.2.1
  have ht : ∀ w ∈ lw_g, w.before args s = true := fun w h => S.2.2.2.2 w (List.mem_cons_of_mem _ h)
  have hnb := hB.le
  have hns := hS1.le
  refine nv_iconst (k := 0) hx hb dX10_meetsSession_0 rfl ?_
  refine lv_istore_n (lv' := [(3, .int (nI 0)), (0, .ref tb), (1, .ref (ba b)), (2, .ref fl)]) hx hb dX10_meetsSession_1 rfl hl (by decide) rfl (fun ls hl => ?_)
  have L2 : ∀ (fu : Nat) (i : Nat), ns - i < fu → i ≤ ns → ∀ ls : Array Slot, lv_has ls 6 [(0, .ref tb), (1, .ref (ba b)), (2, .ref fl), (3, .int (nI i))] → W p l e (rmo 3 64) s m args below meth c s.heap [] 0 0 Q (F0 m 2 ls []) := by
    intro fu
    induction fu with
    | zero => intro i h9; omega
    | succ fu ihh =>
      intro i hfu hi9 ls hl
      refine lv_iload_n hx hb dX10_meetsSession_2 rfl (lv_at hl 3 rfl) ?_
      refine lv_aload_n hx hb dX10_meetsSession_3 rfl (lv_at hl 0 rfl) ?_
      refine va_get (ci := 7) (C := RX10) (T := TX10) (N := 3) hx hb ht iFX10 hown hK hP kt hT rfl 1 (by decide) (ht _ kw1_114) (fun _ h9 => h9) rfl dX10_meetsSession_4 ?_
      refine ro_V S (c_Jx4a65c_size_8abf5 hLs) kw2_157 yv_Jx4a65c_size_8abf5 ⟨Nat.le_of_ble_eq_true rfl, Nat.le_of_ble_eq_true rfl⟩ hK hP (va_recv hK hP (ci := 0) (q0 := kc) rfl hLs) rfl hl.1 rfl (Nat.le_of_ble_eq_true rfl) dX10_meetsSession_7 ⟨(Nat.zero_le _), (Nat.zero_le _)⟩ ?_
      refine nv_icmp_ge (tgt := 89) hx hb dX10_meetsSession_10 (by decide) (by omega) (by omega) (fun h10 => ?_) (fun h10 => ?_)
      · skip
        refine nv_iconst (k := 0) hx hb dX10_meetsSession_89 rfl ?_
        exact hend ((bI_f rfl)) dX10_meetsSession_90
      refine lv_aload_n hx hb dX10_meetsSession_13 rfl (lv_at hl 0 rfl) ?_
      refine va_get (ci := 7) (C := RX10) (T := TX10) (N := 3) hx hb ht iFX10 hown hK hP kt hT rfl 1 (by decide) (ht _ kw1_114) (fun _ h9 => h9) rfl dX10_meetsSession_14 ?_
      refine lv_iload_n hx hb dX10_meetsSession_17 rfl (lv_at hl 3 rfl) ?_
      refine ro_V S (c_getS hLs hS1 (i := i) (by omega)) kw2_161 yv_Jx4a65c_get_915e3 ⟨Nat.le_of_ble_eq_true rfl, Nat.le_of_ble_eq_true rfl⟩ hK hP (va_recv hK hP (ci := 0) (q0 := kc) rfl hLs) rfl hl.1 rfl (Nat.le_of_ble_eq_true rfl) dX10_meetsSession_18 ⟨(Nat.zero_le _), (Nat.zero_le _)⟩ ?_
      obtain ⟨k_1, hk_1⟩ := hS1.at (i := i) (by omega)
      have hk_1_fa := hb_fa i
      have hk_1_fp := hb_fp i
      have hk_1_st := hb_st i
      have hk_1_en := hb_en i
      have hk_1_so := hS1.own (i := i) (by omega)
      refine va_castS hx hb hown (ht _ kw2_184) (hK.1 5 _ rfl).2 (va_recv hK hP (ci := 5) (q0 := k_1) rfl hk_1) dX10_meetsSession_21 ?_
      refine lv_astore (lv' := [(4, .ref (sa i)), (0, .ref tb), (1, .ref (ba b)), (2, .ref fl), (3, .int (nI i))]) hx hb dX10_meetsSession_24 hl (by decide) rfl (fun ls hl => ?_)
      refine lv_aload hx hb dX10_meetsSession_26 (lv_at hl 0 rfl) ?_
      refine va_get (ci := 5) (C := RX7) (T := TX7) (N := 5) hx hb ht iFX7 hown hK hP k_1 hk_1 rfl 1 (by decide) (ht _ kw3_91) (fun _ h9 => h9) rfl dX10_meetsSession_28 ?_
      refine lv_aload_n hx hb dX10_meetsSession_31 rfl (lv_at hl 3 rfl) ?_
      refine va_get (ci := 3) (C := RX2) (T := TX2) (N := 6) hx hb ht iFX2 hown hK hP kf hf0 rfl 3 (by decide) (ht _ kw2_128) (fun _ h9 => h9) rfl dX10_meetsSession_32 ?_
      have J55 : ∀ v55 : Nat, v55 = (if fa i = far ∧ fp i = fpt then 1 else 0) → ∀ ls : Array Slot, lv_has ls 6 [(4, .ref (sa i)), (0, .ref tb), (1, .ref (ba b)), (2, .ref fl), (3, .int (nI i))] → W p l e (rmo 3 64) s m args below meth c s.heap [] 0 0 Q (F0 m 55 ls [.int (nI v55)]) := by
        intro v55 hv55 ls hl
        have hv5 : v55 ≤ 1 := by rw [hv55]; split <;> omega
        refine lv_istore (lv' := [(5, .int (nI v55)), (4, .ref (sa i)), (0, .ref tb), (1, .ref (ba b)), (2, .ref fl), (3, .int (nI i))]) hx hb dX10_meetsSession_55 hl (by decide) rfl (fun ls hl => ?_)
        refine lv_iload hx hb dX10_meetsSession_57 (lv_at hl 0 rfl) ?_
        refine nv_if_eq (tgt := 83) hx hb dX10_meetsSession_59 (by decide) (by omega) (fun h59 => ?_) (fun h59 => ?_)
        · skip
          refine lv_iinc (v := (nI (i + 1))) (lv' := [(3, .int (nI (i + 1))), (5, .int (nI v55)), (4, .ref (sa i)), (0, .ref tb), (1, .ref (ba b)), (2, .ref fl)]) hx hb dX10_meetsSession_83 hl (k := 5) rfl (nI_inc _ _) (by decide) rfl (fun ls hl => ?_)
          refine lv_goto (tgt := 2) hx hb dX10_meetsSession_86 (by decide) ?_
          exact ihh (i + 1) (by omega) (by omega) ls (lv_sub hl [3, 4, 5, 0] rfl)
        refine lv_aload hx hb dX10_meetsSession_62 (lv_at hl 1 rfl) ?_
        refine va_get (ci := 5) (C := RX7) (T := TX7) (N := 5) hx hb ht iFX7 hown hK hP k_1 hk_1 rfl 0 (by decide) (ht _ kw3_88) (fun _ h9 => h9) rfl dX10_meetsSession_64 ?_
        refine lv_aload_n hx hb dX10_meetsSession_67 rfl (lv_at hl 3 rfl) ?_
        refine lv_acmp_ne (rx := some (ba (so i))) (ry := some (ba b)) (tgt := 83) hx hb dX10_meetsSession_68 (by decide) (fun h68 => ?_) (fun h68 => ?_)
        · skip
          refine lv_iinc (v := (nI (i + 1))) (lv' := [(3, .int (nI (i + 1))), (5, .int (nI v55)), (4, .ref (sa i)), (0, .ref tb), (1, .ref (ba b)), (2, .ref fl)]) hx hb dX10_meetsSession_83 hl (k := 5) rfl (nI_inc _ _) (by decide) rfl (fun ls hl => ?_)
          refine lv_goto (tgt := 2) hx hb dX10_meetsSession_86 (by decide) ?_
          exact ihh (i + 1) (by omega) (by omega) ls (lv_sub hl [3, 4, 5, 0] rfl)
        have h9 := of_decide_eq_false (hno i (by omega))
        exact absurd ⟨hB.inj (hS1.own (by omega)) hb9 (sinj h68), by split at hv55 <;> omega, by split at hv55 <;> omega⟩ h9
      refine nv_icmp_new (tgt := 54) hx hb dX10_meetsSession_35 (by decide) (by omega) (by omega) (fun h35 => ?_) (fun h35 => ?_)
      · skip
        refine nv_iconst (k := 0) hx hb dX10_meetsSession_54 rfl ?_
        exact J55 (0) (by split <;> omega) ls (lv_sub hl [0, 1, 2, 3, 4] rfl)
      refine lv_aload hx hb dX10_meetsSession_38 (lv_at hl 0 rfl) ?_
      refine va_get (ci := 5) (C := RX7) (T := TX7) (N := 5) hx hb ht iFX7 hown hK hP k_1 hk_1 rfl 2 (by decide) (ht _ kw3_94) (fun _ h9 => h9) rfl dX10_meetsSession_40 ?_
      refine lv_aload_n hx hb dX10_meetsSession_43 rfl (lv_at hl 3 rfl) ?_
      refine va_get (ci := 3) (C := RX2) (T := TX2) (N := 6) hx hb ht iFX2 hown hK hP kf hf0 rfl 4 (by decide) (ht _ kw2_132) (fun _ h9 => h9) rfl dX10_meetsSession_44 ?_
      refine nv_icmp_ne (tgt := 54) hx hb dX10_meetsSession_47 (by decide) (by omega) (by omega) (fun h47 => ?_) (fun h47 => ?_)
      · skip
        refine nv_iconst (k := 0) hx hb dX10_meetsSession_54 rfl ?_
        exact J55 (0) (by split <;> omega) ls (lv_sub hl [0, 1, 2, 3, 4] rfl)
      refine nv_iconst (k := 1) hx hb dX10_meetsSession_50 rfl ?_
      refine lv_goto (tgt := 55) hx hb dX10_meetsSession_51 (by decide) ?_
      exact J55 (1) (by split <;> omega) ls (lv_sub hl [0, 1, 2, 3, 4] rfl)
  exact L2 (ns + 1) 0 (by omega) (by omega) ls (lv_sub hl [1, 2, 3, 0] rfl)
set_option maxHeartbeats 4000000 in
set_option maxRecDepth 100000 in
theorem c_X10_meetsSessionN {l : Launch} {D : va_G} {cy : Nat → ClassId} {ws : va_W} {kt tb lb ls T : Nat} (hT : ws[kt]? = some (tE tb lb ls T)) {kc es ns nb e0 : Nat} {mc9 : Int32} (hLs : ws[kc]? = some (aL ls mc9 es ns)) {ba sa so fa fp st en : Nat → Nat} (hS1 : TS1 cy ws e0 es ns nb ba sa so fa fp st en) (hb_fa : ∀ i, fa i < 2 ^ 32) (hb_fp : ∀ i, fp i < 2 ^ 31) (hb_st : ∀ i, st i ≤ 7) (hb_en : ∀ i, en i < 2 ^ 62) {kf fl q port far fpt ev : Nat} {ins : Bool} (hf0 : ws[kf]? = some (fE fl ins q port far fpt ev)) (hq : q < 256) (hport : port < 65536) (hfar : far < 2 ^ 32) (hfpt : fpt < 65536) (hev : ev ≤ 3) : RO l yX10_meetsSession cX10_meetsSession 6 (some .boolean) 3 64 [.ref tb, .null, .ref fl] D cy ws (.int (bI (false))) := by
  refine ROz (by decide) (lv0 := [(0, .ref tb), (1, .null), (2, .ref fl)]) rfl (Nat.le_of_ble_eq_true rfl) ?_
  intro p e s m args below meth c ls Q S hP hK hend hl
  have hx := S.1
  have hb := S.2.1
  have hown : s.vm.findClass RX10 = some m.cls := S.2.2.2.1
  have ht : ∀ w ∈ lw_g, w.before args s = true := fun w h => S.2.2.2.2 w (List.mem_cons_of_mem _ h)
  have hns := hS1.le
  refine nv_iconst (k := 0) hx hb dX10_meetsSession_0 rfl ?_
  refine lv_istore_n (lv' := [(3, .int (nI 0)), (0, .ref tb), (1, .null), (2, .ref fl)]) hx hb dX10_meetsSession_1 rfl hl (by decide) rfl (fun ls hl => ?_)
  have L2 : ∀ (fu : Nat) (i : Nat), ns - i < fu → i ≤ ns → ∀ ls : Array Slot, lv_has ls 6 [(0, .ref tb), (1, .null), (2, .ref fl), (3, .int (nI i))] → W p l e (rmo 3 64) s m args below meth c s.heap [] 0 0 Q (F0 m 2 ls []) := by
    intro fu
    induction fu with
    | zero => intro i h9; omega
    | succ fu ihh =>
      intro i hfu hi9 ls hl
      refine lv_iload_n hx hb dX10_meetsSession_2 rfl (lv_at hl 3 rfl) ?_
      refine lv_aload_n hx hb dX10_meetsSession_3 rfl (lv_at hl 0 rfl) ?_
      refine va_get (ci := 7) (C := RX10) (T := TX10) (N := 3) hx hb ht iFX10 hown hK hP kt hT rfl 1 (by decide) (ht _ kw1_114) (fun _ h9 => h9) rfl dX10_meetsSession_4 ?_
      refine ro_V S (c_Jx4a65c_size_8abf5 hLs) kw2_157 yv_Jx4a65c_size_8abf5 ⟨Nat.le_of_ble_eq_true rfl, Nat.le_of_ble_eq_true rfl⟩ hK hP (va_recv hK hP (ci := 0) (q0 := kc) rfl hLs) rfl hl.1 rfl (Nat.le_of_ble_eq_true rfl) dX10_meetsSession_7 ⟨(Nat.zero_le _), (Nat.zero_le _)⟩ ?_
      refine nv_icmp_ge (tgt := 89) hx hb dX10_meetsSession_10 (by decide) (by omega) (by omega) (fun h10 => ?_) (fun h10 => ?_)
      · skip
        refine nv_iconst (k := 0) hx hb dX10_meetsSession_89 rfl ?_
        exact hend ((bI_f rfl)) dX10_meetsSession_90
      refine lv_aload_n hx hb dX10_meetsSession_13 rfl (lv_at hl 0 rfl) ?_
      refine va_get (ci := 7) (C := RX10) (T := TX10) (N := 3) hx hb ht iFX10 hown hK hP kt hT rfl 1 (by decide) (ht _ kw1_114) (fun _ h9 => h9) rfl dX10_meetsSession_14 ?_
      refine lv_iload_n hx hb dX10_meetsSession_17 rfl (lv_at hl 3 rfl) ?_
      refine ro_V S (c_getS hLs hS1 (i := i) (by omega)) kw2_161 yv_Jx4a65c_get_915e3 ⟨Nat.le_of_ble_eq_true rfl, Nat.le_of_ble_eq_true rfl⟩ hK hP (va_recv hK hP (ci := 0) (q0 := kc) rfl hLs) rfl hl.1 rfl (Nat.le_of_ble_eq_true rfl) dX10_meetsSession_18 ⟨(Nat.zero_le _), (Nat.zero_le _)⟩ ?_
      obtain ⟨k_1, hk_1⟩ := hS1.at (i := i) (by omega)
      have hk_1_fa := hb_fa i
      have hk_1_fp := hb_fp i
      have hk_1_st := hb_st i
      have hk_1_en := hb_en i
      have hk_1_so := hS1.own (i := i) (by omega)
      refine va_castS hx hb hown (ht _ kw2_184) (hK.1 5 _ rfl).2 (va_recv hK hP (ci := 5) (q0 := k_1) rfl hk_1) dX10_meetsSession_21 ?_
      refine lv_astore (lv' := [(4, .ref (sa i)), (0, .ref tb), (1, .null), (2, .ref fl), (3, .int (nI i))]) hx hb dX10_meetsSession_24 hl (by decide) rfl (fun ls hl => ?_)
      refine lv_aload hx hb dX10_meetsSession_26 (lv_at hl 0 rfl) ?_
      refine va_get (ci := 5) (C := RX7) (T := TX7) (N := 5) hx hb ht iFX7 hown hK hP k_1 hk_1 rfl 1 (by decide) (ht _ kw3_91) (fun _ h9 => h9) rfl dX10_meetsSession_28 ?_
      refine lv_aload_n hx hb dX10_meetsSession_31 rfl (lv_at hl 3 rfl) ?_
      refine va_get (ci := 3) (C := RX2) (T := TX2) (N := 6) hx hb ht iFX2 hown hK hP kf hf0 rfl 3 (by decide) (ht _ kw2_128) (fun _ h9 => h9) rfl dX10_meetsSession_32 ?_
      have J55 : ∀ v55 : Nat, v55 = (if fa i = far ∧ fp i = fpt then 1 else 0) → ∀ ls : Array Slot, lv_has ls 6 [(4, .ref (sa i)), (0, .ref tb), (1, .null), (2, .ref fl), (3, .int (nI i))] → W p l e (rmo 3 64) s m args below meth c s.heap [] 0 0 Q (F0 m 55 ls [.int (nI v55)]) := by
        intro v55 hv55 ls hl
        have hv5 : v55 ≤ 1 := by rw [hv55]; split <;> omega
        refine lv_istore (lv' := [(5, .int (nI v55)), (4, .ref (sa i)), (0, .ref tb), (1, .null), (2, .ref fl), (3, .int (nI i))]) hx hb dX10_meetsSession_55 hl (by decide) rfl (fun ls hl => ?_)
        refine lv_iload hx hb dX10_meetsSession_57 (lv_at hl 0 rfl) ?_
        refine nv_if_eq (tgt := 83) hx hb dX10_meetsSession_59 (by decide) (by omega) (fun h59 => ?_) (fun h59 => ?_)
        · skip
          refine lv_iinc (v := (nI (i + 1))) (lv' := [(3, .int (nI (i + 1))), (5, .int (nI v55)), (4, .ref (sa i)), (0, .ref tb), (1, .null), (2, .ref fl)]) hx hb dX10_meetsSession_83 hl (k := 5) rfl (nI_inc _ _) (by decide) rfl (fun ls hl => ?_)
          refine lv_goto (tgt := 2) hx hb dX10_meetsSession_86 (by decide) ?_
          exact ihh (i + 1) (by omega) (by omega) ls (lv_sub hl [3, 4, 5, 0] rfl)
        refine lv_aload hx hb dX10_meetsSession_62 (lv_at hl 1 rfl) ?_
        refine va_get (ci := 5) (C := RX7) (T := TX7) (N := 5) hx hb ht iFX7 hown hK hP k_1 hk_1 rfl 0 (by decide) (ht _ kw3_88) (fun _ h9 => h9) rfl dX10_meetsSession_64 ?_
        refine lv_aload_nN hx hb dX10_meetsSession_67 rfl (lv_at hl 3 rfl) ?_
        refine lv_acmp_ne (rx := some (ba (so i))) (ry := none) (tgt := 83) hx hb dX10_meetsSession_68 (by decide) (fun h68 => ?_) (fun h68 => ?_)
        · skip
          refine lv_iinc (v := (nI (i + 1))) (lv' := [(3, .int (nI (i + 1))), (5, .int (nI v55)), (4, .ref (sa i)), (0, .ref tb), (1, .null), (2, .ref fl)]) hx hb dX10_meetsSession_83 hl (k := 5) rfl (nI_inc _ _) (by decide) rfl (fun ls hl => ?_)
          refine lv_goto (tgt := 2) hx hb dX10_meetsSession_86 (by decide) ?_
          exact ihh (i + 1) (by omega) (by omega) ls (lv_sub hl [3, 4, 5, 0] rfl)
        cases h68
      refine nv_icmp_new (tgt := 54) hx hb dX10_meetsSession_35 (by decide) (by omega) (by omega) (fun h35 => ?_) (fun h35 => ?_)
      · skip
        refine nv_iconst (k := 0) hx hb dX10_meetsSession_54 rfl ?_
        exact J55 (0) (by split <;> omega) ls (lv_sub hl [0, 1, 2, 3, 4] rfl)
      refine lv_aload hx hb dX10_meetsSession_38 (lv_at hl 0 rfl) ?_
      refine va_get (ci := 5) (C := RX7) (T := TX7) (N := 5) hx hb ht iFX7 hown hK hP k_1 hk_1 rfl 2 (by decide) (ht _ kw3_94) (fun _ h9 => h9) rfl dX10_meetsSession_40 ?_
      refine lv_aload_n hx hb dX10_meetsSession_43 rfl (lv_at hl 3 rfl) ?_
      refine va_get (ci := 3) (C := RX2) (T := TX2) (N := 6) hx hb ht iFX2 hown hK hP kf hf0 rfl 4 (by decide) (ht _ kw2_132) (fun _ h9 => h9) rfl dX10_meetsSession_44 ?_
      refine nv_icmp_ne (tgt := 54) hx hb dX10_meetsSession_47 (by decide) (by omega) (by omega) (fun h47 => ?_) (fun h47 => ?_)
      · skip
        refine nv_iconst (k := 0) hx hb dX10_meetsSession_54 rfl ?_
        exact J55 (0) (by split <;> omega) ls (lv_sub hl [0, 1, 2, 3, 4] rfl)
      refine nv_iconst (k := 1) hx hb dX10_meetsSession_50 rfl ?_
      refine lv_goto (tgt := 55) hx hb dX10_meetsSession_51 (by decide) ?_
      exact J55 (1) (by split <;> omega) ls (lv_sub hl [0, 1, 2, 3, 4] rfl)
  exact L2 (ns + 1) 0 (by omega) (by omega) ls (lv_sub hl [1, 2, 3, 0] rfl)
set_option maxHeartbeats 4000000 in
set_option maxRecDepth 100000 in
theorem c_X10_meetsSession1 {l : Launch} {D : va_G} {cy : Nat → ClassId} {ws : va_W} {kt tb lb ls T : Nat} (hT : ws[kt]? = some (tE tb lb ls T)) {kb eb nb e0 : Nat} {mb : Int32} (hLb : ws[kb]? = some (aL lb mb eb nb)) {ba pt ih il ip pn op : Nat → Nat} (hB : TB1 cy ws e0 eb nb ba pt ih il ip pn op) {kc es ns : Nat} {mc9 : Int32} (hLs : ws[kc]? = some (aL ls mc9 es ns)) {sa so fa fp st en : Nat → Nat} (hS1 : TS1 cy ws e0 es ns nb ba sa so fa fp st en) (hb_fa : ∀ i, fa i < 2 ^ 32) (hb_fp : ∀ i, fp i < 2 ^ 31) (hb_st : ∀ i, st i ≤ 7) (hb_en : ∀ i, en i < 2 ^ 62) {kf fl q port far fpt ev : Nat} {ins : Bool} (hf0 : ws[kf]? = some (fE fl ins q port far fpt ev)) (hq : q < 256) (hport : port < 65536) (hfar : far < 2 ^ 32) (hfpt : fpt < 65536) (hev : ev ≤ 3) {b j : Nat} (hb9 : b < nb) (hj : j < ns) (hj2 : so j = b ∧ fa j = far ∧ fp j = fpt) (hno : ∀ i, i < j → (fun k => decide (so k = b ∧ fa k = far ∧ fp k = fpt)) i = false) : WR (S := Nat) l yX10_meetsSession cX10_meetsSession 6 (some .boolean) 3 0 0 64 [.ref tb, .ref (ba b), .ref fl] D cy ws (fun u_ => some (.int (bI (true)))) (fun k => ws[k]? = some (sE (sa j) (ba (so j)) (fa j) (fp j) (st j) (en j))) (fun k => ws.set k (sE (sa j) (ba (so j)) (fa j) (fp j) (if tg_nxt (st j) ev ins = 8 then st j else tg_nxt (st j) ev ins) (if tg_nxt (st j) ev ins = 8 then en j else T + tg_life (tg_nxt (st j) ev ins) q))) := by
  refine WRz (by decide) (lv0 := [(0, .ref tb), (1, .ref (ba b)), (2, .ref fl)]) rfl (Nat.le_of_ble_eq_true rfl) ?_
  intro p e s m args below meth c ls A Q S hnm hP hK hD hS hA hend hl
  have hx := S.1
  have hb := S.2.1
  have hown : s.vm.findClass RX10 = some m.cls := S.2.2.2.1
  have ht : ∀ w ∈ lw_g, w.before args s = true := fun w h => S.2.2.2.2 w (List.mem_cons_of_mem _ h)
  have hnb := hB.le
  have hns := hS1.le
  refine nv_iconst (k := 0) hx hb dX10_meetsSession_0 rfl ?_
  refine lv_istore_n (lv' := [(3, .int (nI 0)), (0, .ref tb), (1, .ref (ba b)), (2, .ref fl)]) hx hb dX10_meetsSession_1 rfl hl (by decide) rfl (fun ls hl => ?_)
  have L2 : ∀ (fu : Nat) (i : Nat), ns - i < fu → i ≤ j → ∀ ls : Array Slot, lv_has ls 6 [(0, .ref tb), (1, .ref (ba b)), (2, .ref fl), (3, .int (nI i))] → W p l e (rmw 3 0 0 64) s m args below meth c s.heap [] 0 0 Q (F0 m 2 ls []) := by
    intro fu
    induction fu with
    | zero => intro i h9; omega
    | succ fu ihh =>
      intro i hfu hi9 ls hl
      refine lv_iload_n hx hb dX10_meetsSession_2 rfl (lv_at hl 3 rfl) ?_
      refine lv_aload_n hx hb dX10_meetsSession_3 rfl (lv_at hl 0 rfl) ?_
      refine va_get (ci := 7) (C := RX10) (T := TX10) (N := 3) hx hb ht iFX10 hown hK hP kt hT rfl 1 (by decide) (ht _ kw1_114) (fun _ h9 => h9) rfl dX10_meetsSession_4 ?_
      refine ro_V S (c_Jx4a65c_size_8abf5 hLs) kw2_157 yv_Jx4a65c_size_8abf5 ⟨Nat.le_of_ble_eq_true rfl, Nat.le_of_ble_eq_true rfl⟩ hK hP (va_recv hK hP (ci := 0) (q0 := kc) rfl hLs) rfl hl.1 rfl (Nat.le_of_ble_eq_true rfl) dX10_meetsSession_7 ⟨(Nat.zero_le _), (Nat.zero_le _)⟩ ?_
      refine nv_icmp_ge (tgt := 89) hx hb dX10_meetsSession_10 (by decide) (by omega) (by omega) (fun h10 => ?_) (fun h10 => ?_)
      · skip
        refine nv_iconst (k := 0) hx hb dX10_meetsSession_89 rfl ?_
        exact absurd h10 (by omega)
      refine lv_aload_n hx hb dX10_meetsSession_13 rfl (lv_at hl 0 rfl) ?_
      refine va_get (ci := 7) (C := RX10) (T := TX10) (N := 3) hx hb ht iFX10 hown hK hP kt hT rfl 1 (by decide) (ht _ kw1_114) (fun _ h9 => h9) rfl dX10_meetsSession_14 ?_
      refine lv_iload_n hx hb dX10_meetsSession_17 rfl (lv_at hl 3 rfl) ?_
      refine ro_V S (c_getS hLs hS1 (i := i) (by omega)) kw2_161 yv_Jx4a65c_get_915e3 ⟨Nat.le_of_ble_eq_true rfl, Nat.le_of_ble_eq_true rfl⟩ hK hP (va_recv hK hP (ci := 0) (q0 := kc) rfl hLs) rfl hl.1 rfl (Nat.le_of_ble_eq_true rfl) dX10_meetsSession_18 ⟨(Nat.zero_le _), (Nat.zero_le _)⟩ ?_
      obtain ⟨k_1, hk_1⟩ := hS1.at (i := i) (by omega)
      have hk_1_fa := hb_fa i
      have hk_1_fp := hb_fp i
      have hk_1_st := hb_st i
      have hk_1_en := hb_en i
      have hk_1_so := hS1.own (i := i) (by omega)
      refine va_castS hx hb hown (ht _ kw2_184) (hK.1 5 _ rfl).2 (va_recv hK hP (ci := 5) (q0 := k_1) rfl hk_1) dX10_meetsSession_21 ?_
      refine lv_astore (lv' := [(4, .ref (sa i)), (0, .ref tb), (1, .ref (ba b)), (2, .ref fl), (3, .int (nI i))]) hx hb dX10_meetsSession_24 hl (by decide) rfl (fun ls hl => ?_)
      refine lv_aload hx hb dX10_meetsSession_26 (lv_at hl 0 rfl) ?_
      refine va_get (ci := 5) (C := RX7) (T := TX7) (N := 5) hx hb ht iFX7 hown hK hP k_1 hk_1 rfl 1 (by decide) (ht _ kw3_91) (fun _ h9 => h9) rfl dX10_meetsSession_28 ?_
      refine lv_aload_n hx hb dX10_meetsSession_31 rfl (lv_at hl 3 rfl) ?_
      refine va_get (ci := 3) (C := RX2) (T := TX2) (N := 6) hx hb ht iFX2 hown hK hP kf hf0 rfl 3 (by decide) (ht _ kw2_128) (fun _ h9 => h9) rfl dX10_meetsSession_32 ?_
      have J55 : ∀ v55 : Nat, v55 = (if fa i = far ∧ fp i = fpt then 1 else 0) → ∀ ls : Array Slot, lv_has ls 6 [(4, .ref (sa i)), (0, .ref tb), (1, .ref (ba b)), (2, .ref fl), (3, .int (nI i))] → W p l e (rmw 3 0 0 64) s m args below meth c s.heap [] 0 0 Q (F0 m 55 ls [.int (nI v55)]) := by
        intro v55 hv55 ls hl
        have hv5 : v55 ≤ 1 := by rw [hv55]; split <;> omega
        refine lv_istore (lv' := [(5, .int (nI v55)), (4, .ref (sa i)), (0, .ref tb), (1, .ref (ba b)), (2, .ref fl), (3, .int (nI i))]) hx hb dX10_meetsSession_55 hl (by decide) rfl (fun ls hl => ?_)
        refine lv_iload hx hb dX10_meetsSession_57 (lv_at hl 0 rfl) ?_
        refine nv_if_eq (tgt := 83) hx hb dX10_meetsSession_59 (by decide) (by omega) (fun h59 => ?_) (fun h59 => ?_)
        · skip
          refine lv_iinc (v := (nI (i + 1))) (lv' := [(3, .int (nI (i + 1))), (5, .int (nI v55)), (4, .ref (sa i)), (0, .ref tb), (1, .ref (ba b)), (2, .ref fl)]) hx hb dX10_meetsSession_83 hl (k := 5) rfl (nI_inc _ _) (by decide) rfl (fun ls hl => ?_)
          refine lv_goto (tgt := 2) hx hb dX10_meetsSession_86 (by decide) ?_
          exact ihh (i + 1) (by omega) (by have h9 : i ≠ j := (fun z => by subst z; first | (split at hv55 <;> omega) | exact h68 (by rw [hj2.1])); omega) ls (lv_sub hl [3, 4, 5, 0] rfl)
        refine lv_aload hx hb dX10_meetsSession_62 (lv_at hl 1 rfl) ?_
        refine va_get (ci := 5) (C := RX7) (T := TX7) (N := 5) hx hb ht iFX7 hown hK hP k_1 hk_1 rfl 0 (by decide) (ht _ kw3_88) (fun _ h9 => h9) rfl dX10_meetsSession_64 ?_
        refine lv_aload_n hx hb dX10_meetsSession_67 rfl (lv_at hl 3 rfl) ?_
        refine lv_acmp_ne (rx := some (ba (so i))) (ry := some (ba b)) (tgt := 83) hx hb dX10_meetsSession_68 (by decide) (fun h68 => ?_) (fun h68 => ?_)
        · skip
          refine lv_iinc (v := (nI (i + 1))) (lv' := [(3, .int (nI (i + 1))), (5, .int (nI v55)), (4, .ref (sa i)), (0, .ref tb), (1, .ref (ba b)), (2, .ref fl)]) hx hb dX10_meetsSession_83 hl (k := 5) rfl (nI_inc _ _) (by decide) rfl (fun ls hl => ?_)
          refine lv_goto (tgt := 2) hx hb dX10_meetsSession_86 (by decide) ?_
          exact ihh (i + 1) (by omega) (by have h9 : i ≠ j := (fun z => by subst z; first | (split at hv55 <;> omega) | exact h68 (by rw [hj2.1])); omega) ls (lv_sub hl [3, 4, 5, 0] rfl)
        refine lv_aload hx hb dX10_meetsSession_71 (lv_at hl 1 rfl) ?_
        refine lv_aload_n hx hb dX10_meetsSession_73 rfl (lv_at hl 4 rfl) ?_
        refine lv_aload_n hx hb dX10_meetsSession_74 rfl (lv_at hl 2 rfl) ?_
        refine va_get (ci := 7) (C := RX10) (T := TX10) (N := 3) hx hb ht iFX10 hown hK hP kt hT rfl 2 (by decide) (ht _ kw1_115) (fun _ h9 => h9) rfl dX10_meetsSession_75 ?_
        have ej : i = j := by
          rcases Nat.lt_or_ge i j with z | z
          · exact absurd ⟨hB.inj (hS1.own (by omega)) hb9 (sinj h68), by split at hv55 <;> omega, by split at hv55 <;> omega⟩ (of_decide_eq_false (hno i z))
          · omega
        subst ej
        refine wr_V S (c_X7_meet (kss := k_1) hk_1 (by omega) hf0 hq hport hfar hfpt hev (T := T)) kw2_185 yv_X7_meet ⟨Nat.le_of_ble_eq_true rfl, Nat.le_of_ble_eq_true rfl⟩ hK hP hD hS hA (va_recv hK hP (ci := 5) (q0 := k_1) rfl hk_1) rfl hl.1 rfl (Nat.le_of_ble_eq_true rfl) dX10_meetsSession_78 ⟨Nat.zero_le _, Nat.zero_le _⟩ (fun u1 H locs hu1 hP hD hS => ?_)
        refine W.eq (g2 := F0 m 81 ls []) rfl ?_
        refine nv_iconst (k := 1) hx hb dX10_meetsSession_81 rfl ?_
        exact hend k_1 (bI_t rfl) hk_1 hP hD hS dX10_meetsSession_82
      refine nv_icmp_new (tgt := 54) hx hb dX10_meetsSession_35 (by decide) (by omega) (by omega) (fun h35 => ?_) (fun h35 => ?_)
      · skip
        refine nv_iconst (k := 0) hx hb dX10_meetsSession_54 rfl ?_
        exact J55 (0) (by split <;> omega) ls (lv_sub hl [0, 1, 2, 3, 4] rfl)
      refine lv_aload hx hb dX10_meetsSession_38 (lv_at hl 0 rfl) ?_
      refine va_get (ci := 5) (C := RX7) (T := TX7) (N := 5) hx hb ht iFX7 hown hK hP k_1 hk_1 rfl 2 (by decide) (ht _ kw3_94) (fun _ h9 => h9) rfl dX10_meetsSession_40 ?_
      refine lv_aload_n hx hb dX10_meetsSession_43 rfl (lv_at hl 3 rfl) ?_
      refine va_get (ci := 3) (C := RX2) (T := TX2) (N := 6) hx hb ht iFX2 hown hK hP kf hf0 rfl 4 (by decide) (ht _ kw2_132) (fun _ h9 => h9) rfl dX10_meetsSession_44 ?_
      refine nv_icmp_ne (tgt := 54) hx hb dX10_meetsSession_47 (by decide) (by omega) (by omega) (fun h47 => ?_) (fun h47 => ?_)
      · skip
        refine nv_iconst (k := 0) hx hb dX10_meetsSession_54 rfl ?_
        exact J55 (0) (by split <;> omega) ls (lv_sub hl [0, 1, 2, 3, 4] rfl)
      refine nv_iconst (k := 1) hx hb dX10_meetsSession_50 rfl ?_
      refine lv_goto (tgt := 55) hx hb dX10_meetsSession_51 (by decide) ?_
      exact J55 (1) (by split <;> omega) ls (lv_sub hl [0, 1, 2, 3, 4] rfl)
  exact L2 (ns + 1) 0 (by omega) (by omega) ls (lv_sub hl [1, 2, 3, 0] rfl)
theorem dX10_bind_0 : decode cX10_bind 0 = .ok (.aload_n 0, 1) := by decide +kernel
theorem dX10_bind_1 : decode cX10_bind 1 = .ok (.lload_n 2, 1) := by decide +kernel
theorem dX10_bind_2 : decode cX10_bind 2 = .ok (.lload 4, 2) := by decide +kernel
theorem dX10_bind_4 : decode cX10_bind 4 = .ok (.iload 6, 2) := by decide +kernel
theorem dX10_bind_6 : decode cX10_bind 6 = .ok (.invokevirtual 123, 3) := by decide +kernel
theorem dX10_bind_9 : decode cX10_bind 9 = .ok (.istore 7, 2) := by decide +kernel
theorem dX10_bind_11 : decode cX10_bind 11 = .ok (.aload_n 0, 1) := by decide +kernel
theorem dX10_bind_12 : decode cX10_bind 12 = .ok (.aload_n 1, 1) := by decide +kernel
theorem dX10_bind_13 : decode cX10_bind 13 = .ok (.iload 7, 2) := by decide +kernel
theorem dX10_bind_15 : decode cX10_bind 15 = .ok (.invokevirtual 127, 3) := by decide +kernel
theorem dX10_bind_18 : decode cX10_bind 18 = .ok (.istore 8, 2) := by decide +kernel
theorem dX10_bind_20 : decode cX10_bind 20 = .ok (.new 33, 3) := by decide +kernel
theorem dX10_bind_23 : decode cX10_bind 23 = .ok (.dup, 1) := by decide +kernel
theorem dX10_bind_24 : decode cX10_bind 24 = .ok (.aload_n 1, 1) := by decide +kernel
theorem dX10_bind_25 : decode cX10_bind 25 = .ok (.lload_n 2, 1) := by decide +kernel
theorem dX10_bind_26 : decode cX10_bind 26 = .ok (.lload 4, 2) := by decide +kernel
theorem dX10_bind_28 : decode cX10_bind 28 = .ok (.iload 7, 2) := by decide +kernel
theorem dX10_bind_30 : decode cX10_bind 30 = .ok (.iload 8, 2) := by decide +kernel
theorem dX10_bind_32 : decode cX10_bind 32 = .ok (.invokespecial 131, 3) := by decide +kernel
theorem dX10_bind_35 : decode cX10_bind 35 = .ok (.astore 9, 2) := by decide +kernel
theorem dX10_bind_37 : decode cX10_bind 37 = .ok (.aload_n 0, 1) := by decide +kernel
theorem dX10_bind_38 : decode cX10_bind 38 = .ok (.getfield 12, 3) := by decide +kernel
theorem dX10_bind_41 : decode cX10_bind 41 = .ok (.aload 9, 2) := by decide +kernel
theorem dX10_bind_43 : decode cX10_bind 43 = .ok (.invokevirtual 76, 3) := by decide +kernel
theorem dX10_bind_46 : decode cX10_bind 46 = .ok (.pop, 1) := by decide +kernel
theorem dX10_bind_47 : decode cX10_bind 47 = .ok (.aload 9, 2) := by decide +kernel
theorem dX10_bind_49 : decode cX10_bind 49 = .ok (.areturn, 1) := by decide +kernel
theorem yv_X10_bind : YV RX10 yX10_bind cX10_bind 10 (some (.object "TransitGate$Binding")) 4 := ⟨kw2_207, kws_7, kw1_6, kw2_208, by decide +kernel⟩
set_option maxHeartbeats 4000000 in
set_option maxRecDepth 100000 in
theorem c_X10_bind {l : Launch} {D : va_G} {cy : Nat → ClassId} {e0 : Nat × Nat} {ad : Nat → Nat} {tl dy : va_W} {eb es tp os bits F G u nb ns T M id : Nat} {mb mz : Int32} {ft fo : Nat → UInt8} {g : Nat → Int32} {dq ba sa pt ih il ip pn op so fa fp st en : Nat → Nat} (hDY : DY cy e0.1 dy eb es nb ns ba sa pt ih il ip pn op so fa fp st en) (hb_pt : ∀ i, pt i < 2 ^ 31) (hb_ih : ∀ i, ih i < 2 ^ 64) (hb_il : ∀ i, il i < 2 ^ 64) (hb_ip : ∀ i, ip i < 2 ^ 31) (hb_pn : ∀ i, pn i < 2 ^ 31) (hb_op : ∀ i, op i < 2 ^ 31) (hb_fa : ∀ i, fa i < 2 ^ 32) (hb_fp : ∀ i, fp i < 2 ^ 31) (hb_st : ∀ i, st i ≤ 7) (hb_en : ∀ i, en i < 2 ^ 62) {kf fl q port far fpt ev : Nat} {ins : Bool} (hfd : dy[kf]? = some (fE fl ins q port far fpt ev)) (hq : q < 256) (hport : port < 65536) (hfar : far < 2 ^ 32) (hfpt : fpt < 65536) (hev : ev ≤ 3) (hb_pn4 : ∀ i, pn i < 4) {hi lo : Nat} (hhi : hi < 2 ^ 64) (hlo : lo < 2 ^ 64) {u9 : Nat} (hu0 : 1 ≤ u9) (hu4 : u9 ≤ 4) (hnb0 : nb < 64) : WRX (S := (Nat × Nat × va_W)) l yX10_bind cX10_bind 10 (some (.object "TransitGate$Binding")) 7 2 306 161 [.ref (ad 8), .ref fl, .long (lN (hi)), .long (lN (lo)), .int (nI u9)] D cy e0 ((cW cy ad eb es mb mz tp os bits F G u nb ns T M id ft fo g dq ++ tl) ++ dy) (fun u_ => some (va_rf (some u_.1))) (fun z9 => DY cy e0.1 z9.2.2 z9.2.1 es (nb + 1) ns (va_up ba nb z9.1) sa (va_up pt nb q) (va_up ih nb hi) (va_up il nb lo) (va_up ip nb port) (va_up pn nb (tg_best ih il pn nb u9 hi lo)) (va_up op nb (tg_port pt pn op nb q (tg_best ih il pn nb u9 hi lo) port)) so fa fp st en ∧ z9.2.2[kf]? = some (fE fl ins q port far fpt ev)) (fun z9 => (cW cy ad z9.2.1 es (mb + nI 1) mz tp os bits F G u (nb + 1) ns T M id ft fo g dq ++ tl) ++ z9.2.2) := by
  refine WRXr (by first | exact Or.inl ⟨_, rfl⟩ | exact Or.inr ⟨_, rfl⟩) (by decide) (lv0 := [(0, .ref (ad 8)), (1, .ref fl), (2, .long (lN (hi))), (4, .long (lN (lo))), (6, .int (nI u9))]) rfl (Nat.le_of_ble_eq_true rfl) ?_
  intro p e s m args below meth c ls A Q S hnm hP hK hD hS hA hE hend hl
  have hx := S.1
  have hb := S.2.1
  have hown : s.vm.findClass RX10 = some m.cls := S.2.2.2.1
  have ht : ∀ w ∈ lw_g, w.before args s = true := fun w h => S.2.2.2.2 w (List.mem_cons_of_mem _ h)
  have hP : va_P D vwCl ((cW cy ad eb es mb mz tp os bits F G u nb ns T M id ft fo g dq ++ tl) ++ dy) s.heap := hP
  have hT : ((cW cy ad eb es mb mz tp os bits F G u nb ns T M id ft fo g dq ++ tl) ++ dy)[8]? = some (tE (ad 8) (ad 9) (ad 10) T) := rfl
  have hLb : ((cW cy ad eb es mb mz tp os bits F G u nb ns T M id ft fo g dq ++ tl) ++ dy)[9]? = some (aL (ad 9) mb eb nb) := rfl
  have hLs : ((cW cy ad eb es mb mz tp os bits F G u nb ns T M id ft fo g dq ++ tl) ++ dy)[10]? = some (aL (ad 10) mz es ns) := rfl
  have hB : TB1 cy ((cW cy ad eb es mb mz tp os bits F G u nb ns T M id ft fo g dq ++ tl) ++ dy) e0.1 eb nb ba pt ih il ip pn op := hDY.1.app
  have hS1 : TS1 cy ((cW cy ad eb es mb mz tp os bits F G u nb ns T M id ft fo g dq ++ tl) ++ dy) e0.1 es ns nb ba sa so fa fp st en := hDY.2.1.app
  have hf0 : ((cW cy ad eb es mb mz tp os bits F G u nb ns T M id ft fo g dq ++ tl) ++ dy)[(cW cy ad eb es mb mz tp os bits F G u nb ns T M id ft fo g dq ++ tl).length + kf]? = some (fE fl ins q port far fpt ev) := app_r hfd
  have hnb := hB.le
  have hns := hS1.le
  refine lv_aload_n hx hb dX10_bind_0 rfl (lv_at hl 0 rfl) ?_
  refine lv_lload_n hx hb dX10_bind_1 rfl (lv_at hl 2 rfl) ?_
  refine lv_lload hx hb dX10_bind_2 (lv_at hl 3 rfl) ?_
  refine lv_iload hx hb dX10_bind_4 (lv_at hl 4 rfl) ?_
  refine ro_V S (c_X10_numberFor hT hLb hB hb_pt hb_ih hb_il hb_ip hb_pn hb_op (hi := hi) (lo := lo) (u := u9) (by omega) (by omega) (by omega) (by omega)) kw2_209 yv_X10_numberFor ⟨Nat.le_of_ble_eq_true rfl, Nat.le_of_ble_eq_true rfl⟩ hK hP (va_recv hK hP (ci := 7) (q0 := 8) rfl rfl) rfl hl.1 rfl (Nat.le_of_ble_eq_true rfl) dX10_bind_6 ⟨(by show _ ≤ 2; omega), (by show _ ≤ 306; omega)⟩ ?_
  have hnum := tg_best_lt (ih := ih) (il := il) (nb := nb) (hi := hi) (lo := lo) hb_pn4 hu0 hu4
  refine lv_istore (lv' := [(7, .int (nI (tg_best ih il pn nb u9 hi lo))), (0, .ref (ad 8)), (1, .ref fl), (2, .long (lN (hi))), (4, .long (lN (lo))), (6, .int (nI u9))]) hx hb dX10_bind_9 hl (by decide) rfl (fun ls hl => ?_)
  refine lv_aload_n hx hb dX10_bind_11 rfl (lv_at hl 1 rfl) ?_
  refine lv_aload_n hx hb dX10_bind_12 rfl (lv_at hl 2 rfl) ?_
  refine lv_iload hx hb dX10_bind_13 (lv_at hl 0 rfl) ?_
  refine ro_V S (c_X10_freePort hT hLb hB hb_pt hb_ih hb_il hb_ip hb_pn hb_op hf0 hq hport hfar hfpt hev (num := tg_best ih il pn nb u9 hi lo) (by omega) (by omega)) kw2_217 yv_X10_freePort ⟨Nat.le_of_ble_eq_true rfl, Nat.le_of_ble_eq_true rfl⟩ hK hP (va_recv hK hP (ci := 7) (q0 := 8) rfl rfl) rfl hl.1 rfl (Nat.le_of_ble_eq_true rfl) dX10_bind_15 ⟨(by show _ ≤ 2; omega), (by show _ ≤ 306; omega)⟩ ?_
  refine lv_istore (lv' := [(8, .int (nI (tg_port pt pn op nb q (tg_best ih il pn nb u9 hi lo) port))), (7, .int (nI (tg_best ih il pn nb u9 hi lo))), (0, .ref (ad 8)), (1, .ref fl), (2, .long (lN (hi))), (4, .long (lN (lo))), (6, .int (nI u9))]) hx hb dX10_bind_18 hl (by decide) rfl (fun ls hl => ?_)
  refine va_new (ci := 1) (fs := [.int 0, .long 0, .long 0, .int 0, .int 0, .int 0]) (C := RX0) (T := TX0) (N := 6) hx hb ht iFX0 tyX0 tyX0_ok hown (ht _ kw2_175) (ht _ kw2_228) (ht _ kw1_18) hK hP hD hS hA rfl (fun j hj => by rcases (show j = 0 ∨ j = 1 ∨ j = 2 ∨ j = 3 ∨ j = 4 ∨ j = 5 by omega) with rfl | rfl | rfl | rfl | rfl | rfl <;> rfl) (by show _ ≤ 2; omega) (by show _ ≤ 306; omega) dX10_bind_20 (fun o_1 H hP hD hS => ?_)
  have hfr9 := app_new hD
  refine lv_dup hx hb dX10_bind_23 rfl ?_
  refine lv_aload_n hx hb dX10_bind_24 rfl (lv_at hl 3 rfl) ?_
  refine lv_lload_n hx hb dX10_bind_25 rfl (lv_at hl 4 rfl) ?_
  refine lv_lload hx hb dX10_bind_26 (lv_at hl 5 rfl) ?_
  refine lv_iload hx hb dX10_bind_28 (lv_at hl 1 rfl) ?_
  refine lv_iload hx hb dX10_bind_30 (lv_at hl 0 rfl) ?_
  refine wr_I S (c_X0_init (w0 := (cW cy ad eb es mb mz tp os bits F G u nb ns T M id ft fo g dq ++ tl) ++ dy) (x9 := o_1) hf0 hq hport hfar hfpt hev (hi := hi) (lo := lo) (num := tg_best ih il pn nb u9 hi lo) (v := tg_port pt pn op nb q (tg_best ih il pn nb u9 hi lo) port)) kw2_229 yv_X0_init ⟨Nat.le_of_ble_eq_true rfl, Nat.le_of_ble_eq_true rfl⟩ hK hP hD hS hA rfl hl.1 rfl (Nat.le_of_ble_eq_true rfl) dX10_bind_32 ⟨(by show _ ≤ 2; omega), (by show _ ≤ 306; omega)⟩ (fun u32 H locs hu32 hP hD hS => ?_)
  rw [List.append_assoc] at hP hD
  have hP : va_P D vwCl ((cW cy ad eb es mb mz tp os bits F G u nb ns T M id ft fo g dq ++ tl) ++ (dy ++ [bE o_1 q hi lo port (tg_best ih il pn nb u9 hi lo) (tg_port pt pn op nb q (tg_best ih il pn nb u9 hi lo) port)])) H := hP
  have hD : va_D A ((cW cy ad eb es mb mz tp os bits F G u nb ns T M id ft fo g dq ++ tl) ++ (dy ++ [bE o_1 q hi lo port (tg_best ih il pn nb u9 hi lo) (tg_port pt pn op nb q (tg_best ih il pn nb u9 hi lo) port)])) := hD
  refine W.eq (g2 := F0 m 35 ls [.ref o_1]) rfl ?_
  refine lv_astore (lv' := [(9, .ref o_1), (8, .int (nI (tg_port pt pn op nb q (tg_best ih il pn nb u9 hi lo) port))), (7, .int (nI (tg_best ih il pn nb u9 hi lo))), (0, .ref (ad 8)), (1, .ref fl), (2, .long (lN (hi))), (4, .long (lN (lo))), (6, .int (nI u9))]) hx hb dX10_bind_35 hl (by decide) rfl (fun ls hl => ?_)
  refine lv_aload_n hx hb dX10_bind_37 rfl (lv_at hl 3 rfl) ?_
  refine va_get (ci := 7) (C := RX10) (T := TX10) (N := 3) hx hb ht iFX10 hown hK hP 8 rfl rfl 0 (by decide) (ht _ kw1_113) (fun _ h9 => h9) rfl dX10_bind_38 ?_
  refine lv_aload hx hb dX10_bind_41 (lv_at hl 0 rfl) ?_
  have hDx : DY cy e0.1 (dy ++ [bE o_1 q hi lo port (tg_best ih il pn nb u9 hi lo) (tg_port pt pn op nb q (tg_best ih il pn nb u9 hi lo) port)]) eb es nb ns ba sa pt ih il ip pn op so fa fp st en := hDY.ext
  have he9 := e0_outr hE hD
  obtain ⟨Nx, fx, hADx, hnx, h3x, h4x⟩ := hDx.1
  refine wx_V S (c_add (pre := (cW cy ad eb es mb mz tp os bits F G u nb ns T M id ft fo g dq ++ tl)) (dy := dy ++ [bE o_1 q hi lo port (tg_best ih il pn nb u9 hi lo) (tg_port pt pn op nb q (tg_best ih il pn nb u9 hi lo) port)]) (kl := 9) rfl hADx (by omega) (TB1.obj (N := Nx) h3x) (ci := 1) rfl (Or.inl rfl) (by decide) (kx := dy.length) app_e) kw3_27 yv_Jx4a65c_add_9ea2d ⟨Nat.le_of_ble_eq_true rfl, Nat.le_of_ble_eq_true rfl⟩ hK hP hD hS hA hE (va_recv hK hP (ci := 0) (q0 := 9) rfl rfl) rfl hl.1 rfl (Nat.le_of_ble_eq_true rfl) dX10_bind_43 ⟨(by show _ ≤ 2; omega), (by show _ ≤ 306; omega)⟩ (fun u43 H locs hu43 hP hD hS => ?_)
  have hP : va_P D vwCl ((cW cy ad u43.1 es (mb + nI 1) mz tp os bits F G u (nb + 1) ns T M id ft fo g dq ++ tl) ++ u43.2.2.2) H := hP
  have hD : va_D A ((cW cy ad u43.1 es (mb + nI 1) mz tp os bits F G u (nb + 1) ns T M id ft fo g dq ++ tl) ++ u43.2.2.2) := hD
  have hDY_2 : DY cy e0.1 u43.2.2.2 u43.1 es (nb + 1) ns (va_up ba nb o_1) sa (va_up pt nb q) (va_up ih nb hi) (va_up il nb lo) (va_up ip nb port) (va_up pn nb (tg_best ih il pn nb u9 hi lo)) (va_up op nb (tg_port pt pn op nb q (tg_best ih il pn nb u9 hi lo) port)) so fa fp st en := ⟨TB1.add (N := Nx) h3x h4x (by omega) app_e (hB.fresh hfr9) hu43, (hDx.2.1.kp hu43.2.2.2.2.2.2.1 (fun e => by rw [← e]; exact hDx.2.2 e) he9).more, DY.ne_add hDx (fun _ h9 => h9) hu43⟩
  have hfd_3 : (u43.2.2.2)[kf]? = some (fE fl ins q port far fpt ev) := hu43.2.2.2.2.2.2.1 kf _ (app_l hfd) (Or.inl ⟨_, rfl⟩)
  have hT : ((cW cy ad u43.1 es (mb + nI 1) mz tp os bits F G u (nb + 1) ns T M id ft fo g dq ++ tl) ++ u43.2.2.2)[8]? = some (tE (ad 8) (ad 9) (ad 10) T) := rfl
  have hLb : ((cW cy ad u43.1 es (mb + nI 1) mz tp os bits F G u (nb + 1) ns T M id ft fo g dq ++ tl) ++ u43.2.2.2)[9]? = some (aL (ad 9) (mb + nI 1) u43.1 (nb + 1)) := rfl
  have hLs : ((cW cy ad u43.1 es (mb + nI 1) mz tp os bits F G u (nb + 1) ns T M id ft fo g dq ++ tl) ++ u43.2.2.2)[10]? = some (aL (ad 10) mz es ns) := rfl
  have hB : TB1 cy ((cW cy ad u43.1 es (mb + nI 1) mz tp os bits F G u (nb + 1) ns T M id ft fo g dq ++ tl) ++ u43.2.2.2) e0.1 u43.1 (nb + 1) (va_up ba nb o_1) (va_up pt nb q) (va_up ih nb hi) (va_up il nb lo) (va_up ip nb port) (va_up pn nb (tg_best ih il pn nb u9 hi lo)) (va_up op nb (tg_port pt pn op nb q (tg_best ih il pn nb u9 hi lo) port)) := hDY_2.1.app
  have hS1 : TS1 cy ((cW cy ad u43.1 es (mb + nI 1) mz tp os bits F G u (nb + 1) ns T M id ft fo g dq ++ tl) ++ u43.2.2.2) e0.1 es ns (nb + 1) (va_up ba nb o_1) sa so fa fp st en := hDY_2.2.1.app
  have hf0 : ((cW cy ad u43.1 es (mb + nI 1) mz tp os bits F G u (nb + 1) ns T M id ft fo g dq ++ tl) ++ u43.2.2.2)[(cW cy ad u43.1 es (mb + nI 1) mz tp os bits F G u (nb + 1) ns T M id ft fo g dq ++ tl).length + kf]? = some (fE fl ins q port far fpt ev) := app_r hfd_3
  refine W.eq (g2 := F0 m 46 ls [.int (bI (true))]) rfl ?_
  refine lv_pop hx hb dX10_bind_46 rfl ?_
  refine lv_aload hx hb dX10_bind_47 (lv_at hl 0 rfl) ?_
  refine W.widen (k := 2) (n := 306) (by omega) (by omega) ?_
  exact hend (o_1, u43.1, u43.2.2.2) rfl ⟨hDY_2, hfd_3⟩ hP hD hS dX10_bind_49
