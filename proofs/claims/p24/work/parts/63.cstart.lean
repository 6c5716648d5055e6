/-! THE CLASS: which type an action starts first -/
/-- -22: the action can't be; -6: it starts none -/
def SB (M : Mem) (k t n : Int) : Int := if RUi M k t n = 1 then -22 else STi M k t n
/-- an action's cell -/
def AcR (α : Sh) (μ : Mem) (a k t n v : Int) : Prop := α a = (1, 0) ∧ μ a 0 = k ∧ μ a 1 = t ∧ μ a 2 = n ∧ μ a 3 = v
theorem SB_f {M : Mem} {k t n : Int} (w : WFD M) (hk : k = 1 ∨ k = 2) (t0 : 0 ≤ t) (t1 : t < M 0 0) (h : FO M t n = -6) : SB M k t n = -22 := by
  have hf := (FO_m6 w t0 t1).mp h
  unfold SB
  rcases hk with rfl | rfl
  · rw [RUi_1, if_pos hf, if_pos rfl]
  · rw [RUi_2, if_pos hf, if_pos rfl]
theorem SB_p {M : Mem} {k t n u : Int} (w : WFD M) (hk : k = 1 ∨ k = 2) (t0 : 0 ≤ t) (t1 : t < M 0 0) (hu : u = FO M t n) (h : u ≠ -6) (hp : fK M u n = 1) : SB M k t n = u := by
  subst hu
  rcases FO_rng (nm := n) w t0 t1 with q | ⟨q1, q2, q3, q4⟩
  · exact absurd q h
  · unfold fK at hp
    rw [if_neg (by omega)] at hp
    have h8 : ¬ M 8 (FF M n t) = 1 := by
      intro q
      rw [q4] at q
      rw [if_pos q] at hp
      omega
    have hr : ¬ RUi M k t n = 1 := by
      rcases hk with rfl | rfl
      · rw [RUi_1, if_neg (by omega)]; decide
      · rw [RUi_2, if_neg (by omega), if_neg h8]; decide
    unfold SB STi
    rw [if_neg hr, if_neg hr, if_pos hk, if_neg h8]
    unfold FO
    rw [if_neg (by omega)]
theorem SB_c {M : Mem} {k t n u : Int} (w : WFD M) (hk : k = 1 ∨ k = 2) (t0 : 0 ≤ t) (t1 : t < M 0 0) (hu : u = FO M t n) (h : u ≠ -6) (hp : fK M u n ≠ 1) : SB M k t n = if k = 1 then -6 else -22 := by
  subst hu
  rcases FO_rng (nm := n) w t0 t1 with q | ⟨q1, q2, q3, q4⟩
  · exact absurd q h
  · have h8 : M 8 (FF M n t) = 1 := by
      apply Classical.byContradiction
      intro q
      apply hp
      unfold fK
      rw [if_neg (by omega), if_neg (by rw [← q4]; exact q)]
    have hff : ¬ FF M n t < 0 := by omega
    unfold SB STi
    rcases hk with rfl | rfl
    · have hr : RUi M 1 t n = 0 := by rw [RUi_1, if_neg hff]
      rw [hr, if_neg (by decide), if_neg (by decide), if_pos (Or.inl rfl), if_pos h8, if_pos rfl]
    · have hr : RUi M 2 t n = 1 := by rw [RUi_2, if_neg hff, if_pos h8]
      rw [hr, if_pos rfl, if_neg (by decide)]
theorem SB_3 {M : Mem} {t n : Int} : SB M 3 t n = if FM M n t < 0 then -22 else FM M n t / 5 := by
  unfold SB STi
  rw [RUi_3]
  by_cases h : FM M n t < 0
  · rw [if_pos h, if_pos rfl, if_pos h]
  · rw [if_neg h, if_neg (by decide), if_neg (by decide), if_neg (by decide), if_pos rfl, if_neg h]
theorem SB_4 {M : Mem} {t n : Int} : SB M 4 t n = if M 1 t = 1 ∨ M 2 t = 1 then -22 else t := by
  unfold SB STi
  rw [RUi_4]
  by_cases h : M 1 t = 1
  · rw [if_pos h, if_pos rfl, if_pos (Or.inl h)]
  · rw [if_neg h]
    by_cases h2 : M 2 t = 1
    · rw [if_pos h2, if_pos rfl, if_pos (Or.inr h2)]
    · rw [if_neg h2, if_neg (by decide), if_neg (by decide), if_neg (by decide), if_neg (by decide), if_pos (Or.inl rfl), if_neg (by omega)]
theorem SB_o {M : Mem} {k t n : Int} (h : k ≤ 0 ∨ 5 < k) : SB M k t n = -6 := by
  unfold SB STi
  rw [RUi_o M t n (by omega) (by omega) (by omega) (by omega), if_neg (by decide), if_neg (by decide), if_neg (by omega), if_neg (by omega), if_neg (by omega)]
theorem SB_5 {M : Mem} {t n : Int} : SB M 5 t n = t := by
  unfold SB STi
  rw [RUi_o M t n (by omega) (by omega) (by omega) (by omega), if_neg (by decide), if_neg (by decide), if_neg (by omega), if_neg (by omega), if_pos (Or.inr rfl)]
theorem tX2_startedByField {Γ : GC} {α : Sh} {μ : Mem} {a k t n v : Int} (ha0 : 0 ≤ a) (ha : AcR α μ a k t n v) (hs : a ≠ 112) {M : Mem} (w : WFD M) (D : DesR M α μ) (hk : k = 1 ∨ k = 2) (ht : 0 ≤ t ∧ t < M 0 0) (hn : 0 ≤ n ∧ n ≤ 9) : MT Γ yX2_startedByField cX2_startedByField 3 (some .int) 42 0 0 [(3, 110), (3, a)] α μ (QI fun r α1 μ1 => α1 = α ∧ SFm μ μ1 ∧ DesR M α μ1 ∧ r = SB M k t n) := by
  have hn0 := w.n
  refine MT_of (k := 1) [(3, 110), (3, a), (9, 0)] pn_X2_startedByField rfl rfl (fun ad0 => ?_)
  refine V_aload_n (q := 1) dX2_startedByField_0 rfl rfl rfl ?_
  refine V_aload_n (q := 2) dX2_startedByField_1 rfl rfl rfl ?_
  refine V_getI (q := 5) 1 dX2_startedByField_2 rfl flX2_86 (by omega) (congrArg Prod.fst (show _ = (1, 0) by rw [ha.1])) rfl rfl (fun z2 ez2 rz2 => ?_)
  rw [ha.2.2.1] at ez2
  obtain rfl : t = z2 := ez2.symm
  refine V_aload_n (q := 6) dX2_startedByField_5 rfl rfl rfl ?_
  refine V_getI (q := 9) 2 dX2_startedByField_6 rfl flX2_89 (by omega) (congrArg Prod.fst (show _ = (1, 0) by rw [ha.1])) rfl rfl (fun z6 ez6 rz6 => ?_)
  rw [ha.2.2.2.1] at ez6
  obtain rfl : n = z6 := ez6.symm
  refine V_chVi (q := 12) (As := [(0, t), (0, n)]) (tX2_fieldOwner w D ht hn) dX2_startedByField_9 rfl mlX2_103 mw_X2_fieldOwner im_X2_fieldOwner sl_X2_fieldOwner md_X2_fieldOwner rfl (by decide) (by decide) (congrArg Prod.fst (show _ = (3, 0) by rw [D.1.1.1])) rfl rfl (by decide) (by decide) (Nat.le_of_ble_eq_true rfl) (Nat.le_of_ble_eq_true rfl) (Nat.le_of_ble_eq_true rfl) (fun z9 rz9 A9 M9 xM9 hM9 => ?_)
  obtain ⟨hA, fM9, DM9, hz9⟩ := hM9
  replace hA := hA.symm
  subst hA
  refine V_istore_n (q := 13) (lv1 := [(3, 110), (3, a), (0, z9)]) dX2_startedByField_12 rfl rfl (by decide) rfl rfl ?_
  refine V_iload_n (q := 14) dX2_startedByField_13 rfl rfl rfl ?_
  refine V_bipush (q := 16) dX2_startedByField_14 rfl (by decide) ?_
  refine V_icmp_ne (q := 19) (tgt := 22) dX2_startedByField_16 (by decide) rfl (fun c16 => ?_) (fun c16 => ?_)
  · have hz0 : 0 ≤ z9 ∧ z9 < M 0 0 := by { rcases FO_rng (nm := n) w ht.1 ht.2 with q | q; · { omega }; · { omega } }
    obtain ⟨T, hT⟩ : ∃ T : Int, T = tk z9 := ⟨_, rfl⟩
    obtain ⟨kT, yT⟩ := DM9.2.2.1 z9 hz0.1 hz0.2
    rw [← hT] at kT
    unfold TypR at yT
    rw [← hT] at yT
    replace hT : T = 1000 * (z9 + 1) := hT
    have hfk := (yT.2.2.2.1 n hn.1 hn.2).1
    refine V_aload_n (q := 23) dX2_startedByField_22 rfl rfl rfl ?_
    refine V_getA (q := 26) 0 dX2_startedByField_23 rfl flX2_11 (by decide) (congrArg Prod.fst (show _ = (3, 0) by rw [D.1.1.1])) rfl rfl (fun z23 ez23 rz23 => ?_)
    rw [fM9 110 0 (by omega), D.1.2.1] at ez23
    obtain rfl : z23 = 111 := ez23
    refine V_iload_n (q := 27) dX2_startedByField_26 rfl rfl rfl ?_
    refine V_aald (q := 28) (n := 40) (ta := 23) (ci := 4) dX2_startedByField_27 rfl (by decide) (by rw [D.1.1.2.1]) rfl (by decide) (by omega) (fun z27 ez27 rz27 => ?_)
    rw [kT] at ez27
    obtain rfl : T = z27 := ez27.symm
    refine V_getA (q := 31) 6 dX2_startedByField_28 rfl flX2_62 (by omega) (congrArg Prod.fst (show _ = (5, 0) by rw [yT.1.1.1])) rfl rfl (fun z28 ez28 rz28 => ?_)
    rw [yT.1.2.2.1] at ez28
    obtain rfl : z28 = (T + 2) := ez28
    refine V_aload_n (q := 32) dX2_startedByField_31 rfl rfl rfl ?_
    refine V_getI (q := 35) 2 dX2_startedByField_32 rfl flX2_89 (by omega) (congrArg Prod.fst (show _ = (1, 0) by rw [ha.1])) rfl rfl (fun z32 ez32 rz32 => ?_)
    rw [fM9 a 2 hs, ha.2.2.2.1] at ez32
    obtain rfl : n = z32 := ez32.symm
    refine V_iald (q := 36) (n := 10) dX2_startedByField_35 rfl (by omega) (by rw [yT.1.1.2.2.1]) (by omega) (fun z35 ez35 rz35 => ?_)
    rw [hfk] at ez35
    refine V_iconst (q := 37) dX2_startedByField_36 rfl (by decide) ?_
    refine V_icmp_ne (q := 40) (tgt := 42) dX2_startedByField_37 (by decide) rfl (fun c37 => ?_) (fun c37 => ?_)
    · refine V_aload_n (q := 43) dX2_startedByField_42 rfl rfl rfl ?_
      refine V_getI (q := 46) 0 dX2_startedByField_43 rfl flX2_77 (by omega) (congrArg Prod.fst (show _ = (1, 0) by rw [ha.1])) rfl rfl (fun z43 ez43 rz43 => ?_)
      rw [fM9 a 0 hs, ha.2.1] at ez43
      obtain rfl : k = z43 := ez43.symm
      refine V_iconst (q := 47) dX2_startedByField_46 rfl (by decide) ?_
      refine V_icmp_ne (q := 50) (tgt := 55) dX2_startedByField_47 (by decide) rfl (fun c47 => ?_) (fun c47 => ?_)
      · refine V_bipush (q := 57) dX2_startedByField_55 rfl (by decide) ?_
        exact V_iret dX2_startedByField_57 (Nat.le_of_ble_eq_true rfl) (Nat.le_of_ble_eq_true rfl) ⟨_, rfl, rfl, fM9, DM9, by { rw [SB_c w hk ht.1 ht.2 hz9 (by omega) (by omega)]; first | rw [if_pos (by omega)] | rw [if_neg (by omega)] }⟩
      · refine V_bipush (q := 52) dX2_startedByField_50 rfl (by decide) ?_
        refine V_goto (tgt := 57) dX2_startedByField_52 (by decide) ?_
        exact V_iret dX2_startedByField_57 (Nat.le_of_ble_eq_true rfl) (Nat.le_of_ble_eq_true rfl) ⟨_, rfl, rfl, fM9, DM9, by { rw [SB_c w hk ht.1 ht.2 hz9 (by omega) (by omega)]; first | rw [if_pos (by omega)] | rw [if_neg (by omega)] }⟩
    · refine V_iload_n (q := 41) dX2_startedByField_40 rfl rfl rfl ?_
      exact V_iret dX2_startedByField_41 (Nat.le_of_ble_eq_true rfl) (Nat.le_of_ble_eq_true rfl) ⟨_, rfl, rfl, fM9, DM9, (SB_p w hk ht.1 ht.2 hz9 (by omega) (by omega)).symm⟩
  · refine V_bipush (q := 21) dX2_startedByField_19 rfl (by decide) ?_
    exact V_iret dX2_startedByField_21 (Nat.le_of_ble_eq_true rfl) (Nat.le_of_ble_eq_true rfl) ⟨_, rfl, rfl, fM9, DM9, by { rw [SB_f w hk ht.1 ht.2 (by omega)] }⟩
theorem tX2_startedBy {Γ : GC} {α : Sh} {μ : Mem} {a k t n v : Int} (ha0 : 0 ≤ a) (ha : AcR α μ a k t n v) (hs : a ≠ 112) {M : Mem} (w : WFD M) (D : DesR M α μ) (ht : 1 ≤ k → k ≤ 6 → 0 ≤ t ∧ t < M 0 0) (hn : 1 ≤ k → k ≤ 3 → 0 ≤ n ∧ n ≤ 9) : MT Γ yX2_startedBy cX2_startedBy 4 (some .int) 43 0 0 [(3, 110), (3, a)] α μ (QI fun r α1 μ1 => α1 = α ∧ SFm μ μ1 ∧ DesR M α μ1 ∧ r = SB M k t n) := by
  have hn0 := w.n
  refine MT_of (k := 2) [(3, 110), (3, a), (9, 0), (9, 0)] pn_X2_startedBy rfl rfl (fun ad0 => ?_)
  refine V_aload_n (q := 1) dX2_startedBy_0 rfl rfl rfl ?_
  refine V_getI (q := 4) 0 dX2_startedBy_1 rfl flX2_77 (by omega) (congrArg Prod.fst (show _ = (1, 0) by rw [ha.1])) rfl rfl (fun z1 ez1 rz1 => ?_)
  rw [ha.2.1] at ez1
  obtain rfl : k = z1 := ez1.symm
  rcases (show k = 1 ∨ k = 2 ∨ k = 3 ∨ k = 4 ∨ k = 5 ∨ (k ≠ 1 ∧ k ≠ 2 ∧ k ≠ 3 ∧ k ≠ 4 ∧ k ≠ 5) by omega) with c4 | c4 | c4 | c4 | c4 | c4
  · subst c4
    refine V_tswIn (tgt := 40) (off := 36) dX2_startedBy_4 (by decide) (by decide) rfl (by decide) ?_
    refine V_aload_n (q := 41) dX2_startedBy_40 rfl rfl rfl ?_
    refine V_aload_n (q := 42) dX2_startedBy_41 rfl rfl rfl ?_
    refine V_chVi (q := 45) (As := [(3, a)]) (tX2_startedByField ha0 ha hs w D (by decide) (ht (by decide) (by decide)) (hn (by decide) (by decide))) dX2_startedBy_42 rfl mlX2_82 mw_X2_startedByField im_X2_startedByField sl_X2_startedByField md_X2_startedByField rfl (by decide) (by decide) (congrArg Prod.fst (show _ = (3, 0) by rw [D.1.1.1])) rfl rfl (by decide) (by decide) (Nat.le_of_ble_eq_true rfl) (Nat.le_of_ble_eq_true rfl) (Nat.le_of_ble_eq_true rfl) (fun z42 rz42 A42 M42 xM42 hM42 => ?_)
    obtain ⟨hA, fM42, DM42, hz42⟩ := hM42
    replace hA := hA.symm
    subst hA
    exact V_iret dX2_startedBy_45 (Nat.le_of_ble_eq_true rfl) (Nat.le_of_ble_eq_true rfl) ⟨_, rfl, rfl, fM42, DM42, hz42⟩
  · subst c4
    refine V_tswIn (tgt := 40) (off := 36) dX2_startedBy_4 (by decide) (by decide) rfl (by decide) ?_
    refine V_aload_n (q := 41) dX2_startedBy_40 rfl rfl rfl ?_
    refine V_aload_n (q := 42) dX2_startedBy_41 rfl rfl rfl ?_
    refine V_chVi (q := 45) (As := [(3, a)]) (tX2_startedByField ha0 ha hs w D (by decide) (ht (by decide) (by decide)) (hn (by decide) (by decide))) dX2_startedBy_42 rfl mlX2_82 mw_X2_startedByField im_X2_startedByField sl_X2_startedByField md_X2_startedByField rfl (by decide) (by decide) (congrArg Prod.fst (show _ = (3, 0) by rw [D.1.1.1])) rfl rfl (by decide) (by decide) (Nat.le_of_ble_eq_true rfl) (Nat.le_of_ble_eq_true rfl) (Nat.le_of_ble_eq_true rfl) (fun z42_2 rz42_2 A42_2 M42_2 xM42_2 hM42_2 => ?_)
    obtain ⟨hA, fM42_2, DM42_2, hz42_2⟩ := hM42_2
    replace hA := hA.symm
    subst hA
    exact V_iret dX2_startedBy_45 (Nat.le_of_ble_eq_true rfl) (Nat.le_of_ble_eq_true rfl) ⟨_, rfl, rfl, fM42_2, DM42_2, hz42_2⟩
  · subst c4
    refine V_tswIn (tgt := 46) (off := 42) dX2_startedBy_4 (by decide) (by decide) rfl (by decide) ?_
    refine V_aload_n (q := 47) dX2_startedBy_46 rfl rfl rfl ?_
    refine V_aload_n (q := 48) dX2_startedBy_47 rfl rfl rfl ?_
    refine V_getI (q := 51) 1 dX2_startedBy_48 rfl flX2_86 (by omega) (congrArg Prod.fst (show _ = (1, 0) by rw [ha.1])) rfl rfl (fun z48 ez48 rz48 => ?_)
    rw [ha.2.2.1] at ez48
    obtain rfl : t = z48 := ez48.symm
    refine V_aload_n (q := 52) dX2_startedBy_51 rfl rfl rfl ?_
    refine V_getI (q := 55) 2 dX2_startedBy_52 rfl flX2_89 (by omega) (congrArg Prod.fst (show _ = (1, 0) by rw [ha.1])) rfl rfl (fun z52 ez52 rz52 => ?_)
    rw [ha.2.2.2.1] at ez52
    obtain rfl : n = z52 := ez52.symm
    refine V_rdV (q := 58) (As := [(0, t), (0, n)]) (tX2_methodOwner w D (ht (by decide) (by decide)) (hn (by decide) (by decide))) dX2_startedBy_55 rfl mlX2_92 mw_X2_methodOwner im_X2_methodOwner sl_X2_methodOwner md_X2_methodOwner rfl (by decide) (by decide) (congrArg Prod.fst (show _ = (3, 0) by rw [D.1.1.1])) rfl rfl (by decide) (by decide) (Nat.le_of_ble_eq_true rfl) (Nat.le_of_ble_eq_true rfl) (Nat.le_of_ble_eq_true rfl) (fun z55 rz55 hz55 => ?_)
    refine V_istore_n (q := 59) (lv1 := [(3, 110), (3, a), (0, z55), (9, 0)]) dX2_startedBy_58 rfl rfl (by decide) rfl rfl ?_
    refine V_iload_n (q := 60) dX2_startedBy_59 rfl rfl rfl ?_
    refine V_bipush (q := 62) dX2_startedBy_60 rfl (by decide) ?_
    refine V_icmp_ne (q := 65) (tgt := 70) dX2_startedBy_62 (by decide) rfl (fun c62 => ?_) (fun c62 => ?_)
    · refine V_iload_n (q := 71) dX2_startedBy_70 rfl rfl rfl ?_
      exact V_iret dX2_startedBy_71 (Nat.le_of_ble_eq_true rfl) (Nat.le_of_ble_eq_true rfl) ⟨_, rfl, rfl, SFm.rf, D, by { rw [SB_3]; (repeat' split at hz55) <;> (repeat' split) <;> omega }⟩
    · refine V_bipush (q := 67) dX2_startedBy_65 rfl (by decide) ?_
      refine V_goto (tgt := 71) dX2_startedBy_67 (by decide) ?_
      exact V_iret dX2_startedBy_71 (Nat.le_of_ble_eq_true rfl) (Nat.le_of_ble_eq_true rfl) ⟨_, rfl, rfl, SFm.rf, D, by { rw [SB_3]; (repeat' split at hz55) <;> (repeat' split) <;> omega }⟩
  · subst c4
    refine V_tswIn (tgt := 72) (off := 68) dX2_startedBy_4 (by decide) (by decide) rfl (by decide) ?_
    obtain ⟨T, hT⟩ : ∃ T : Int, T = tk t := ⟨_, rfl⟩
    obtain ⟨kT, yT⟩ := D.2.2.1 t (ht (by decide) (by decide)).1 (ht (by decide) (by decide)).2
    rw [← hT] at kT
    unfold TypR at yT
    rw [← hT] at yT
    replace hT : T = 1000 * (t + 1) := hT
    refine V_aload_n (q := 73) dX2_startedBy_72 rfl rfl rfl ?_
    refine V_getA (q := 76) 0 dX2_startedBy_73 rfl flX2_11 (by decide) (congrArg Prod.fst (show _ = (3, 0) by rw [D.1.1.1])) rfl rfl (fun z73 ez73 rz73 => ?_)
    rw [D.1.2.1] at ez73
    obtain rfl : z73 = 111 := ez73
    refine V_aload_n (q := 77) dX2_startedBy_76 rfl rfl rfl ?_
    refine V_getI (q := 80) 1 dX2_startedBy_77 rfl flX2_86 (by omega) (congrArg Prod.fst (show _ = (1, 0) by rw [ha.1])) rfl rfl (fun z77 ez77 rz77 => ?_)
    rw [ha.2.2.1] at ez77
    obtain rfl : t = z77 := ez77.symm
    refine V_aald (q := 81) (n := 40) (ta := 23) (ci := 4) dX2_startedBy_80 rfl (by decide) (by rw [D.1.1.2.1]) rfl (by decide) (by omega) (fun z80 ez80 rz80 => ?_)
    rw [kT] at ez80
    obtain rfl : T = z80 := ez80.symm
    refine V_astore_n (q := 82) (lv1 := [(3, 110), (3, a), (9, 0), (3, T)]) dX2_startedBy_81 rfl rfl (by decide) rfl rfl ?_
    refine V_aload_n (q := 83) dX2_startedBy_82 rfl rfl rfl ?_
    refine V_getZ (q := 86) 0 dX2_startedBy_83 rfl flX2_96 (by omega) (congrArg Prod.fst (show _ = (5, 0) by rw [yT.1.1.1])) rfl rfl (fun z83 ez83 rz83 => ?_)
    rw [yT.2.1.1] at ez83
    refine V_if_ne (q := 89) (tgt := 96) dX2_startedBy_86 (by decide) rfl (fun c86 => ?_) (fun c86 => ?_)
    · refine V_bipush (q := 98) dX2_startedBy_96 rfl (by decide) ?_
      refine V_goto (tgt := 105) dX2_startedBy_98 (by decide) ?_
      exact V_iret dX2_startedBy_105 (Nat.le_of_ble_eq_true rfl) (Nat.le_of_ble_eq_true rfl) ⟨_, rfl, rfl, SFm.rf, D, by { rw [SB_4]; split <;> omega }⟩
    · refine V_aload_n (q := 90) dX2_startedBy_89 rfl rfl rfl ?_
      refine V_getZ (q := 93) 1 dX2_startedBy_90 rfl flX2_100 (by omega) (congrArg Prod.fst (show _ = (5, 0) by rw [yT.1.1.1])) rfl rfl (fun z90 ez90 rz90 => ?_)
      rw [yT.2.1.2.1] at ez90
      refine V_if_eq (q := 96) (tgt := 101) dX2_startedBy_93 (by decide) rfl (fun c93 => ?_) (fun c93 => ?_)
      · refine V_aload_n (q := 102) dX2_startedBy_101 rfl rfl rfl ?_
        refine V_getI (q := 105) 1 dX2_startedBy_102 rfl flX2_86 (by omega) (congrArg Prod.fst (show _ = (1, 0) by rw [ha.1])) rfl rfl (fun z102 ez102 rz102 => ?_)
        rw [ha.2.2.1] at ez102
        obtain rfl : t = z102 := ez102.symm
        exact V_iret dX2_startedBy_105 (Nat.le_of_ble_eq_true rfl) (Nat.le_of_ble_eq_true rfl) ⟨_, rfl, rfl, SFm.rf, D, by { rw [SB_4]; split <;> omega }⟩
      · refine V_bipush (q := 98) dX2_startedBy_96 rfl (by decide) ?_
        refine V_goto (tgt := 105) dX2_startedBy_98 (by decide) ?_
        exact V_iret dX2_startedBy_105 (Nat.le_of_ble_eq_true rfl) (Nat.le_of_ble_eq_true rfl) ⟨_, rfl, rfl, SFm.rf, D, by { rw [SB_4]; split <;> omega }⟩
  · subst c4
    refine V_tswIn (tgt := 106) (off := 102) dX2_startedBy_4 (by decide) (by decide) rfl (by decide) ?_
    refine V_aload_n (q := 107) dX2_startedBy_106 rfl rfl rfl ?_
    refine V_getI (q := 110) 1 dX2_startedBy_107 rfl flX2_86 (by omega) (congrArg Prod.fst (show _ = (1, 0) by rw [ha.1])) rfl rfl (fun z107 ez107 rz107 => ?_)
    rw [ha.2.2.1] at ez107
    obtain rfl : t = z107 := ez107.symm
    exact V_iret dX2_startedBy_110 (Nat.le_of_ble_eq_true rfl) (Nat.le_of_ble_eq_true rfl) ⟨_, rfl, rfl, SFm.rf, D, SB_5.symm⟩
  · refine V_tswOut (tgt := 111) dX2_startedBy_4 (by omega) (by decide) ?_
    refine V_bipush (q := 113) dX2_startedBy_111 rfl (by decide) ?_
    exact V_iret dX2_startedBy_113 (Nat.le_of_ble_eq_true rfl) (Nat.le_of_ble_eq_true rfl) ⟨_, rfl, rfl, SFm.rf, D, (SB_o (by omega)).symm⟩
