/-! THE CLASS: act -/
theorem act_body {M : Mem} {α : Sh} {μ : Mem} {t nm T : Int} (w : WFD M) (D : DesR M α μ) (t0 : 0 ≤ t) (t1 : t < M 0 0) (hT : T = tk t) (h : 0 ≤ boT M t nm) : ∃ b B A : Int, ((nm = -1 ∧ b = 5 * t ∧ B = T + 5 ∧ A = T + 100) ∨ ((0 ≤ nm ∧ nm ≤ 9) ∧ 0 ≤ oM M t nm ∧ b = 5 * t + 1 + oM M t nm ∧ B = T + (20 + 2 * nm) ∧ A = T + (200 + 20 * nm))) ∧ boT M t nm = B ∧ BodR M b B A α μ ∧ bodyAt M t nm = b := by
  have hy := (D.2.2.1 t t0 t1).2
  unfold boT at h ⊢
  unfold bodyAt
  by_cases h1 : nm = -1
  · rw [if_pos h1, if_pos h1]
    exact ⟨_, T + 5, T + 100, Or.inl ⟨h1, rfl, rfl, rfl⟩, by rw [hT], by rw [hT]; exact hy.2.2.2.2.2, rfl⟩
  · rw [if_neg h1] at h ⊢
    rw [if_neg h1]
    by_cases h2 : 0 ≤ nm ∧ nm ≤ 9 ∧ 0 ≤ oM M t nm
    · rw [if_pos h2, if_neg (by omega)]
      exact ⟨_, T + (20 + 2 * nm), T + (200 + 20 * nm), Or.inr ⟨⟨h2.1, h2.2.1⟩, h2.2.2, rfl, rfl, rfl⟩, by rw [hT], by rw [hT]; exact ((hy.2.2.2.2.1 nm h2.1 h2.2.1).2 h2.2.2).2, rfl⟩
    · rw [if_neg h2] at h; omega
theorem act_nobody {M : Mem} {t nm : Int} (w : WFD M) (t0 : 0 ≤ t) (t1 : t < M 0 0) (h : boT M t nm < 0) : bodyAt M t nm < 0 := by
  have hk := tk_eq t
  unfold boT at h
  unfold bodyAt
  by_cases h1 : nm = -1
  · rw [if_pos h1] at h; omega
  · rw [if_neg h1] at h ⊢
    by_cases h2 : 0 ≤ nm ∧ nm ≤ 9 ∧ 0 ≤ oM M t nm
    · rw [if_pos h2] at h; omega
    · rw [if_pos]
      · decide
      · rcases oM_rng M t nm with q | ⟨q1, q2, q3⟩
        · omega
        · exfalso
          have := w.mname t (oM M t nm) t0 t1 q1 q2
          rw [q3] at this
          exact h2 ⟨this.1, this.2, q1⟩
theorem actM_X {M : Mem} {t nm k u n v : Int} : actM M t nm k u n v = if 0 ≤ actR M t nm k u n v then actX M (bodyAt M t nm) k u n v else M := rfl
theorem tX6_act {Γ : GC} {α : Sh} {μ : Mem} {t nm k u n v : Int} {M : Mem} (w : WFD M) (D : DesR M α μ) (B : BenR M α μ)  : MT Γ yX6_act cX6_act 8 (some .int) 2 1 4 [(3, 100), (0, t), (0, nm), (0, k), (0, u), (0, n), (0, v)] α μ (QI fun r α1 μ1 => r = actR M t nm k u n v ∧ MF α μ α1 μ1 ∧ DesR (actM M t nm k u n v) α1 μ1) := by
  have hn := w.n
  have hw := w.w
  refine MT_of (k := 1) [(3, 100), (0, t), (0, nm), (0, k), (0, u), (0, n), (0, v), (9, 0)] pn_X6_act rfl rfl (fun ad0 => ?_)
  have tail : ¬ (¬ (0 ≤ t ∧ t < M 0 0) ∨ ((1 ≤ k ∧ k ≤ 6) ∧ ¬ (0 ≤ u ∧ u < M 0 0))) → ((0 ≤ k ∧ k ≤ 8) ∧ (¬ (1 ≤ k ∧ k ≤ 3) ∨ (0 ≤ n ∧ n ≤ 9)) ∧ (k ≠ 7 ∨ (0 ≤ v ∧ v ≤ 19)) ∧ (k ≠ 8 ∨ (-1 ≤ v ∧ v ≤ 22))) → V Γ α ad0 (ZM Γ α ad0 (QI fun r α1 μ1 => r = actR M t nm k u n v ∧ MF α μ α1 μ1 ∧ DesR (actM M t nm k u n v) α1 μ1) 1 4) (RM 2 1 4) RX6 cX6_act 8 (some .int) yX6_act.name 69 [] [(3, 100), (0, t), (0, nm), (0, k), (0, u), (0, n), (0, v), (9, 0)] α μ 0 0 := by
    intro k1 k2
    refine V_aload_n (q := 70) dX6_act_69 rfl rfl rfl ?_
    refine V_getI (q := 73) 2 dX6_act_70 rfl flX6_22 (by decide) (congrArg Prod.fst (show _ = (7, 0) by rw [B.1.1.1])) rfl rfl (fun z70 ez70 rz70 => ?_)
    rw [B.2] at ez70
    refine V_if_le (q := 76) (tgt := 79) dX6_act_73 (by decide) rfl (fun c73 => ?_) (fun c73 => ?_)
    · have ht : 0 ≤ t ∧ t < M 0 0 := by omega
      obtain ⟨T, hT⟩ : ∃ T : Int, T = tk t := ⟨_, rfl⟩
      have eT := hT
      obtain ⟨kT, yT⟩ := D.2.2.1 t ht.1 ht.2
      rw [← hT] at kT
      unfold TypR at yT
      rw [← hT] at yT
      replace hT : T = 1000 * (t + 1) := hT
      refine V_aload_n (q := 80) dX6_act_79 rfl rfl rfl ?_
      refine V_getA (q := 83) 0 dX6_act_80 rfl flX6_10 (by decide) (congrArg Prod.fst (show _ = (7, 0) by rw [B.1.1.1])) rfl rfl (fun z80 ez80 rz80 => ?_)
      rw [B.1.2.1] at ez80
      obtain rfl : z80 = 110 := ez80
      refine V_getA (q := 86) 0 dX6_act_83 rfl flX6_35 (by decide) (congrArg Prod.fst (show _ = (3, 0) by rw [D.1.1.1])) rfl rfl (fun z83 ez83 rz83 => ?_)
      rw [D.1.2.1] at ez83
      obtain rfl : z83 = 111 := ez83
      refine V_iload_n (q := 87) dX6_act_86 rfl rfl rfl ?_
      refine V_aald (q := 88) (n := 40) (ta := 23) (ci := 4) dX6_act_87 rfl (by decide) (by rw [D.1.1.2.1]) rfl (by decide) (by omega) (fun z87 ez87 rz87 => ?_)
      rw [kT] at ez87
      obtain rfl : T = z87 := ez87.symm
      refine V_iload_n (q := 89) dX6_act_88 rfl rfl rfl ?_
      refine V_rdVA (q := 92) (As := [(0, nm)]) (tX4_bodyOf w D ht eT) dX6_act_89 rfl mlX6_114 mw_X4_bodyOf im_X4_bodyOf sl_X4_bodyOf md_X4_bodyOf rfl (by decide) (by omega) (congrArg Prod.fst (show _ = (5, 0) by rw [yT.1.1.1])) rfl rfl (by decide) (by decide) (Nat.le_of_ble_eq_true rfl) (Nat.le_of_ble_eq_true rfl) (Nat.le_of_ble_eq_true rfl) (fun z89 rz89 hz89 => ?_)
      refine V_astore (q := 94) (lv1 := [(3, 100), (0, t), (0, nm), (0, k), (0, u), (0, n), (0, v), (3, z89)]) dX6_act_92 rfl (by decide) rfl rfl ?_
      refine V_aload (q := 96) dX6_act_94 rfl rfl ?_
      refine V_ifnonnull (q := 99) (tgt := 102) dX6_act_96 (by decide) rfl (fun c96 => ?_) (fun c96 => ?_)
      · obtain ⟨b, B, A, hb, eB, hBod, hba⟩ := act_body (nm := nm) w D ht.1 ht.2 eT (by omega)
        have e9 : z89 = B := by { rw [hz89]; exact eB }
        have hbr : 5 * t ≤ b ∧ b < 5 * t + 5 := by { have := oM_rng M t nm; have := (w.cnt t ht.1 (by omega)).2.2; rcases hb with ⟨-, q, -⟩ | ⟨-, q0, q, -⟩ <;> omega }
        have hsz := w.size b (by omega) (by omega)
        have hBr : T + 4 < B ∧ B + 1 < T + 100 ∧ T + 100 ≤ A ∧ A + 12 ≤ T + 1000 := by { rcases hb with ⟨-, -, q, q2⟩ | ⟨q0, -, -, q, q2⟩ <;> omega }
        subst e9
        refine V_aload (q := 104) dX6_act_102 rfl rfl ?_
        refine V_getI (q := 107) 1 dX6_act_104 rfl flX6_118 (by omega) (congrArg Prod.fst (show _ = (2, 0) by rw [hBod.1.1])) rfl rfl (fun z104 ez104 rz104 => ?_)
        rw [hBod.2.1] at ez104
        refine V_bipush (q := 109) dX6_act_107 rfl (by decide) ?_
        refine V_icmp_lt (q := 112) (tgt := 117) dX6_act_109 (by decide) rfl (fun c109 => ?_) (fun c109 => ?_)
        · refine V_aload (q := 119) dX6_act_117 rfl rfl ?_
          obtain ⟨a, ha⟩ : ∃ a : Int, a = A + M 12 b := ⟨_, rfl⟩
          have ha9 : (α a).1 = 0 := by { rw [ha]; exact hBod.2.2.2 (M 12 b) (Int.le_refl _) (by omega) }
          refine V_new (q := 122) (ci := 0) a dX6_act_119 rfl ckX6_123 ha9 (by omega) (Nat.le_of_ble_eq_true rfl) (Nat.le_of_ble_eq_true rfl) (fun A119 M119 eA119 eM119 => ?_)
          refine V_dup (q := 123) dX6_act_122 rfl (show (3 : Nat) ≠ 2 by decide) ?_
          refine V_iload_n (q := 124) dX6_act_123 rfl rfl rfl ?_
          refine V_iload (q := 126) dX6_act_124 rfl rfl ?_
          refine V_iload (q := 128) dX6_act_126 rfl rfl ?_
          refine V_iload (q := 130) dX6_act_128 rfl rfl ?_
          refine V_chI (q := 133) (As := [(0, k), (0, u), (0, n), (0, v)]) (tX0_init (a := a) (by omega) (by rw [eA119, sa_s])) dX6_act_130 rfl mlX6_125 mw_X0_init im_X0_init rfl md_X0_init (by omega) rfl rfl (by decide) (by decide) (Nat.le_of_ble_eq_true rfl) (Nat.le_of_ble_eq_true rfl) (Nat.le_of_ble_eq_true rfl) (fun A9 M9 x9 h9 => ?_)
          obtain ⟨hAA, gA, f9⟩ := h9
          replace hAA := hAA.symm
          subst hAA
          have F9 : ∀ x, x ≠ a → M9 x = μ x := fun x hx => by rw [f9 x hx, eM119, mn_t _ _ _ hx]
          have fα : ∀ x, x ≠ a → A119 x = α x := fun x hx => by rw [eA119, sa_t _ _ _ hx]
          refine V_chVi (q := 136) (As := [(3, a)]) (tX1_append (B := z89) (a := a) (sz := M 12 b) (by omega) (by omega) ⟨by rw [fα z89 (by omega)]; exact hBod.1.1, by rw [fα (z89 + 1) (by omega)]; exact hBod.1.2.1, by rw [F9 z89 (by omega)]; exact hBod.1.2.2⟩ gA.1 (by rw [F9 z89 (by omega)]; exact hBod.2.1) (by omega)) dX6_act_133 rfl mlX6_128 mw_X1_append im_X1_append sl_X1_append md_X1_append rfl (by decide) (by omega) (congrArg Prod.fst (show _ = (2, 0) by rw [fα z89 (by omega)]; exact hBod.1.1)) rfl rfl (by decide) (by decide) (Nat.le_of_ble_eq_true rfl) (Nat.le_of_ble_eq_true rfl) (Nat.le_of_ble_eq_true rfl) (fun z8 r8 A8 M8 x8 h8 => ?_)
          obtain ⟨hAA, eM8, e8⟩ := h8
          replace hAA := hAA.symm
          subst hAA
          have hr : actR M t nm k u n v = M 12 b + 1 := by { unfold actR; rw [if_neg (by omega), if_neg (by omega), if_neg (by omega), hba, if_neg (by omega), if_neg (by omega)] }
          have fr : ∀ x i : Int, ¬ (x = a ∨ (x = z89 + 1 ∧ i = M 12 b) ∨ (x = z89 ∧ i = 1)) → M8 x i = μ x i := fun x i h => by rw [eM8, mu_ne (by omega), mu_ne (by omega), F9 x (by omega)]
          have gA8 : AcR A119 M8 a k u n v := by { have e : M8 a = M9 a := (by rw [eM8, mu_f _ _ _ _ (by omega), mu_f _ _ _ _ (by omega)]); unfold AcR; rw [e]; exact gA }
          have hmf : MF α μ A119 M8 := ⟨fun x hx => fα x (by omega), fun x hx h1 h2 h3 => funext fun i => fr x i (by omega)⟩
          have hw1 := WFD_ac (k := k) (u := u) (n := n) (v := v) w ht.1 ht.2 (b := b) (by { have := oM_rng M t nm; rcases hb with ⟨-, q, -⟩ | ⟨-, q0, q, -⟩; · { exact Or.inl q }; · { exact Or.inr ⟨oM M t nm, q0, by omega, q⟩ } }) (by omega) ⟨by omega, fun _ _ => by omega, fun _ _ => by omega, fun _ => by omega, fun _ => by omega⟩
          exact V_iret dX6_act_136 (Nat.le_of_ble_eq_true rfl) (Nat.le_of_ble_eq_true rfl) ⟨_, rfl, by rw [hr]; exact e8, hmf, by { rw [actM_X, hr, if_pos (by omega), hba]; exact DesR_ac w hw1 D ht.1 ht.2 eT hb ⟨hsz.1, by omega⟩ ha gA8 (by rw [eM8, mu_t _ _ _ _ (by omega), mu_s]) (by rw [eM8, mu_s]) fr fα }⟩
        · refine V_bipush (q := 114) dX6_act_112 rfl (by decide) ?_
          refine V_goto (tgt := 136) dX6_act_114 (by decide) ?_
          have hr : actR M t nm k u n v = (-4) := by { unfold actR; rw [if_neg (by omega), if_neg (by omega), if_neg (by omega), hba, if_neg (by omega), if_pos (by omega)] }
          exact V_iret dX6_act_136 (Nat.le_of_ble_eq_true rfl) (Nat.le_of_ble_eq_true rfl) ⟨_, rfl, hr.symm, MF.rf, by { rw [actM_X, hr, if_neg (by decide)]; exact D }⟩
      · refine V_bipush (q := 101) dX6_act_99 rfl (by decide) ?_
        have hr : actR M t nm k u n v = (-5) := by { unfold actR; rw [if_neg (by omega), if_neg (by omega), if_neg (by omega), if_pos (act_nobody w (by omega) (by omega) (by omega))] }
        exact V_iret dX6_act_101 (Nat.le_of_ble_eq_true rfl) (Nat.le_of_ble_eq_true rfl) ⟨_, rfl, hr.symm, MF.rf, by { rw [actM_X, hr, if_neg (by decide)]; exact D }⟩
    · refine V_bipush (q := 78) dX6_act_76 rfl (by decide) ?_
      have hr : actR M t nm k u n v = (-3) := by { unfold actR; rw [if_neg (by omega), if_neg (by omega), if_pos (by omega)] }
      exact V_iret dX6_act_78 (Nat.le_of_ble_eq_true rfl) (Nat.le_of_ble_eq_true rfl) ⟨_, rfl, hr.symm, MF.rf, by { rw [actM_X, hr, if_neg (by decide)]; exact D }⟩
  refine V_aload_n (q := 1) dX6_act_0 rfl rfl rfl ?_
  refine V_getA (q := 4) 0 dX6_act_1 rfl flX6_10 (by decide) (congrArg Prod.fst (show _ = (7, 0) by rw [B.1.1.1])) rfl rfl (fun z1 ez1 rz1 => ?_)
  rw [B.1.2.1] at ez1
  obtain rfl : z1 = 110 := ez1
  refine V_iload_n (q := 5) dX6_act_4 rfl rfl rfl ?_
  refine V_rdV (q := 8) (As := [(0, t)]) (tX2_knows D.1.1.1) dX6_act_5 rfl mlX6_31 mw_X2_knows im_X2_knows sl_X2_knows md_X2_knows rfl (by decide) (by decide) (congrArg Prod.fst (show _ = (3, 0) by rw [D.1.1.1])) rfl rfl (by decide) (by decide) (Nat.le_of_ble_eq_true rfl) (Nat.le_of_ble_eq_true rfl) (Nat.le_of_ble_eq_true rfl) (fun z5 rz5 hz5 => ?_)
  obtain ⟨bz5, hz5⟩ := hz5
  rw [D.2.1] at hz5
  refine V_if_eq (q := 11) (tgt := 30) dX6_act_8 (by decide) rfl (fun c8 => ?_) (fun c8 => ?_)
  · refine V_iconst (q := 31) dX6_act_30 rfl (by decide) ?_
    have hr : actR M t nm k u n v = (-1) := by { unfold actR; rw [if_pos (by omega)] }
    exact V_iret dX6_act_31 (Nat.le_of_ble_eq_true rfl) (Nat.le_of_ble_eq_true rfl) ⟨_, rfl, hr.symm, MF.rf, by { rw [actM_X, hr, if_neg (by decide)]; exact D }⟩
  · refine V_iload_n (q := 12) dX6_act_11 rfl rfl rfl ?_
    refine V_rdS (q := 15) (As := [(0, k)]) (tX6_usesType ) dX6_act_12 rfl mlX6_105 mw_X6_usesType sm_X6_usesType md_X6_usesType rfl rfl (by decide) (by decide) (Nat.le_of_ble_eq_true rfl) (Nat.le_of_ble_eq_true rfl) (Nat.le_of_ble_eq_true rfl) (fun z12 rz12 hz12 => ?_)
    obtain ⟨bz12, hz12⟩ := hz12
    refine V_if_eq (q := 18) (tgt := 32) dX6_act_15 (by decide) rfl (fun c15 => ?_) (fun c15 => ?_)
    · refine V_iload_n (q := 33) dX6_act_32 rfl rfl rfl ?_
      refine V_if_lt (q := 36) (tgt := 66) dX6_act_33 (by decide) rfl (fun c33 => ?_) (fun c33 => ?_)
      · refine V_bipush (q := 68) dX6_act_66 rfl (by decide) ?_
        have hr : actR M t nm k u n v = (-2) := by { unfold actR; rw [if_neg (by omega), if_pos (by omega)] }
        exact V_iret dX6_act_68 (Nat.le_of_ble_eq_true rfl) (Nat.le_of_ble_eq_true rfl) ⟨_, rfl, hr.symm, MF.rf, by { rw [actM_X, hr, if_neg (by decide)]; exact D }⟩
      · refine V_iload_n (q := 37) dX6_act_36 rfl rfl rfl ?_
        refine V_bipush (q := 39) dX6_act_37 rfl (by decide) ?_
        refine V_icmp_gt (q := 42) (tgt := 66) dX6_act_39 (by decide) rfl (fun c39 => ?_) (fun c39 => ?_)
        · refine V_bipush (q := 68) dX6_act_66 rfl (by decide) ?_
          have hr : actR M t nm k u n v = (-2) := by { unfold actR; rw [if_neg (by omega), if_pos (by omega)] }
          exact V_iret dX6_act_68 (Nat.le_of_ble_eq_true rfl) (Nat.le_of_ble_eq_true rfl) ⟨_, rfl, hr.symm, MF.rf, by { rw [actM_X, hr, if_neg (by decide)]; exact D }⟩
        · refine V_iload_n (q := 43) dX6_act_42 rfl rfl rfl ?_
          refine V_rdS (q := 46) (As := [(0, k)]) (tX6_usesName ) dX6_act_43 rfl mlX6_108 mw_X6_usesName sm_X6_usesName md_X6_usesName rfl rfl (by decide) (by decide) (Nat.le_of_ble_eq_true rfl) (Nat.le_of_ble_eq_true rfl) (Nat.le_of_ble_eq_true rfl) (fun z43 rz43 hz43 => ?_)
          obtain ⟨bz43, hz43⟩ := hz43
          refine V_if_eq (q := 49) (tgt := 57) dX6_act_46 (by decide) rfl (fun c46 => ?_) (fun c46 => ?_)
          · refine V_iload_n (q := 58) dX6_act_57 rfl rfl rfl ?_
            refine V_iload (q := 60) dX6_act_58 rfl rfl ?_
            refine V_rdS (q := 63) (As := [(0, k), (0, v)]) (tX6_fitsValue ) dX6_act_60 rfl mlX6_111 mw_X6_fitsValue sm_X6_fitsValue md_X6_fitsValue rfl rfl (by decide) (by decide) (Nat.le_of_ble_eq_true rfl) (Nat.le_of_ble_eq_true rfl) (Nat.le_of_ble_eq_true rfl) (fun z60 rz60 hz60 => ?_)
            obtain ⟨bz60, hz60⟩ := hz60
            refine V_if_ne (q := 66) (tgt := 69) dX6_act_63 (by decide) rfl (fun c63 => ?_) (fun c63 => ?_)
            · exact tail (by omega) (by omega)
            · refine V_bipush (q := 68) dX6_act_66 rfl (by decide) ?_
              have hr : actR M t nm k u n v = (-2) := by { unfold actR; rw [if_neg (by omega), if_pos (by omega)] }
              exact V_iret dX6_act_68 (Nat.le_of_ble_eq_true rfl) (Nat.le_of_ble_eq_true rfl) ⟨_, rfl, hr.symm, MF.rf, by { rw [actM_X, hr, if_neg (by decide)]; exact D }⟩
          · refine V_iload (q := 51) dX6_act_49 rfl rfl ?_
            refine V_rdS (q := 54) (As := [(0, n)]) (tX6_isName ) dX6_act_51 rfl mlX6_102 mw_X6_isName sm_X6_isName md_X6_isName rfl rfl (by decide) (by decide) (Nat.le_of_ble_eq_true rfl) (Nat.le_of_ble_eq_true rfl) (Nat.le_of_ble_eq_true rfl) (fun z51 rz51 hz51 => ?_)
            obtain ⟨bz51, hz51⟩ := hz51
            refine V_if_eq (q := 57) (tgt := 66) dX6_act_54 (by decide) rfl (fun c54 => ?_) (fun c54 => ?_)
            · refine V_bipush (q := 68) dX6_act_66 rfl (by decide) ?_
              have hr : actR M t nm k u n v = (-2) := by { unfold actR; rw [if_neg (by omega), if_pos (by omega)] }
              exact V_iret dX6_act_68 (Nat.le_of_ble_eq_true rfl) (Nat.le_of_ble_eq_true rfl) ⟨_, rfl, hr.symm, MF.rf, by { rw [actM_X, hr, if_neg (by decide)]; exact D }⟩
            · refine V_iload_n (q := 58) dX6_act_57 rfl rfl rfl ?_
              refine V_iload (q := 60) dX6_act_58 rfl rfl ?_
              refine V_rdS (q := 63) (As := [(0, k), (0, v)]) (tX6_fitsValue ) dX6_act_60 rfl mlX6_111 mw_X6_fitsValue sm_X6_fitsValue md_X6_fitsValue rfl rfl (by decide) (by decide) (Nat.le_of_ble_eq_true rfl) (Nat.le_of_ble_eq_true rfl) (Nat.le_of_ble_eq_true rfl) (fun z60_2 rz60_2 hz60_2 => ?_)
              obtain ⟨bz60_2, hz60_2⟩ := hz60_2
              refine V_if_ne (q := 66) (tgt := 69) dX6_act_63 (by decide) rfl (fun c63_2 => ?_) (fun c63_2 => ?_)
              · exact tail (by omega) (by omega)
              · refine V_bipush (q := 68) dX6_act_66 rfl (by decide) ?_
                have hr : actR M t nm k u n v = (-2) := by { unfold actR; rw [if_neg (by omega), if_pos (by omega)] }
                exact V_iret dX6_act_68 (Nat.le_of_ble_eq_true rfl) (Nat.le_of_ble_eq_true rfl) ⟨_, rfl, hr.symm, MF.rf, by { rw [actM_X, hr, if_neg (by decide)]; exact D }⟩
    · refine V_aload_n (q := 19) dX6_act_18 rfl rfl rfl ?_
      refine V_getA (q := 22) 0 dX6_act_19 rfl flX6_10 (by decide) (congrArg Prod.fst (show _ = (7, 0) by rw [B.1.1.1])) rfl rfl (fun z19 ez19 rz19 => ?_)
      rw [B.1.2.1] at ez19
      obtain rfl : z19 = 110 := ez19
      refine V_iload (q := 24) dX6_act_22 rfl rfl ?_
      refine V_rdV (q := 27) (As := [(0, u)]) (tX2_knows D.1.1.1) dX6_act_24 rfl mlX6_31 mw_X2_knows im_X2_knows sl_X2_knows md_X2_knows rfl (by decide) (by decide) (congrArg Prod.fst (show _ = (3, 0) by rw [D.1.1.1])) rfl rfl (by decide) (by decide) (Nat.le_of_ble_eq_true rfl) (Nat.le_of_ble_eq_true rfl) (Nat.le_of_ble_eq_true rfl) (fun z24 rz24 hz24 => ?_)
      obtain ⟨bz24, hz24⟩ := hz24
      rw [D.2.1] at hz24
      refine V_if_ne (q := 30) (tgt := 32) dX6_act_27 (by decide) rfl (fun c27 => ?_) (fun c27 => ?_)
      · refine V_iload_n (q := 33) dX6_act_32 rfl rfl rfl ?_
        refine V_if_lt (q := 36) (tgt := 66) dX6_act_33 (by decide) rfl (fun c33_2 => ?_) (fun c33_2 => ?_)
        · refine V_bipush (q := 68) dX6_act_66 rfl (by decide) ?_
          have hr : actR M t nm k u n v = (-2) := by { unfold actR; rw [if_neg (by omega), if_pos (by omega)] }
          exact V_iret dX6_act_68 (Nat.le_of_ble_eq_true rfl) (Nat.le_of_ble_eq_true rfl) ⟨_, rfl, hr.symm, MF.rf, by { rw [actM_X, hr, if_neg (by decide)]; exact D }⟩
        · refine V_iload_n (q := 37) dX6_act_36 rfl rfl rfl ?_
          refine V_bipush (q := 39) dX6_act_37 rfl (by decide) ?_
          refine V_icmp_gt (q := 42) (tgt := 66) dX6_act_39 (by decide) rfl (fun c39_2 => ?_) (fun c39_2 => ?_)
          · refine V_bipush (q := 68) dX6_act_66 rfl (by decide) ?_
            have hr : actR M t nm k u n v = (-2) := by { unfold actR; rw [if_neg (by omega), if_pos (by omega)] }
            exact V_iret dX6_act_68 (Nat.le_of_ble_eq_true rfl) (Nat.le_of_ble_eq_true rfl) ⟨_, rfl, hr.symm, MF.rf, by { rw [actM_X, hr, if_neg (by decide)]; exact D }⟩
          · refine V_iload_n (q := 43) dX6_act_42 rfl rfl rfl ?_
            refine V_rdS (q := 46) (As := [(0, k)]) (tX6_usesName ) dX6_act_43 rfl mlX6_108 mw_X6_usesName sm_X6_usesName md_X6_usesName rfl rfl (by decide) (by decide) (Nat.le_of_ble_eq_true rfl) (Nat.le_of_ble_eq_true rfl) (Nat.le_of_ble_eq_true rfl) (fun z43_2 rz43_2 hz43_2 => ?_)
            obtain ⟨bz43_2, hz43_2⟩ := hz43_2
            refine V_if_eq (q := 49) (tgt := 57) dX6_act_46 (by decide) rfl (fun c46_2 => ?_) (fun c46_2 => ?_)
            · refine V_iload_n (q := 58) dX6_act_57 rfl rfl rfl ?_
              refine V_iload (q := 60) dX6_act_58 rfl rfl ?_
              refine V_rdS (q := 63) (As := [(0, k), (0, v)]) (tX6_fitsValue ) dX6_act_60 rfl mlX6_111 mw_X6_fitsValue sm_X6_fitsValue md_X6_fitsValue rfl rfl (by decide) (by decide) (Nat.le_of_ble_eq_true rfl) (Nat.le_of_ble_eq_true rfl) (Nat.le_of_ble_eq_true rfl) (fun z60_3 rz60_3 hz60_3 => ?_)
              obtain ⟨bz60_3, hz60_3⟩ := hz60_3
              refine V_if_ne (q := 66) (tgt := 69) dX6_act_63 (by decide) rfl (fun c63_3 => ?_) (fun c63_3 => ?_)
              · exact tail (by omega) (by omega)
              · refine V_bipush (q := 68) dX6_act_66 rfl (by decide) ?_
                have hr : actR M t nm k u n v = (-2) := by { unfold actR; rw [if_neg (by omega), if_pos (by omega)] }
                exact V_iret dX6_act_68 (Nat.le_of_ble_eq_true rfl) (Nat.le_of_ble_eq_true rfl) ⟨_, rfl, hr.symm, MF.rf, by { rw [actM_X, hr, if_neg (by decide)]; exact D }⟩
            · refine V_iload (q := 51) dX6_act_49 rfl rfl ?_
              refine V_rdS (q := 54) (As := [(0, n)]) (tX6_isName ) dX6_act_51 rfl mlX6_102 mw_X6_isName sm_X6_isName md_X6_isName rfl rfl (by decide) (by decide) (Nat.le_of_ble_eq_true rfl) (Nat.le_of_ble_eq_true rfl) (Nat.le_of_ble_eq_true rfl) (fun z51_2 rz51_2 hz51_2 => ?_)
              obtain ⟨bz51_2, hz51_2⟩ := hz51_2
              refine V_if_eq (q := 57) (tgt := 66) dX6_act_54 (by decide) rfl (fun c54_2 => ?_) (fun c54_2 => ?_)
              · refine V_bipush (q := 68) dX6_act_66 rfl (by decide) ?_
                have hr : actR M t nm k u n v = (-2) := by { unfold actR; rw [if_neg (by omega), if_pos (by omega)] }
                exact V_iret dX6_act_68 (Nat.le_of_ble_eq_true rfl) (Nat.le_of_ble_eq_true rfl) ⟨_, rfl, hr.symm, MF.rf, by { rw [actM_X, hr, if_neg (by decide)]; exact D }⟩
              · refine V_iload_n (q := 58) dX6_act_57 rfl rfl rfl ?_
                refine V_iload (q := 60) dX6_act_58 rfl rfl ?_
                refine V_rdS (q := 63) (As := [(0, k), (0, v)]) (tX6_fitsValue ) dX6_act_60 rfl mlX6_111 mw_X6_fitsValue sm_X6_fitsValue md_X6_fitsValue rfl rfl (by decide) (by decide) (Nat.le_of_ble_eq_true rfl) (Nat.le_of_ble_eq_true rfl) (Nat.le_of_ble_eq_true rfl) (fun z60_4 rz60_4 hz60_4 => ?_)
                obtain ⟨bz60_4, hz60_4⟩ := hz60_4
                refine V_if_ne (q := 66) (tgt := 69) dX6_act_63 (by decide) rfl (fun c63_4 => ?_) (fun c63_4 => ?_)
                · exact tail (by omega) (by omega)
                · refine V_bipush (q := 68) dX6_act_66 rfl (by decide) ?_
                  have hr : actR M t nm k u n v = (-2) := by { unfold actR; rw [if_neg (by omega), if_pos (by omega)] }
                  exact V_iret dX6_act_68 (Nat.le_of_ble_eq_true rfl) (Nat.le_of_ble_eq_true rfl) ⟨_, rfl, hr.symm, MF.rf, by { rw [actM_X, hr, if_neg (by decide)]; exact D }⟩
      · refine V_iconst (q := 31) dX6_act_30 rfl (by decide) ?_
        have hr : actR M t nm k u n v = (-1) := by { unfold actR; rw [if_pos (by omega)] }
        exact V_iret dX6_act_31 (Nat.le_of_ble_eq_true rfl) (Nat.le_of_ble_eq_true rfl) ⟨_, rfl, hr.symm, MF.rf, by { rw [actM_X, hr, if_neg (by decide)]; exact D }⟩
