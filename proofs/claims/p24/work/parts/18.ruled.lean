theorem sdf {M M1 : Mem} (f : ∀ k : Int, k ≠ 18 → k ≠ 19 → M1 k = M k) : SD M M1 := fun k h0 h1 => f k (by omega) (by omega)
theorem tX7_findMethod {Γ : GC} {αC : Sh} {C M : Mem} {a nm : Int} (w : WFD M) (ha : 0 ≤ a ∧ a < M 0 0) : MM Γ yX7_findMethod cX7_findMethod 5 (some .int) 1 [(0, a), (0, nm)] αC C M (mI fun r M1 => M1 = M ∧ r = FM M nm a) := by
  have hn0 := w.n
  refine MM_of (k := 2) [(3, 0), (0, a), (0, nm), (9, 0), (9, 0)] pn_X7_findMethod rfl rfl rfl (fun ad0 => ?_)
  have loop : ∀ (t : Int), (-1 ≤ t ∧ t < M 0 0 ∧ FM M nm t = FM M nm a) → V Γ (gα αC) ad0 (ZM Γ (gα αC) ad0 (mQ αC C (mI fun r M1 => M1 = M ∧ r = FM M nm a)) 0 0) (RM 1 0 0) RX7 cX7_findMethod 5 (some .int) yX7_findMethod.name 2 [] [(3, 0), (0, a), (0, nm), (0, t), (9, 0)] (gα αC) (mm M C) 0 0 := by
    refine loop1 _ (fun t => (t + 1).toNat) _ ?_
    rintro t ⟨h1, h2, h3⟩ ih
    refine V_iload_n (q := 3) dX7_findMethod_2 rfl rfl rfl ?_
    refine V_if_lt (q := 6) (tgt := 38) dX7_findMethod_3 (by decide) rfl (fun c3 => ?_) (fun c3 => ?_)
    · refine V_bipush (q := 40) dX7_findMethod_38 rfl (by decide) ?_
      exact VM_iret dX7_findMethod_40 ⟨_, rfl, rfl, by rw [← h3, FM_neg c3]⟩
    · have t0 : 0 ≤ t := by omega
      have hab := w.above t t0 h2
      refine V_aload_n (q := 7) dX7_findMethod_6 rfl rfl rfl ?_
      refine V_iload_n (q := 8) dX7_findMethod_7 rfl rfl rfl ?_
      refine V_iload_n (q := 9) dX7_findMethod_8 rfl rfl rfl ?_
      refine VM_callI (q := 12) (As := [(0, t), (0, nm)]) (tX7_ownMethod (C := C) (M := M) ⟨t0, by omega⟩ (w.cnt t t0 (by omega)).2.2) dX7_findMethod_9 rfl mlX7_155 mw_X7_ownMethod im_X7_ownMethod sl_X7_ownMethod md_X7_ownMethod rfl rfl rfl (by decide) (by decide) (Nat.le_refl _) (Nat.le_refl _) (by decide) (fun z9 M9 rz9 hz9 => ?_)
      obtain ⟨hm, hpz9⟩ := hz9
      replace hm := hm.symm
      subst hm
      refine V_istore (q := 14) (lv1 := [(3, 0), (0, a), (0, nm), (0, t), (0, z9)]) dX7_findMethod_12 rfl (by decide) rfl rfl ?_
      refine V_iload (q := 16) dX7_findMethod_14 rfl rfl ?_
      refine V_if_lt (q := 19) (tgt := 28) dX7_findMethod_16 (by decide) rfl (fun c16 => ?_) (fun c16 => ?_)
      · refine V_aload_n (q := 29) dX7_findMethod_28 rfl rfl rfl ?_
        refine VM_getA (q := 32) 4 dX7_findMethod_29 rfl flX7_16 rfl rfl (Nat.succ_ne_zero _) ?_
        refine V_iload_n (q := 33) dX7_findMethod_32 rfl rfl rfl ?_
        refine VM_iald (q := 34) 3 dX7_findMethod_33 rfl rfl (by decide) rfl rfl (by omega) (fun z33 ez33 rz33 => ?_)
        refine V_istore_n (q := 35) (lv1 := [(3, 0), (0, a), (0, nm), (0, z33), (0, z9)]) dX7_findMethod_34 rfl rfl (by decide) rfl rfl ?_
        refine V_goto (tgt := 2) dX7_findMethod_35 (by decide) ?_
        refine V_fgt [(3, 0), (0, a), (0, nm), (0, z33), (9, 0)] ⟨Or.inl rfl, Or.inl rfl, Or.inl rfl, Or.inl rfl, Or.inr rfl, trivial⟩ ?_
        exact ih (z33) ⟨by omega, by omega, by { rw [← h3, FM_eq w nm t0 h2, if_neg (by omega), ez33] }⟩ (by omega)
      · have hrm := oM_rng M t nm
        have hc10 := (w.cnt t t0 (by omega)).2.2
        refine V_iconst (q := 20) dX7_findMethod_19 rfl (by decide) ?_
        refine V_iload_n (q := 21) dX7_findMethod_20 rfl rfl rfl ?_
        refine V_imul (q := 22) dX7_findMethod_21 rfl (by omega) (fun z21 ez21 => ?_)
        refine V_iconst (q := 23) dX7_findMethod_22 rfl (by decide) ?_
        refine V_iadd (q := 24) dX7_findMethod_23 rfl (by omega) (fun z23 ez23 => ?_)
        refine V_iload (q := 26) dX7_findMethod_24 rfl rfl ?_
        refine V_iadd (q := 27) dX7_findMethod_26 rfl (by omega) (fun z26 ez26 => ?_)
        exact VM_iret dX7_findMethod_27 ⟨_, rfl, rfl, by rw [← h3, FM_eq w nm t0 h2, if_pos (by omega)]; omega⟩
  refine V_iload_n (q := 1) dX7_findMethod_0 rfl rfl rfl ?_
  refine V_istore_n (q := 2) (lv1 := [(3, 0), (0, a), (0, nm), (0, a), (9, 0)]) dX7_findMethod_1 rfl rfl (by decide) rfl rfl ?_
  exact loop a ⟨by omega, by omega, rfl⟩
theorem tX7_isRuled {Γ : GC} {αC : Sh} {C M : Mem} {k t n : Int} (w : WFD M) (hk : 1 ≤ k → k ≤ 4 → 0 ≤ t ∧ t < M 0 0) : MM Γ yX7_isRuled cX7_isRuled 5 (some .boolean) 2 [(0, k), (0, t), (0, n)] αC C M (mI fun r M1 => (∀ k : Int, k ≠ 18 → k ≠ 19 → M1 k = M k) ∧ r = RUi M k t n) := by
  have hn0 := w.n
  refine MM_of (k := 1) [(3, 0), (0, k), (0, t), (0, n), (9, 0)] pn_X7_isRuled rfl rfl rfl (fun ad0 => ?_)
  refine V_iload_n (q := 1) dX7_isRuled_0 rfl rfl rfl ?_
  rcases (show k = 1 ∨ k = 2 ∨ k = 3 ∨ k = 4 ∨ (k ≠ 1 ∧ k ≠ 2 ∧ k ≠ 3 ∧ k ≠ 4) by omega) with c1 | c1 | c1 | c1 | c1
  · subst c1
    refine V_tswIn (tgt := 32) (off := 31) dX7_isRuled_1 (by decide) (by decide) rfl (by decide) ?_
    refine V_aload_n (q := 33) dX7_isRuled_32 rfl rfl rfl ?_
    refine V_iload_n (q := 34) dX7_isRuled_33 rfl rfl rfl ?_
    refine V_iload_n (q := 35) dX7_isRuled_34 rfl rfl rfl ?_
    refine VM_callI (q := 38) (As := [(0, t), (0, n)]) (tX7_findField (C := C) (M := M) w (hk (by decide) (by decide))) dX7_isRuled_35 rfl mlX7_161 mw_X7_findField im_X7_findField sl_X7_findField md_X7_findField rfl rfl rfl (by decide) (by decide) (Nat.le_refl _) (Nat.le_refl _) (by decide) (fun z35 M35 rz35 hz35 => ?_)
    obtain ⟨gM35, hz35⟩ := hz35
    have fM35 := gM35
    refine V_if_ge (q := 41) (tgt := 45) dX7_isRuled_38 (by decide) rfl (fun c38 => ?_) (fun c38 => ?_)
    · refine V_iconst (q := 46) dX7_isRuled_45 rfl (by decide) ?_
      exact VM_zret dX7_isRuled_46 (by decide) ⟨_, rfl, fM35, by rw [RUi_1, ← hz35, if_neg (by omega)]⟩
    · refine V_iconst (q := 42) dX7_isRuled_41 rfl (by decide) ?_
      refine V_goto (tgt := 46) dX7_isRuled_42 (by decide) ?_
      exact VM_zret dX7_isRuled_46 (by decide) ⟨_, rfl, fM35, by rw [RUi_1, ← hz35, if_pos (by omega)]⟩
  · subst c1
    refine V_tswIn (tgt := 47) (off := 46) dX7_isRuled_1 (by decide) (by decide) rfl (by decide) ?_
    refine V_aload_n (q := 48) dX7_isRuled_47 rfl rfl rfl ?_
    refine V_iload_n (q := 49) dX7_isRuled_48 rfl rfl rfl ?_
    refine V_iload_n (q := 50) dX7_isRuled_49 rfl rfl rfl ?_
    refine VM_callI (q := 53) (As := [(0, t), (0, n)]) (tX7_findField (C := C) (M := M) w (hk (by decide) (by decide))) dX7_isRuled_50 rfl mlX7_161 mw_X7_findField im_X7_findField sl_X7_findField md_X7_findField rfl rfl rfl (by decide) (by decide) (Nat.le_refl _) (Nat.le_refl _) (by decide) (fun z50 M50 rz50 hz50 => ?_)
    obtain ⟨gM50, hz50⟩ := hz50
    have fM50 := gM50
    refine V_istore (q := 55) (lv1 := [(3, 0), (0, 2), (0, t), (0, n), (0, z50)]) dX7_isRuled_53 rfl (by decide) rfl rfl ?_
    refine V_iload (q := 57) dX7_isRuled_55 rfl rfl ?_
    refine V_if_lt (q := 60) (tgt := 70) dX7_isRuled_57 (by decide) rfl (fun c57 => ?_) (fun c57 => ?_)
    · refine V_iconst (q := 71) dX7_isRuled_70 rfl (by decide) ?_
      refine V_goto (tgt := 75) dX7_isRuled_71 (by decide) ?_
      exact VM_zret dX7_isRuled_75 (by decide) ⟨_, rfl, fM50, by rw [RUi_2, ← hz50]; first | rw [if_pos (by omega)] | rw [if_neg (by omega), if_pos (by omega)]⟩
    · have hr := FF_rng (nm := n) w (hk (by decide) (by decide)).1 (hk (by decide) (by decide)).2
      refine V_aload_n (q := 61) dX7_isRuled_60 rfl rfl rfl ?_
      refine VM_getA (q := 64) 9 dX7_isRuled_61 rfl flX7_32 rfl rfl (Nat.succ_ne_zero _) ?_
      refine V_iload (q := 66) dX7_isRuled_64 rfl rfl ?_
      refine VM_zald (q := 67) 8 dX7_isRuled_66 rfl rfl (by decide) rfl rfl (by omega) (fun z66 ez66 rz66 => ?_)
      rw [fM50 8 (by decide) (by decide)] at ez66
      refine V_if_eq (q := 70) (tgt := 74) dX7_isRuled_67 (by decide) rfl (fun c67 => ?_) (fun c67 => ?_)
      · refine V_iconst (q := 75) dX7_isRuled_74 rfl (by decide) ?_
        exact VM_zret dX7_isRuled_75 (by decide) ⟨_, rfl, fM50, by rw [RUi_2, ← hz50, if_neg (by omega), if_neg (by omega)]⟩
      · refine V_iconst (q := 71) dX7_isRuled_70 rfl (by decide) ?_
        refine V_goto (tgt := 75) dX7_isRuled_71 (by decide) ?_
        exact VM_zret dX7_isRuled_75 (by decide) ⟨_, rfl, fM50, by rw [RUi_2, ← hz50]; first | rw [if_pos (by omega)] | rw [if_neg (by omega), if_pos (by omega)]⟩
  · subst c1
    refine V_tswIn (tgt := 76) (off := 75) dX7_isRuled_1 (by decide) (by decide) rfl (by decide) ?_
    refine V_aload_n (q := 77) dX7_isRuled_76 rfl rfl rfl ?_
    refine V_iload_n (q := 78) dX7_isRuled_77 rfl rfl rfl ?_
    refine V_iload_n (q := 79) dX7_isRuled_78 rfl rfl rfl ?_
    refine VM_callI (q := 82) (As := [(0, t), (0, n)]) (tX7_findMethod (C := C) (M := M) w (hk (by decide) (by decide))) dX7_isRuled_79 rfl mlX7_158 mw_X7_findMethod im_X7_findMethod sl_X7_findMethod md_X7_findMethod rfl rfl rfl (by decide) (by decide) (Nat.le_refl _) (Nat.le_refl _) (by decide) (fun z79 M79 rz79 hz79 => ?_)
    obtain ⟨hm, hz79⟩ := hz79
    replace hm := hm.symm
    subst hm
    refine V_if_ge (q := 85) (tgt := 89) dX7_isRuled_82 (by decide) rfl (fun c82 => ?_) (fun c82 => ?_)
    · refine V_iconst (q := 90) dX7_isRuled_89 rfl (by decide) ?_
      exact VM_zret dX7_isRuled_90 (by decide) ⟨_, rfl, fun _ _ _ => rfl, by rw [RUi_3, ← hz79, if_neg (by omega)]⟩
    · refine V_iconst (q := 86) dX7_isRuled_85 rfl (by decide) ?_
      refine V_goto (tgt := 90) dX7_isRuled_86 (by decide) ?_
      exact VM_zret dX7_isRuled_90 (by decide) ⟨_, rfl, fun _ _ _ => rfl, by rw [RUi_3, ← hz79, if_pos (by omega)]⟩
  · subst c1
    refine V_tswIn (tgt := 91) (off := 90) dX7_isRuled_1 (by decide) (by decide) rfl (by decide) ?_
    have hkk := hk (by decide) (by decide)
    refine V_aload_n (q := 92) dX7_isRuled_91 rfl rfl rfl ?_
    refine VM_getA (q := 95) 2 dX7_isRuled_92 rfl flX7_7 rfl rfl (Nat.succ_ne_zero _) ?_
    refine V_iload_n (q := 96) dX7_isRuled_95 rfl rfl rfl ?_
    refine VM_zald (q := 97) 1 dX7_isRuled_96 rfl rfl (by decide) rfl rfl (by omega) (fun z96 ez96 rz96 => ?_)
    refine V_if_ne (q := 100) (tgt := 109) dX7_isRuled_97 (by decide) rfl (fun c97 => ?_) (fun c97 => ?_)
    · refine V_iconst (q := 110) dX7_isRuled_109 rfl (by decide) ?_
      refine V_goto (tgt := 114) dX7_isRuled_110 (by decide) ?_
      exact VM_zret dX7_isRuled_114 (by decide) ⟨_, rfl, fun _ _ _ => rfl, by rw [RUi_4]; first | rw [if_pos (by omega)] | rw [if_neg (by omega), if_pos (by omega)]⟩
    · refine V_aload_n (q := 101) dX7_isRuled_100 rfl rfl rfl ?_
      refine VM_getA (q := 104) 3 dX7_isRuled_101 rfl flX7_13 rfl rfl (Nat.succ_ne_zero _) ?_
      refine V_iload_n (q := 105) dX7_isRuled_104 rfl rfl rfl ?_
      refine VM_zald (q := 106) 2 dX7_isRuled_105 rfl rfl (by decide) rfl rfl (by omega) (fun z105 ez105 rz105 => ?_)
      refine V_if_eq (q := 109) (tgt := 113) dX7_isRuled_106 (by decide) rfl (fun c106 => ?_) (fun c106 => ?_)
      · refine V_iconst (q := 114) dX7_isRuled_113 rfl (by decide) ?_
        exact VM_zret dX7_isRuled_114 (by decide) ⟨_, rfl, fun _ _ _ => rfl, by rw [RUi_4, if_neg (by omega), if_neg (by omega)]⟩
      · refine V_iconst (q := 110) dX7_isRuled_109 rfl (by decide) ?_
        refine V_goto (tgt := 114) dX7_isRuled_110 (by decide) ?_
        exact VM_zret dX7_isRuled_114 (by decide) ⟨_, rfl, fun _ _ _ => rfl, by rw [RUi_4]; first | rw [if_pos (by omega)] | rw [if_neg (by omega), if_pos (by omega)]⟩
  · refine V_tswOut (tgt := 115) dX7_isRuled_1 (by omega) (by decide) ?_
    refine V_iconst (q := 116) dX7_isRuled_115 rfl (by decide) ?_
    exact VM_zret dX7_isRuled_116 (by decide) ⟨_, rfl, fun _ _ _ => rfl, (RUi_o M t n (by omega) (by omega) (by omega) (by omega)).symm⟩
theorem tX7_started {Γ : GC} {αC : Sh} {C M : Mem} {k t n : Int} (w : WFD M) (hk : 1 ≤ k → k ≤ 4 → 0 ≤ t ∧ t < M 0 0) : MM Γ yX7_started cX7_started 5 (some .int) 3 [(0, k), (0, t), (0, n)] αC C M (mI fun r M1 => (∀ k : Int, k ≠ 18 → k ≠ 19 → M1 k = M k) ∧ r = STi M k t n) := by
  have hn0 := w.n
  refine MM_of (k := 1) [(3, 0), (0, k), (0, t), (0, n), (9, 0)] pn_X7_started rfl rfl rfl (fun ad0 => ?_)
  refine V_aload_n (q := 1) dX7_started_0 rfl rfl rfl ?_
  refine V_iload_n (q := 2) dX7_started_1 rfl rfl rfl ?_
  refine V_iload_n (q := 3) dX7_started_2 rfl rfl rfl ?_
  refine V_iload_n (q := 4) dX7_started_3 rfl rfl rfl ?_
  refine VM_callI (q := 7) (As := [(0, k), (0, t), (0, n)]) (tX7_isRuled (C := C) (M := M) w hk) dX7_started_4 rfl mlX7_167 mw_X7_isRuled im_X7_isRuled sl_X7_isRuled md_X7_isRuled rfl rfl rfl (by decide) (by decide) (Nat.le_refl _) (Nat.le_refl _) (by decide) (fun z4 M4 rz4 hz4 => ?_)
  obtain ⟨gM4, hz4⟩ := hz4
  have fM4 := gM4
  have h01 := RUi_01 M k t n
  refine V_if_eq (q := 10) (tgt := 13) dX7_started_7 (by decide) rfl (fun c7 => ?_) (fun c7 => ?_)
  · refine V_iload_n (q := 14) dX7_started_13 rfl rfl rfl ?_
    refine V_iconst (q := 15) dX7_started_14 rfl (by decide) ?_
    refine V_icmp_eq (q := 18) (tgt := 23) dX7_started_15 (by decide) rfl (fun c15 => ?_) (fun c15 => ?_)
    · have hkk := hk (by omega) (by omega)
      have hr := FF_rng (nm := n) w hkk.1 hkk.2
      have hge : ¬ FF M n t < 0 := by intro hlt; have h5 : RUi M k t n = 1 := by { rcases (show k = 1 ∨ k = 2 by omega) with rfl | rfl; { rw [RUi_1, if_pos hlt] }; { rw [RUi_2, if_pos hlt] } }; omega
      refine V_aload_n (q := 24) dX7_started_23 rfl rfl rfl ?_
      refine V_iload_n (q := 25) dX7_started_24 rfl rfl rfl ?_
      refine V_iload_n (q := 26) dX7_started_25 rfl rfl rfl ?_
      refine VM_callI (q := 29) (As := [(0, t), (0, n)]) (tX7_findField (C := C) (M := M4) (SD_WFD (sdf fM4) w) (by rw [fM4 0 (by decide) (by decide)]; exact hkk)) dX7_started_26 rfl mlX7_161 mw_X7_findField im_X7_findField sl_X7_findField md_X7_findField rfl rfl rfl (by decide) (by decide) (Nat.le_refl _) (Nat.le_refl _) (by decide) (fun z26 M26 rz26 hz26 => ?_)
      obtain ⟨gM26, hz26⟩ := hz26
      have fM26 : ∀ k : Int, k ≠ 18 → k ≠ 19 → M26 k = M k := fun k h1 h2 => (gM26 k h1 h2).trans (fM4 k h1 h2)
      rw [SD_FF (sdf fM4)] at hz26
      refine V_istore (q := 31) (lv1 := [(3, 0), (0, k), (0, t), (0, n), (0, z26)]) dX7_started_29 rfl (by decide) rfl rfl ?_
      refine V_aload_n (q := 32) dX7_started_31 rfl rfl rfl ?_
      refine VM_getA (q := 35) 9 dX7_started_32 rfl flX7_32 rfl rfl (Nat.succ_ne_zero _) ?_
      refine V_iload (q := 37) dX7_started_35 rfl rfl ?_
      refine VM_zald (q := 38) 8 dX7_started_37 rfl rfl (by decide) rfl rfl (by omega) (fun z37 ez37 rz37 => ?_)
      rw [fM26 8 (by decide) (by decide)] at ez37
      refine V_if_eq (q := 41) (tgt := 46) dX7_started_38 (by decide) rfl (fun c38 => ?_) (fun c38 => ?_)
      · refine V_iload (q := 48) dX7_started_46 rfl rfl ?_
        refine V_bipush (q := 50) dX7_started_48 rfl (by decide) ?_
        refine V_idiv (q := 51) dX7_started_50 rfl (by omega) (by decide) (fun z50 ez50 => ?_)
        exact VM_iret dX7_started_51 ⟨_, rfl, fM26, by unfold STi; rw [if_neg (by omega), if_pos (by omega), ← hz26, if_neg (by omega)]; omega⟩
      · refine V_bipush (q := 43) dX7_started_41 rfl (by decide) ?_
        refine V_goto (tgt := 51) dX7_started_43 (by decide) ?_
        exact VM_iret dX7_started_51 ⟨_, rfl, fM26, by unfold STi; rw [if_neg (by omega), if_pos (by omega), ← hz26, if_pos (by omega)]⟩
    · refine V_iload_n (q := 19) dX7_started_18 rfl rfl rfl ?_
      refine V_iconst (q := 20) dX7_started_19 rfl (by decide) ?_
      refine V_icmp_ne (q := 23) (tgt := 52) dX7_started_20 (by decide) rfl (fun c20 => ?_) (fun c20 => ?_)
      · refine V_iload_n (q := 53) dX7_started_52 rfl rfl rfl ?_
        refine V_iconst (q := 54) dX7_started_53 rfl (by decide) ?_
        refine V_icmp_ne (q := 57) (tgt := 68) dX7_started_54 (by decide) rfl (fun c54 => ?_) (fun c54 => ?_)
        · refine V_iload_n (q := 69) dX7_started_68 rfl rfl rfl ?_
          refine V_iconst (q := 70) dX7_started_69 rfl (by decide) ?_
          refine V_icmp_eq (q := 73) (tgt := 78) dX7_started_70 (by decide) rfl (fun c70 => ?_) (fun c70 => ?_)
          · refine V_iload_n (q := 79) dX7_started_78 rfl rfl rfl ?_
            refine V_goto (tgt := 84) dX7_started_79 (by decide) ?_
            exact VM_iret dX7_started_84 ⟨_, rfl, fM4, by unfold STi; rw [if_neg (by omega), if_neg (by omega), if_neg (by omega), if_pos (by omega)]⟩
          · refine V_iload_n (q := 74) dX7_started_73 rfl rfl rfl ?_
            refine V_iconst (q := 75) dX7_started_74 rfl (by decide) ?_
            refine V_icmp_ne (q := 78) (tgt := 82) dX7_started_75 (by decide) rfl (fun c75 => ?_) (fun c75 => ?_)
            · refine V_bipush (q := 84) dX7_started_82 rfl (by decide) ?_
              exact VM_iret dX7_started_84 ⟨_, rfl, fM4, by unfold STi; rw [if_neg (by omega), if_neg (by omega), if_neg (by omega), if_neg (by omega)]⟩
            · refine V_iload_n (q := 79) dX7_started_78 rfl rfl rfl ?_
              refine V_goto (tgt := 84) dX7_started_79 (by decide) ?_
              exact VM_iret dX7_started_84 ⟨_, rfl, fM4, by unfold STi; rw [if_neg (by omega), if_neg (by omega), if_neg (by omega), if_pos (by omega)]⟩
        · have hkk := hk (by omega) (by omega)
          have hr := FM_rng (nm := n) w hkk.2
          have hge : ¬ FM M n t < 0 := by intro hlt; have h5 : RUi M k t n = 1 := by { obtain rfl : k = 3 := (by omega); rw [RUi_3, if_pos hlt] }; omega
          refine V_aload_n (q := 58) dX7_started_57 rfl rfl rfl ?_
          refine V_iload_n (q := 59) dX7_started_58 rfl rfl rfl ?_
          refine V_iload_n (q := 60) dX7_started_59 rfl rfl rfl ?_
          refine VM_callI (q := 63) (As := [(0, t), (0, n)]) (tX7_findMethod (C := C) (M := M4) (SD_WFD (sdf fM4) w) (by rw [fM4 0 (by decide) (by decide)]; exact hkk)) dX7_started_60 rfl mlX7_158 mw_X7_findMethod im_X7_findMethod sl_X7_findMethod md_X7_findMethod rfl rfl rfl (by decide) (by decide) (Nat.le_refl _) (Nat.le_refl _) (by decide) (fun z60 M60 rz60 hz60 => ?_)
          obtain ⟨hm, hz60⟩ := hz60
          replace hm := hm.symm
          subst hm
          rw [SD_FM (sdf fM4)] at hz60
          refine V_iconst (q := 64) dX7_started_63 rfl (by decide) ?_
          refine V_idiv (q := 65) dX7_started_64 rfl (by omega) (by decide) (fun z64 ez64 => ?_)
          refine V_goto (tgt := 84) dX7_started_65 (by decide) ?_
          exact VM_iret dX7_started_84 ⟨_, rfl, fM4, by unfold STi; rw [if_neg (by omega), if_neg (by omega), if_pos (by omega), ← hz60]; omega⟩
      · have hkk := hk (by omega) (by omega)
        have hr := FF_rng (nm := n) w hkk.1 hkk.2
        have hge : ¬ FF M n t < 0 := by intro hlt; have h5 : RUi M k t n = 1 := by { rcases (show k = 1 ∨ k = 2 by omega) with rfl | rfl; { rw [RUi_1, if_pos hlt] }; { rw [RUi_2, if_pos hlt] } }; omega
        refine V_aload_n (q := 24) dX7_started_23 rfl rfl rfl ?_
        refine V_iload_n (q := 25) dX7_started_24 rfl rfl rfl ?_
        refine V_iload_n (q := 26) dX7_started_25 rfl rfl rfl ?_
        refine VM_callI (q := 29) (As := [(0, t), (0, n)]) (tX7_findField (C := C) (M := M4) (SD_WFD (sdf fM4) w) (by rw [fM4 0 (by decide) (by decide)]; exact hkk)) dX7_started_26 rfl mlX7_161 mw_X7_findField im_X7_findField sl_X7_findField md_X7_findField rfl rfl rfl (by decide) (by decide) (Nat.le_refl _) (Nat.le_refl _) (by decide) (fun z26_2 M26_2 rz26_2 hz26_2 => ?_)
        obtain ⟨gM26_2, hz26_2⟩ := hz26_2
        have fM26_2 : ∀ k : Int, k ≠ 18 → k ≠ 19 → M26_2 k = M k := fun k h1 h2 => (gM26_2 k h1 h2).trans (fM4 k h1 h2)
        rw [SD_FF (sdf fM4)] at hz26_2
        refine V_istore (q := 31) (lv1 := [(3, 0), (0, k), (0, t), (0, n), (0, z26_2)]) dX7_started_29 rfl (by decide) rfl rfl ?_
        refine V_aload_n (q := 32) dX7_started_31 rfl rfl rfl ?_
        refine VM_getA (q := 35) 9 dX7_started_32 rfl flX7_32 rfl rfl (Nat.succ_ne_zero _) ?_
        refine V_iload (q := 37) dX7_started_35 rfl rfl ?_
        refine VM_zald (q := 38) 8 dX7_started_37 rfl rfl (by decide) rfl rfl (by omega) (fun z37_2 ez37_2 rz37_2 => ?_)
        rw [fM26_2 8 (by decide) (by decide)] at ez37_2
        refine V_if_eq (q := 41) (tgt := 46) dX7_started_38 (by decide) rfl (fun c38_2 => ?_) (fun c38_2 => ?_)
        · refine V_iload (q := 48) dX7_started_46 rfl rfl ?_
          refine V_bipush (q := 50) dX7_started_48 rfl (by decide) ?_
          refine V_idiv (q := 51) dX7_started_50 rfl (by omega) (by decide) (fun z50_2 ez50_2 => ?_)
          exact VM_iret dX7_started_51 ⟨_, rfl, fM26_2, by unfold STi; rw [if_neg (by omega), if_pos (by omega), ← hz26_2, if_neg (by omega)]; omega⟩
        · refine V_bipush (q := 43) dX7_started_41 rfl (by decide) ?_
          refine V_goto (tgt := 51) dX7_started_43 (by decide) ?_
          exact VM_iret dX7_started_51 ⟨_, rfl, fM26_2, by unfold STi; rw [if_neg (by omega), if_pos (by omega), ← hz26_2, if_pos (by omega)]⟩
  · refine V_bipush (q := 12) dX7_started_10 rfl (by decide) ?_
    exact VM_iret dX7_started_12 ⟨_, rfl, fM4, by unfold STi; rw [if_pos (by omega)]⟩
