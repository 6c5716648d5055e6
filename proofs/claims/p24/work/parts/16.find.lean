theorem FI_init {M : Mem} {nm a : Int} {M1 : Mem} (w : WFD M) (f : ∀ k : Int, k ≠ 18 → k ≠ 19 → M1 k = M k) (h0 : M1 18 0 = a) (ha : 0 ≤ a ∧ a < M 0 0) (hz : ∀ i : Int, 0 ≤ i → i < M 0 0 → M1 19 i = 0) : FI M nm a 1 M1 := by
  have hn := w.n
  have hl := cntz_le (M1 19) (M 0 0).toNat
  refine ⟨f, by decide, by omega, fun i i0 i1 => ?_, ?_, fun x x0 x1 xs => ?_⟩
  · rw [show i = 0 by omega, h0]; exact Or.inr ha
  · show (if 0 ≤ FF M nm (M1 18 (0 + ((0 : Nat) : Int))) then FF M nm (M1 18 (0 + ((0 : Nat) : Int))) else -6) = _
    rw [show (0 : Int) + ((0 : Nat) : Int) = 0 from rfl, h0]
    rcases ffd_rng (M := M) (nm := nm) 41 a with h | h
    · rw [show FF M nm a = -6 from h, if_neg (by decide)]
    · rw [if_pos (show 0 ≤ FF M nm a from h.1)]
  · rw [hz x x0 x1] at xs; exact absurd xs (by decide)
theorem tX7_findField {Γ : GC} {αC : Sh} {C M : Mem} {a nm : Int} (w : WFD M) (ha : 0 ≤ a ∧ a < M 0 0) : MM Γ yX7_findField cX7_findField 7 (some .int) 1 [(0, a), (0, nm)] αC C M (mI fun r M1 => (∀ k : Int, k ≠ 18 → k ≠ 19 → M1 k = M k) ∧ r = FF M nm a) := by
  have hn0 := w.n
  refine MM_of (k := 4) [(3, 0), (0, a), (0, nm), (9, 0), (9, 0), (9, 0), (9, 0)] pn_X7_findField rfl rfl rfl (fun ad0 => ?_)
  have outer : ∀ (n : Int) (M1 : Mem), FI M nm a n M1 → V Γ (gα αC) ad0 (ZM Γ (gα αC) ad0 (mQ αC C (mI fun r M1 => (∀ k : Int, k ≠ 18 → k ≠ 19 → M1 k = M k) ∧ r = FF M nm a)) 0 0) (RM 1 0 0) RX7 cX7_findField 7 (some .int) yX7_findField.name 35 [] [(3, 0), (0, a), (0, nm), (0, n), (9, 0), (9, 0), (9, 0)] (gα αC) (mm M1 C) 0 0 := by
    refine loop2 _ (fun n M1 => 6 * cntz (M1 19) (M 0 0).toNat + n.toNat) _ ?_
    intro n M1 hI ih
    have fM1 := hI.1
    have hsz := hI.2.2.1
    refine V_iload_n (q := 36) dX7_findField_35 rfl rfl rfl ?_
    refine V_if_le (q := 39) (tgt := 155) dX7_findField_36 (by decide) rfl (fun c36 => ?_) (fun c36 => ?_)
    · refine V_bipush (q := 157) dX7_findField_155 rfl (by decide) ?_
      exact VM_iret dX7_findField_157 ⟨_, rfl, fM1, (FI_end hI (by omega)).symm⟩
    · refine V_iinc (q := 42) dX7_findField_39 rfl rfl (by decide) rfl (by omega) (fun z39 lz39 ez39 hlz39 => ?_)
      obtain rfl : lz39 = [(3, 0), (0, a), (0, nm), (0, z39), (9, 0), (9, 0), (9, 0)] := hlz39
      have hpos : 0 < n := by omega
      refine V_aload_n (q := 43) dX7_findField_42 rfl rfl rfl ?_
      refine VM_getA (q := 46) 19 dX7_findField_43 rfl flX7_59 rfl rfl (Nat.succ_ne_zero _) ?_
      refine V_iload_n (q := 47) dX7_findField_46 rfl rfl rfl ?_
      refine VM_iald (q := 48) 18 dX7_findField_47 rfl rfl (by decide) rfl rfl (by omega) (fun z47 ez47 rz47 => ?_)
      refine V_istore (q := 50) (lv1 := [(3, 0), (0, a), (0, nm), (0, z39), (0, z47), (9, 0), (9, 0)]) dX7_findField_48 rfl (by decide) rfl rfl ?_
      have hIn := hI.2.2.2.1 z39 (by omega) (by omega)
      rw [← ez47] at hIn
      refine V_iload (q := 52) dX7_findField_50 rfl rfl ?_
      refine V_if_lt (q := 55) (tgt := 35) dX7_findField_52 (by decide) rfl (fun c52 => ?_) (fun c52 => ?_)
      · refine V_fgt [(3, 0), (0, a), (0, nm), (0, z39), (9, 0), (9, 0), (9, 0)] ⟨Or.inl rfl, Or.inl rfl, Or.inl rfl, Or.inl rfl, Or.inr rfl, Or.inr rfl, Or.inr rfl, trivial⟩ ?_
        exact ih (z39) M1 (FI_drop hI hpos (by omega) (by rw [← ez47]; exact FF_neg c52)) (by omega)
      · have t0 : 0 ≤ z47 := by omega
        have t1 : z47 < M 0 0 := by omega
        refine V_aload_n (q := 56) dX7_findField_55 rfl rfl rfl ?_
        refine VM_getA (q := 59) 20 dX7_findField_56 rfl flX7_62 rfl rfl (Nat.succ_ne_zero _) ?_
        refine V_iload (q := 61) dX7_findField_59 rfl rfl ?_
        refine VM_zald (q := 62) 19 dX7_findField_61 rfl rfl (by decide) rfl rfl (by omega) (fun z61 ez61 rz61 => ?_)
        refine V_if_eq (q := 65) (tgt := 68) dX7_findField_62 (by decide) rfl (fun c62 => ?_) (fun c62 => ?_)
        · have hc4 := (w.cnt z47 t0 (by omega)).1
          refine V_aload_n (q := 69) dX7_findField_68 rfl rfl rfl ?_
          refine VM_getA (q := 72) 20 dX7_findField_69 rfl flX7_62 rfl rfl (Nat.succ_ne_zero _) ?_
          refine V_iload (q := 74) dX7_findField_72 rfl rfl ?_
          refine V_iconst (q := 75) dX7_findField_74 rfl (by decide) ?_
          refine VM_zast (q := 76) 19 dX7_findField_75 rfl rfl (by decide) rfl rfl (by omega) (by omega) (fun M75 eM75 => ?_)
          have fM75 : ∀ k : Int, k ≠ 18 → k ≠ 19 → M75 k = M k := by intro k h1 h2; rw [eM75, mu_f _ _ _ _ h2]; exact fM1 k h1 h2
          refine V_aload_n (q := 77) dX7_findField_76 rfl rfl rfl ?_
          refine V_iload (q := 79) dX7_findField_77 rfl rfl ?_
          refine V_iload_n (q := 80) dX7_findField_79 rfl rfl rfl ?_
          refine VM_callI (q := 83) (As := [(0, z47), (0, nm)]) (tX7_ownField (C := C) (M := M75) ⟨t0, by omega⟩ (by rw [fM75 6 (by decide) (by decide)]; exact (w.cnt z47 t0 (by omega)).2.1)) dX7_findField_80 rfl mlX7_151 mw_X7_ownField im_X7_ownField sl_X7_ownField md_X7_ownField rfl rfl rfl (by decide) (by decide) (Nat.le_refl _) (Nat.le_refl _) (by decide) (fun z80 M80 rz80 hz80 => ?_)
          obtain ⟨hm, hpz80⟩ := hz80
          replace hm := hm.symm
          subst hm
          rw [pF_congr (fM75 6 (by decide) (by decide)) (fM75 7 (by decide) (by decide))] at hpz80
          refine V_istore (q := 85) (lv1 := [(3, 0), (0, a), (0, nm), (0, z39), (0, z47), (0, z80), (9, 0)]) dX7_findField_83 rfl (by decide) rfl rfl ?_
          refine V_iload (q := 87) dX7_findField_85 rfl rfl ?_
          refine V_if_lt (q := 90) (tgt := 93) dX7_findField_87 (by decide) rfl (fun c87 => ?_) (fun c87 => ?_)
          · have hpz : pF M z47 nm < 0 := by omega
            refine V_aload_n (q := 94) dX7_findField_93 rfl rfl rfl ?_
            refine VM_getA (q := 97) 19 dX7_findField_94 rfl flX7_59 rfl rfl (Nat.succ_ne_zero _) ?_
            refine V_iload_n (q := 98) dX7_findField_97 rfl rfl rfl ?_
            refine V_aload_n (q := 99) dX7_findField_98 rfl rfl rfl ?_
            refine VM_getA (q := 102) 4 dX7_findField_99 rfl flX7_16 rfl rfl (Nat.succ_ne_zero _) ?_
            refine V_iload (q := 104) dX7_findField_102 rfl rfl ?_
            refine VM_iald (q := 105) 3 dX7_findField_104 rfl rfl (by decide) rfl rfl (by omega) (fun z104 ez104 rz104 => ?_)
            rw [fM75 3 (by decide) (by decide)] at ez104
            refine VM_iast (q := 106) 18 dX7_findField_105 rfl rfl (by decide) rfl rfl (by omega) (fun M105 eM105 => ?_)
            have fM105 : ∀ k : Int, k ≠ 18 → k ≠ 19 → M105 k = M k := by intro k h1 h2; rw [eM105, mu_f _ _ _ _ h1]; exact fM75 k h1 h2
            refine V_iinc (q := 109) dX7_findField_106 rfl rfl (by decide) rfl (by omega) (fun z106 lz106 ez106 hlz106 => ?_)
            obtain rfl : lz106 = [(3, 0), (0, a), (0, nm), (0, z106), (0, z47), (0, z80), (9, 0)] := hlz106
            refine V_aload_n (q := 110) dX7_findField_109 rfl rfl rfl ?_
            refine VM_getA (q := 113) 5 dX7_findField_110 rfl flX7_20 rfl rfl (Nat.succ_ne_zero _) ?_
            refine V_iload (q := 115) dX7_findField_113 rfl rfl ?_
            refine VM_iald (q := 116) 4 dX7_findField_115 rfl rfl (by decide) rfl rfl (by omega) (fun z115 ez115 rz115 => ?_)
            rw [fM105 4 (by decide) (by decide)] at ez115
            refine V_iconst (q := 117) dX7_findField_116 rfl (by decide) ?_
            refine V_isub (q := 118) dX7_findField_117 rfl (by omega) (fun z117 ez117 => ?_)
            refine V_istore (q := 120) (lv1 := [(3, 0), (0, a), (0, nm), (0, z106), (0, z47), (0, z80), (0, z117)]) dX7_findField_118 rfl (by decide) rfl rfl ?_
            have inner : ∀ (k n1 : Int) (M2 : Mem), (-1 ≤ k ∧ k < M 4 z47 ∧ n1 = n + (M 4 z47 - 1 - k) ∧ (∀ k : Int, k ≠ 18 → k ≠ 19 → M2 k = M k) ∧ M2 19 z47 = 1 ∧ (∀ x, x ≠ z47 → M2 19 x = M1 19 x) ∧ (∀ i : Int, 0 ≤ i → i < z39 → M2 18 i = M1 18 i) ∧ M2 18 z39 = M 3 z47 ∧ (∀ j : Int, 0 ≤ j → j < M 4 z47 - 1 - k → M2 18 (n + j) = M 5 (4 * z47 + (M 4 z47 - 1 - j)))) → V Γ (gα αC) ad0 (ZM Γ (gα αC) ad0 (mQ αC C (mI fun r M1 => (∀ k : Int, k ≠ 18 → k ≠ 19 → M1 k = M k) ∧ r = FF M nm a)) 0 0) (RM 1 0 0) RX7 cX7_findField 7 (some .int) yX7_findField.name 120 [] [(3, 0), (0, a), (0, nm), (0, n1), (0, z47), (9, 0), (0, k)] (gα αC) (mm M2 C) 0 0 := by
              refine loop3 _ (fun k _ _ => (k + 1).toNat) _ ?_
              rintro k n1 M2 ⟨j0, j1, jn, j2, j3, j4, j5, j6, j7⟩ ih2
              have fM2 := j2
              refine V_iload (q := 122) dX7_findField_120 rfl rfl ?_
              refine V_if_lt (q := 125) (tgt := 152) dX7_findField_122 (by decide) rfl (fun c122 => ?_) (fun c122 => ?_)
              · refine V_goto (tgt := 35) dX7_findField_152 (by decide) ?_
                refine V_fgt [(3, 0), (0, a), (0, nm), (0, n1), (9, 0), (9, 0), (9, 0)] ⟨Or.inl rfl, Or.inl rfl, Or.inl rfl, Or.inl rfl, Or.inr rfl, Or.inr rfl, Or.inr rfl, trivial⟩ ?_
                obtain ⟨hL, hcz⟩ := FI_push w hI hpos (show z39 = n - 1 by omega) ez47.symm t0 t1 (by rw [← ez61]; exact c62) hpz j2 j3 j4 j5 j6 (fun j jj0 jj1 => j7 j jj0 (by omega))
                exact ih n1 M2 (by rw [show n1 = n + M 4 z47 by omega]; exact hL) (by omega)
              · have hfc := w.face z47 k t0 t1 (by omega) (by omega)
                refine V_aload_n (q := 126) dX7_findField_125 rfl rfl rfl ?_
                refine VM_getA (q := 129) 19 dX7_findField_126 rfl flX7_59 rfl rfl (Nat.succ_ne_zero _) ?_
                refine V_iload_n (q := 130) dX7_findField_129 rfl rfl rfl ?_
                refine V_aload_n (q := 131) dX7_findField_130 rfl rfl rfl ?_
                refine VM_getA (q := 134) 6 dX7_findField_131 rfl flX7_23 rfl rfl (Nat.succ_ne_zero _) ?_
                refine V_iconst (q := 135) dX7_findField_134 rfl (by decide) ?_
                refine V_iload (q := 137) dX7_findField_135 rfl rfl ?_
                refine V_imul (q := 138) dX7_findField_137 rfl (by omega) (fun z137 ez137 => ?_)
                refine V_iload (q := 140) dX7_findField_138 rfl rfl ?_
                refine V_iadd (q := 141) dX7_findField_140 rfl (by omega) (fun z140 ez140 => ?_)
                refine VM_iald (q := 142) 5 dX7_findField_141 rfl rfl (by decide) rfl rfl (by omega) (fun z141 ez141 rz141 => ?_)
                rw [fM2 5 (by decide) (by decide)] at ez141
                refine VM_iast (q := 143) 18 dX7_findField_142 rfl rfl (by decide) rfl rfl (by omega) (fun M142 eM142 => ?_)
                have fM142 : ∀ k : Int, k ≠ 18 → k ≠ 19 → M142 k = M k := by intro k h1 h2; rw [eM142, mu_f _ _ _ _ h1]; exact fM2 k h1 h2
                refine V_iinc (q := 146) dX7_findField_143 rfl rfl (by decide) rfl (by omega) (fun z143 lz143 ez143 hlz143 => ?_)
                obtain rfl : lz143 = [(3, 0), (0, a), (0, nm), (0, z143), (0, z47), (9, 0), (0, k)] := hlz143
                refine V_iinc (q := 149) dX7_findField_146 rfl rfl (by decide) rfl (by omega) (fun z146 lz146 ez146 hlz146 => ?_)
                obtain rfl : lz146 = [(3, 0), (0, a), (0, nm), (0, z143), (0, z47), (9, 0), (0, z146)] := hlz146
                refine V_goto (tgt := 120) dX7_findField_149 (by decide) ?_
                exact ih2 (z146) (z143) M142 ⟨by omega, by omega, by omega, fM142, by rw [eM142, mu_f _ _ _ _ (by decide)]; exact j3, fun x hx => by rw [eM142, mu_f _ _ _ _ (by decide)]; exact j4 x hx, fun i i0 i1 => by rw [eM142, mu_i _ _ _ _ (by omega)]; exact j5 i i0 i1, by rw [eM142, mu_i _ _ _ _ (by omega)]; exact j6, fun j jj0 jj1 => by { rw [eM142]; by_cases hj : n + j = n1; { rw [hj, mu_s, ez141, show z140 = 4 * z47 + (M 4 z47 - 1 - j) by omega] }; { rw [mu_i _ _ _ _ hj]; exact j7 j jj0 (by omega) } }⟩ (by omega)
            refine V_fgt [(3, 0), (0, a), (0, nm), (0, z106), (0, z47), (9, 0), (0, z117)] ⟨Or.inl rfl, Or.inl rfl, Or.inl rfl, Or.inl rfl, Or.inl rfl, Or.inr rfl, Or.inl rfl, trivial⟩ ?_
            exact inner (z117) (z106) M105 ⟨by omega, by omega, by omega, fM105, by rw [eM105, mu_f _ _ _ _ (by decide), eM75, mu_s], fun x hx => by rw [eM105, mu_f _ _ _ _ (by decide), eM75, mu_i _ _ _ _ hx], fun i i0 i1 => by rw [eM105, mu_i _ _ _ _ (by omega), eM75, mu_f _ _ _ _ (by decide)], by rw [eM105, mu_s, ez104], fun j jj0 jj1 => absurd jj1 (by omega)⟩
          · refine V_iload (q := 92) dX7_findField_90 rfl rfl ?_
            have hpz0 : z80 = pF M z47 nm := hpz80
            exact VM_iret dX7_findField_92 ⟨_, rfl, fM75, by rw [hpz0] at *; exact FI_own w hI hpos (by omega) ez47.symm t0 t1 (by omega)⟩
        · refine V_goto (tgt := 35) dX7_findField_65 (by decide) ?_
          refine V_fgt [(3, 0), (0, a), (0, nm), (0, z39), (9, 0), (9, 0), (9, 0)] ⟨Or.inl rfl, Or.inl rfl, Or.inl rfl, Or.inl rfl, Or.inr rfl, Or.inr rfl, Or.inr rfl, trivial⟩ ?_
          exact ih (z39) M1 (FI_drop hI hpos (by omega) (FI_seen w hI hpos (by omega) (by rw [← ez47]; omega) (by rw [← ez47, ← ez61]; omega))) (by omega)
  have clr : ∀ (t : Int) (M1 : Mem), (0 ≤ t ∧ t ≤ M 0 0 ∧ (∀ k : Int, k ≠ 18 → k ≠ 19 → M1 k = M k) ∧ M1 18 0 = a ∧ (∀ i : Int, 0 ≤ i → i < t → M1 19 i = 0)) → V Γ (gα αC) ad0 (ZM Γ (gα αC) ad0 (mQ αC C (mI fun r M1 => (∀ k : Int, k ≠ 18 → k ≠ 19 → M1 k = M k) ∧ r = FF M nm a)) 0 0) (RM 1 0 0) RX7 cX7_findField 7 (some .int) yX7_findField.name 12 [] [(3, 0), (0, a), (0, nm), (0, 1), (0, t), (9, 0), (9, 0)] (gα αC) (mm M1 C) 0 0 := by
    refine loop2 _ (fun t _ => (M 0 0 - t).toNat) _ ?_
    rintro t M1 ⟨g1, g2, g3, g5, g4⟩ ih
    have fM1 := g3
    refine V_iload (q := 14) dX7_findField_12 rfl rfl ?_
    refine V_aload_n (q := 15) dX7_findField_14 rfl rfl rfl ?_
    refine VM_getI (q := 18) 0 dX7_findField_15 rfl flX7_128 rfl rfl rfl (fun z15 ez15 rz15 => ?_)
    rw [fM1 0 (by decide) (by decide)] at ez15
    refine V_icmp_ge (q := 21) (tgt := 35) dX7_findField_18 (by decide) rfl (fun c18 => ?_) (fun c18 => ?_)
    · refine V_fgt [(3, 0), (0, a), (0, nm), (0, 1), (9, 0), (9, 0), (9, 0)] ⟨Or.inl rfl, Or.inl rfl, Or.inl rfl, Or.inl rfl, Or.inr rfl, Or.inr rfl, Or.inr rfl, trivial⟩ ?_
      exact outer 1 M1 (FI_init w fM1 g5 ha (fun i i0 i1 => g4 i i0 (by omega)))
    · refine V_aload_n (q := 22) dX7_findField_21 rfl rfl rfl ?_
      refine VM_getA (q := 25) 20 dX7_findField_22 rfl flX7_62 rfl rfl (Nat.succ_ne_zero _) ?_
      refine V_iload (q := 27) dX7_findField_25 rfl rfl ?_
      refine V_iconst (q := 28) dX7_findField_27 rfl (by decide) ?_
      refine VM_zast (q := 29) 19 dX7_findField_28 rfl rfl (by decide) rfl rfl (by omega) (by omega) (fun M28 eM28 => ?_)
      have fM28 : ∀ k : Int, k ≠ 18 → k ≠ 19 → M28 k = M k := by intro k h1 h2; rw [eM28, mu_f _ _ _ _ h2]; exact fM1 k h1 h2
      refine V_iinc (q := 32) dX7_findField_29 rfl rfl (by decide) rfl (by omega) (fun z29 lz29 ez29 hlz29 => ?_)
      obtain rfl : lz29 = [(3, 0), (0, a), (0, nm), (0, 1), (0, z29), (9, 0), (9, 0)] := hlz29
      refine V_goto (tgt := 12) dX7_findField_32 (by decide) ?_
      exact ih (z29) M28 ⟨by omega, by omega, fM28, by rw [eM28, mu_f _ _ _ _ (by decide)]; exact g5, fun i h0 h1 => by { rw [eM28]; by_cases hi : i = t; { rw [hi, mu_s] }; { rw [mu_i _ _ _ _ hi]; exact g4 i h0 (by omega) } }⟩ (by omega)
  refine V_iconst (q := 1) dX7_findField_0 rfl (by decide) ?_
  refine V_istore_n (q := 2) (lv1 := [(3, 0), (0, a), (0, nm), (0, 1), (9, 0), (9, 0), (9, 0)]) dX7_findField_1 rfl rfl (by decide) rfl rfl ?_
  refine V_aload_n (q := 3) dX7_findField_2 rfl rfl rfl ?_
  refine VM_getA (q := 6) 19 dX7_findField_3 rfl flX7_59 rfl rfl (Nat.succ_ne_zero _) ?_
  refine V_iconst (q := 7) dX7_findField_6 rfl (by decide) ?_
  refine V_iload_n (q := 8) dX7_findField_7 rfl rfl rfl ?_
  refine VM_iast (q := 9) 18 dX7_findField_8 rfl rfl (by decide) rfl rfl (by omega) (fun M8 eM8 => ?_)
  have fM8 : ∀ k : Int, k ≠ 18 → k ≠ 19 → M8 k = M k := by intro k h1 h2; rw [eM8, mu_f _ _ _ _ h1]
  refine V_iconst (q := 10) dX7_findField_9 rfl (by decide) ?_
  refine V_istore (q := 12) (lv1 := [(3, 0), (0, a), (0, nm), (0, 1), (0, 0), (9, 0), (9, 0)]) dX7_findField_10 rfl (by decide) rfl rfl ?_
  exact clr 0 M8 ⟨by decide, hn0.1, fM8, by rw [eM8, mu_s], fun i h0 h1 => absurd h1 (by omega)⟩
