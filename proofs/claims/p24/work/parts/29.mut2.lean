theorem tX7_under {Γ : GC} {αC : Sh} {C M : Mem} {t f : Int} (w : WFD M) : MM Γ yX7_under cX7_under 5 (some .int) 2 [(0, t), (0, f)] αC C M (mI fun r M1 => (∀ k : Int, k ≠ 18 → k ≠ 19 → M1 k = undM M t f k) ∧ r = undR M t f) := by
  have hn0 := w.n
  refine MM_of (k := 2) [(3, 0), (0, t), (0, f), (9, 0), (9, 0)] pn_X7_under rfl rfl rfl (fun ad0 => ?_)
  have loop : ∀ (no k : Int) (M1 : Mem), ((0 ≤ t ∧ t < M 0 0) ∧ (0 ≤ f ∧ f < M 0 0) ∧ M 1 f = 1 ∧ ¬ 0 < M 17 0 ∧ M 4 t ≠ 4 ∧ 0 ≤ k ∧ k ≤ M 4 t ∧ (∀ k : Int, k ≠ 18 → k ≠ 19 → M1 k = M k) ∧ (0 ≤ no ∧ no ≤ 1) ∧ (no = 1 ↔ (RS M f t ∨ ∃ j : Int, 0 ≤ j ∧ j < k ∧ M 5 (4 * t + j) = f))) → V Γ (gα αC) ad0 (ZM Γ (gα αC) ad0 (mQ αC C (mI fun r M1 => (∀ k : Int, k ≠ 18 → k ≠ 19 → M1 k = undM M t f k) ∧ r = undR M t f)) 0 0) (RM 2 0 0) RX7 cX7_under 5 (some .int) yX7_under.name 76 [] [(3, 0), (0, t), (0, f), (0, no), (0, k)] (gα αC) (mm M1 C) 0 0 := by
    refine loop3 _ (fun _ k _ => (M 4 t - k).toNat) _ ?_
    rintro no k M1 ⟨ht, hf, hface, hw0, h4, h1, h2, g3, hb, h5⟩ ih
    have fM1 := g3
    have hc := w.cnt t ht.1 (by omega)
    refine V_iload (q := 78) dX7_under_76 rfl rfl ?_
    refine V_aload_n (q := 79) dX7_under_78 rfl rfl rfl ?_
    refine VM_getA (q := 82) 5 dX7_under_79 rfl flX7_20 rfl rfl (Nat.succ_ne_zero _) ?_
    refine V_iload_n (q := 83) dX7_under_82 rfl rfl rfl ?_
    refine VM_iald (q := 84) 4 dX7_under_83 rfl rfl (by decide) rfl rfl (by omega) (fun z83 ez83 rz83 => ?_)
    rw [fM1 4 (by decide) (by decide)] at ez83
    refine V_icmp_ge (q := 87) (tgt := 118) dX7_under_84 (by decide) rfl (fun c84 => ?_) (fun c84 => ?_)
    · refine V_iload_n (q := 119) dX7_under_118 rfl rfl rfl ?_
      refine V_if_eq (q := 122) (tgt := 125) dX7_under_119 (by decide) rfl (fun c119 => ?_) (fun c119 => ?_)
      · refine V_aload_n (q := 126) dX7_under_125 rfl rfl rfl ?_
        refine VM_getA (q := 129) 6 dX7_under_126 rfl flX7_23 rfl rfl (Nat.succ_ne_zero _) ?_
        refine V_iconst (q := 130) dX7_under_129 rfl (by decide) ?_
        refine V_iload_n (q := 131) dX7_under_130 rfl rfl rfl ?_
        refine V_imul (q := 132) dX7_under_131 rfl (by omega) (fun z131 ez131 => ?_)
        refine V_aload_n (q := 133) dX7_under_132 rfl rfl rfl ?_
        refine VM_getA (q := 136) 5 dX7_under_133 rfl flX7_20 rfl rfl (Nat.succ_ne_zero _) ?_
        refine V_iload_n (q := 137) dX7_under_136 rfl rfl rfl ?_
        refine VM_iald (q := 138) 4 dX7_under_137 rfl rfl (by decide) rfl rfl (by omega) (fun z137 ez137 rz137 => ?_)
        rw [fM1 4 (by decide) (by decide)] at ez137
        refine V_iadd (q := 139) dX7_under_138 rfl (by omega) (fun z138 ez138 => ?_)
        refine V_iload_n (q := 140) dX7_under_139 rfl rfl rfl ?_
        refine VM_iast (q := 141) 5 dX7_under_140 rfl rfl (by decide) rfl rfl (by omega) (fun M140 eM140 => ?_)
        refine V_aload_n (q := 142) dX7_under_141 rfl rfl rfl ?_
        refine VM_getA (q := 145) 5 dX7_under_142 rfl flX7_20 rfl rfl (Nat.succ_ne_zero _) ?_
        refine V_iload_n (q := 146) dX7_under_145 rfl rfl rfl ?_
        refine V_dup2 (q := 147) dX7_under_146 rfl (show (0 : Nat) ≠ 2 by decide) (show (3 : Nat) ≠ 2 by decide) ?_
        refine VM_iald (q := 148) 4 dX7_under_147 rfl rfl (by decide) rfl rfl (by omega) (fun z147 ez147 rz147 => ?_)
        rw [eM140, mu_t _ _ _ _ (by decide), g3 4 (by decide) (by decide)] at ez147
        refine V_iconst (q := 149) dX7_under_148 rfl (by decide) ?_
        refine V_iadd (q := 150) dX7_under_149 rfl (by omega) (fun z149 ez149 => ?_)
        refine VM_iast (q := 151) 4 dX7_under_150 rfl rfl (by decide) rfl rfl (by omega) (fun M150 eM150 => ?_)
        refine V_aload_n (q := 152) dX7_under_151 rfl rfl rfl ?_
        refine VM_getA (q := 155) 5 dX7_under_152 rfl flX7_20 rfl rfl (Nat.succ_ne_zero _) ?_
        refine V_iload_n (q := 156) dX7_under_155 rfl rfl rfl ?_
        refine VM_iald (q := 157) 4 dX7_under_156 rfl rfl (by decide) rfl rfl (by omega) (fun z156 ez156 rz156 => ?_)
        rw [eM150, mu_s] at ez156
        have hkf : k = M 4 t := by omega
        rw [hkf] at h5
        have hr : undR M t f = M 4 t + 1 := by { unfold undR; (iterate 4 (first | rw [if_pos (by omega)] | rw [if_neg (by omega)])); exact if_neg (fun hh => by have := h5.mpr hh; omega) }
        exact VM_iret dX7_under_157 ⟨_, rfl, fun k a1 a2 => by { unfold undM; rw [if_pos (by omega), eM150, eM140, show z138 = 4 * t + M 4 t by omega, show z149 = M 4 t + 1 by omega]; exact mu_cong (mu_cong (g3 k a1 a2)) }, by rw [hr]; omega⟩
      · refine V_bipush (q := 124) dX7_under_122 rfl (by decide) ?_
        have hkf : k = M 4 t := by omega
        rw [hkf] at h5
        have hr : undR M t f = -5 := by { unfold undR; (iterate 4 (first | rw [if_pos (by omega)] | rw [if_neg (by omega)])); exact if_pos (h5.mp (by omega)) }
        exact VM_iret dX7_under_124 ⟨_, rfl, by { unfold undM; rw [if_neg (by omega)]; exact g3 }, hr.symm⟩
    · refine V_iload_n (q := 88) dX7_under_87 rfl rfl rfl ?_
      refine V_if_ne (q := 91) (tgt := 106) dX7_under_88 (by decide) rfl (fun c88 => ?_) (fun c88 => ?_)
      · refine V_iconst (q := 107) dX7_under_106 rfl (by decide) ?_
        refine V_goto (tgt := 111) dX7_under_107 (by decide) ?_
        refine V_istore_n (q := 112) (lv1 := [(3, 0), (0, t), (0, f), (0, 1), (0, k)]) dX7_under_111 rfl rfl (by decide) rfl rfl ?_
        refine V_iinc (q := 115) dX7_under_112 rfl rfl (by decide) rfl (by omega) (fun z112 lz112 ez112 hlz112 => ?_)
        obtain rfl : lz112 = [(3, 0), (0, t), (0, f), (0, 1), (0, z112)] := hlz112
        refine V_goto (tgt := 76) dX7_under_115 (by decide) ?_
        exact ih (1) (z112) M1 ⟨ht, hf, hface, hw0, h4, by omega, by omega, g3, by decide, ⟨fun hh => by { rcases h5.mp (by omega) with hh | ⟨j, j0, j1, j2⟩; { exact Or.inl hh }; { exact Or.inr ⟨j, j0, by omega, j2⟩ } }, fun _ => by omega⟩⟩ (by omega)
      · refine V_aload_n (q := 92) dX7_under_91 rfl rfl rfl ?_
        refine VM_getA (q := 95) 6 dX7_under_92 rfl flX7_23 rfl rfl (Nat.succ_ne_zero _) ?_
        refine V_iconst (q := 96) dX7_under_95 rfl (by decide) ?_
        refine V_iload_n (q := 97) dX7_under_96 rfl rfl rfl ?_
        refine V_imul (q := 98) dX7_under_97 rfl (by omega) (fun z97 ez97 => ?_)
        refine V_iload (q := 100) dX7_under_98 rfl rfl ?_
        refine V_iadd (q := 101) dX7_under_100 rfl (by omega) (fun z100 ez100 => ?_)
        refine VM_iald (q := 102) 5 dX7_under_101 rfl rfl (by decide) rfl rfl (by omega) (fun z101 ez101 rz101 => ?_)
        rw [fM1 5 (by decide) (by decide)] at ez101
        refine V_iload_n (q := 103) dX7_under_102 rfl rfl rfl ?_
        refine V_icmp_ne (q := 106) (tgt := 110) dX7_under_103 (by decide) rfl (fun c103 => ?_) (fun c103 => ?_)
        · refine V_iconst (q := 111) dX7_under_110 rfl (by decide) ?_
          refine V_istore_n (q := 112) (lv1 := [(3, 0), (0, t), (0, f), (0, 0), (0, k)]) dX7_under_111 rfl rfl (by decide) rfl rfl ?_
          refine V_iinc (q := 115) dX7_under_112 rfl rfl (by decide) rfl (by omega) (fun z112_2 lz112_2 ez112_2 hlz112_2 => ?_)
          obtain rfl : lz112_2 = [(3, 0), (0, t), (0, f), (0, 0), (0, z112_2)] := hlz112_2
          refine V_goto (tgt := 76) dX7_under_115 (by decide) ?_
          exact ih (0) (z112_2) M1 ⟨ht, hf, hface, hw0, h4, by omega, by omega, g3, by decide, ⟨fun hh => by { first | omega | exact Or.inr ⟨k, h1, by omega, by rw [show 4 * t + k = z100 by omega]; omega⟩ }, fun hh => by { first | omega | (rcases hh with hh | ⟨j, j0, j1, j2⟩; { have := h5.mpr (Or.inl hh); omega }; { by_cases hj : j = k; { subst hj; rw [show 4 * t + j = z100 by omega] at j2; omega }; { have := h5.mpr (Or.inr ⟨j, j0, by omega, j2⟩); omega } }) }⟩⟩ (by omega)
        · refine V_iconst (q := 107) dX7_under_106 rfl (by decide) ?_
          refine V_goto (tgt := 111) dX7_under_107 (by decide) ?_
          refine V_istore_n (q := 112) (lv1 := [(3, 0), (0, t), (0, f), (0, 1), (0, k)]) dX7_under_111 rfl rfl (by decide) rfl rfl ?_
          refine V_iinc (q := 115) dX7_under_112 rfl rfl (by decide) rfl (by omega) (fun z112_3 lz112_3 ez112_3 hlz112_3 => ?_)
          obtain rfl : lz112_3 = [(3, 0), (0, t), (0, f), (0, 1), (0, z112_3)] := hlz112_3
          refine V_goto (tgt := 76) dX7_under_115 (by decide) ?_
          exact ih (1) (z112_3) M1 ⟨ht, hf, hface, hw0, h4, by omega, by omega, g3, by decide, ⟨fun hh => by { first | omega | exact Or.inr ⟨k, h1, by omega, by rw [show 4 * t + k = z100 by omega]; omega⟩ }, fun hh => by { first | omega | (rcases hh with hh | ⟨j, j0, j1, j2⟩; { have := h5.mpr (Or.inl hh); omega }; { by_cases hj : j = k; { subst hj; rw [show 4 * t + j = z100 by omega] at j2; omega }; { have := h5.mpr (Or.inr ⟨j, j0, by omega, j2⟩); omega } }) }⟩⟩ (by omega)
  refine V_aload_n (q := 1) dX7_under_0 rfl rfl rfl ?_
  refine V_iload_n (q := 2) dX7_under_1 rfl rfl rfl ?_
  refine VM_callI (q := 5) (As := [(0, t)]) (tX7_isType (C := C) (M := M) hn0.1) dX7_under_2 rfl mlX7_136 mw_X7_isType im_X7_isType sl_X7_isType md_X7_isType rfl rfl rfl (by decide) (by decide) (Nat.le_refl _) (Nat.le_refl _) (Nat.le_of_ble_eq_true rfl) (fun z2 M2 rz2 hz2 => ?_)
  obtain ⟨hm, bz2, hz2⟩ := hz2
  replace hm := hm.symm
  subst hm
  refine V_if_eq (q := 8) (tgt := 16) dX7_under_5 (by decide) rfl (fun c5 => ?_) (fun c5 => ?_)
  · refine V_iconst (q := 17) dX7_under_16 rfl (by decide) ?_
    have hr : undR M t f = (-1) := by { unfold undR; (repeat' (first | rw [if_pos (by omega)] | rw [if_neg (by omega)])) }
    exact VM_iret dX7_under_17 ⟨_, rfl, by { unfold undM; rw [if_neg (by omega)]; exact fun _ _ _ => rfl }, hr.symm⟩
  · refine V_aload_n (q := 9) dX7_under_8 rfl rfl rfl ?_
    refine V_iload_n (q := 10) dX7_under_9 rfl rfl rfl ?_
    refine VM_callI (q := 13) (As := [(0, f)]) (tX7_isType (C := C) (M := M) hn0.1) dX7_under_10 rfl mlX7_136 mw_X7_isType im_X7_isType sl_X7_isType md_X7_isType rfl rfl rfl (by decide) (by decide) (Nat.le_refl _) (Nat.le_refl _) (Nat.le_of_ble_eq_true rfl) (fun z10 M10 rz10 hz10 => ?_)
    obtain ⟨hm, bz10, hz10⟩ := hz10
    replace hm := hm.symm
    subst hm
    refine V_if_ne (q := 16) (tgt := 18) dX7_under_13 (by decide) rfl (fun c13 => ?_) (fun c13 => ?_)
    · have ht : 0 ≤ t ∧ t < M 0 0 := by omega
      have hf : 0 ≤ f ∧ f < M 0 0 := by omega
      have hc := w.cnt t ht.1 (by omega)
      refine V_aload_n (q := 19) dX7_under_18 rfl rfl rfl ?_
      refine VM_getA (q := 22) 2 dX7_under_19 rfl flX7_7 rfl rfl (Nat.succ_ne_zero _) ?_
      refine V_iload_n (q := 23) dX7_under_22 rfl rfl rfl ?_
      refine VM_zald (q := 24) 1 dX7_under_23 rfl rfl (by decide) rfl rfl (by omega) (fun z23 ez23 rz23 => ?_)
      refine V_if_ne (q := 27) (tgt := 30) dX7_under_24 (by decide) rfl (fun c24 => ?_) (fun c24 => ?_)
      · refine V_aload_n (q := 31) dX7_under_30 rfl rfl rfl ?_
        refine VM_getI (q := 34) 17 dX7_under_31 rfl flX7_140 rfl rfl rfl (fun z31 ez31 rz31 => ?_)
        refine V_if_le (q := 37) (tgt := 40) dX7_under_34 (by decide) rfl (fun c34 => ?_) (fun c34 => ?_)
        · refine V_aload_n (q := 41) dX7_under_40 rfl rfl rfl ?_
          refine VM_getA (q := 44) 5 dX7_under_41 rfl flX7_20 rfl rfl (Nat.succ_ne_zero _) ?_
          refine V_iload_n (q := 45) dX7_under_44 rfl rfl rfl ?_
          refine VM_iald (q := 46) 4 dX7_under_45 rfl rfl (by decide) rfl rfl (by omega) (fun z45 ez45 rz45 => ?_)
          refine V_iconst (q := 47) dX7_under_46 rfl (by decide) ?_
          refine V_icmp_ne (q := 50) (tgt := 53) dX7_under_47 (by decide) rfl (fun c47 => ?_) (fun c47 => ?_)
          · have hface : M 1 f = 1 := by omega
            have hw0 : ¬ 0 < M 17 0 := by omega
            have h4 : M 4 t ≠ 4 := by omega
            refine V_iload_n (q := 54) dX7_under_53 rfl rfl rfl ?_
            refine V_iload_n (q := 55) dX7_under_54 rfl rfl rfl ?_
            refine V_icmp_eq (q := 58) (tgt := 67) dX7_under_55 (by decide) rfl (fun c55 => ?_) (fun c55 => ?_)
            · refine V_iconst (q := 68) dX7_under_67 rfl (by decide) ?_
              refine V_goto (tgt := 72) dX7_under_68 (by decide) ?_
              refine V_istore_n (q := 73) (lv1 := [(3, 0), (0, t), (0, f), (0, 1), (9, 0)]) dX7_under_72 rfl rfl (by decide) rfl rfl ?_
              refine V_iconst (q := 74) dX7_under_73 rfl (by decide) ?_
              refine V_istore (q := 76) (lv1 := [(3, 0), (0, t), (0, f), (0, 1), (0, 0)]) dX7_under_74 rfl (by decide) rfl rfl ?_
              exact loop (1) 0 M ⟨ht, hf, hface, hw0, h4, by decide, by omega, fun _ _ _ => rfl, by decide, ⟨fun _ => Or.inl (Or.inl (by omega)), fun _ => rfl⟩⟩
            · refine V_aload_n (q := 59) dX7_under_58 rfl rfl rfl ?_
              refine V_iload_n (q := 60) dX7_under_59 rfl rfl rfl ?_
              refine V_iload_n (q := 61) dX7_under_60 rfl rfl rfl ?_
              refine VM_callI (q := 64) (As := [(0, f), (0, t)]) (tX7_leads (C := C) (M := M) w hf ht) dX7_under_61 rfl mlX7_147 mw_X7_leads im_X7_leads sl_X7_leads md_X7_leads rfl rfl rfl (by decide) (by decide) (Nat.le_refl _) (Nat.le_refl _) (Nat.le_of_ble_eq_true rfl) (fun z61 M61 rz61 hz61 => ?_)
              obtain ⟨gM61, bz61, hz61⟩ := hz61
              have fM61 := gM61
              refine V_if_eq (q := 67) (tgt := 71) dX7_under_64 (by decide) rfl (fun c64 => ?_) (fun c64 => ?_)
              · refine V_iconst (q := 72) dX7_under_71 rfl (by decide) ?_
                refine V_istore_n (q := 73) (lv1 := [(3, 0), (0, t), (0, f), (0, 0), (9, 0)]) dX7_under_72 rfl rfl (by decide) rfl rfl ?_
                refine V_iconst (q := 74) dX7_under_73 rfl (by decide) ?_
                refine V_istore (q := 76) (lv1 := [(3, 0), (0, t), (0, f), (0, 0), (0, 0)]) dX7_under_74 rfl (by decide) rfl rfl ?_
                exact loop (0) 0 M61 ⟨ht, hf, hface, hw0, h4, by decide, by omega, fM61, by decide, ⟨fun hh => absurd hh (by decide), fun hh => by { rcases hh with hh | ⟨j, j0, j1, -⟩; { have := hz61.mpr ⟨by omega, hh⟩; omega }; { omega } }⟩⟩
              · refine V_iconst (q := 68) dX7_under_67 rfl (by decide) ?_
                refine V_goto (tgt := 72) dX7_under_68 (by decide) ?_
                refine V_istore_n (q := 73) (lv1 := [(3, 0), (0, t), (0, f), (0, 1), (9, 0)]) dX7_under_72 rfl rfl (by decide) rfl rfl ?_
                refine V_iconst (q := 74) dX7_under_73 rfl (by decide) ?_
                refine V_istore (q := 76) (lv1 := [(3, 0), (0, t), (0, f), (0, 1), (0, 0)]) dX7_under_74 rfl (by decide) rfl rfl ?_
                exact loop (1) 0 M61 ⟨ht, hf, hface, hw0, h4, by decide, by omega, fM61, by decide, ⟨fun _ => Or.inl (hz61.mp (by omega)).2, fun _ => rfl⟩⟩
          · refine V_bipush (q := 52) dX7_under_50 rfl (by decide) ?_
            have hr : undR M t f = (-4) := by { unfold undR; (repeat' (first | rw [if_pos (by omega)] | rw [if_neg (by omega)])) }
            exact VM_iret dX7_under_52 ⟨_, rfl, by { unfold undM; rw [if_neg (by omega)]; exact fun _ _ _ => rfl }, hr.symm⟩
        · refine V_bipush (q := 39) dX7_under_37 rfl (by decide) ?_
          have hr : undR M t f = (-3) := by { unfold undR; (repeat' (first | rw [if_pos (by omega)] | rw [if_neg (by omega)])) }
          exact VM_iret dX7_under_39 ⟨_, rfl, by { unfold undM; rw [if_neg (by omega)]; exact fun _ _ _ => rfl }, hr.symm⟩
      · refine V_bipush (q := 29) dX7_under_27 rfl (by decide) ?_
        have hr : undR M t f = (-2) := by { unfold undR; (repeat' (first | rw [if_pos (by omega)] | rw [if_neg (by omega)])) }
        exact VM_iret dX7_under_29 ⟨_, rfl, by { unfold undM; rw [if_neg (by omega)]; exact fun _ _ _ => rfl }, hr.symm⟩
    · refine V_iconst (q := 17) dX7_under_16 rfl (by decide) ?_
      have hr : undR M t f = (-1) := by { unfold undR; (repeat' (first | rw [if_pos (by omega)] | rw [if_neg (by omega)])) }
      exact VM_iret dX7_under_17 ⟨_, rfl, by { unfold undM; rw [if_neg (by omega)]; exact fun _ _ _ => rfl }, hr.symm⟩
theorem tX7_below {Γ : GC} {αC : Sh} {C M : Mem} {t u : Int} (w : WFD M) : MM Γ yX7_below cX7_below 3 (some .int) 2 [(0, t), (0, u)] αC C M (mI fun r M1 => (∀ k : Int, k ≠ 18 → k ≠ 19 → M1 k = M k) ∧ r = belowR M t u) := by
  have hn0 := w.n
  refine MM_of (k := 0) [(3, 0), (0, t), (0, u)] pn_X7_below rfl rfl rfl (fun ad0 => ?_)
  refine V_aload_n (q := 1) dX7_below_0 rfl rfl rfl ?_
  refine V_iload_n (q := 2) dX7_below_1 rfl rfl rfl ?_
  refine VM_callI (q := 5) (As := [(0, t)]) (tX7_isType (C := C) (M := M) hn0.1) dX7_below_2 rfl mlX7_136 mw_X7_isType im_X7_isType sl_X7_isType md_X7_isType rfl rfl rfl (by decide) (by decide) (Nat.le_refl _) (Nat.le_refl _) (Nat.le_of_ble_eq_true rfl) (fun z2 M2 rz2 hz2 => ?_)
  obtain ⟨hm, bz2, hz2⟩ := hz2
  replace hm := hm.symm
  subst hm
  refine V_if_eq (q := 8) (tgt := 16) dX7_below_5 (by decide) rfl (fun c5 => ?_) (fun c5 => ?_)
  · refine V_iconst (q := 17) dX7_below_16 rfl (by decide) ?_
    exact VM_iret dX7_below_17 ⟨_, rfl, fun _ _ _ => rfl, by { unfold belowR; rw [if_pos (by omega)] }⟩
  · refine V_aload_n (q := 9) dX7_below_8 rfl rfl rfl ?_
    refine V_iload_n (q := 10) dX7_below_9 rfl rfl rfl ?_
    refine VM_callI (q := 13) (As := [(0, u)]) (tX7_isType (C := C) (M := M) hn0.1) dX7_below_10 rfl mlX7_136 mw_X7_isType im_X7_isType sl_X7_isType md_X7_isType rfl rfl rfl (by decide) (by decide) (Nat.le_refl _) (Nat.le_refl _) (Nat.le_of_ble_eq_true rfl) (fun z10 M10 rz10 hz10 => ?_)
    obtain ⟨hm, bz10, hz10⟩ := hz10
    replace hm := hm.symm
    subst hm
    refine V_if_ne (q := 16) (tgt := 18) dX7_below_13 (by decide) rfl (fun c13 => ?_) (fun c13 => ?_)
    · have ht : 0 ≤ t ∧ t < M 0 0 := by omega
      have hu : 0 ≤ u ∧ u < M 0 0 := by omega
      refine V_aload_n (q := 19) dX7_below_18 rfl rfl rfl ?_
      refine V_iload_n (q := 20) dX7_below_19 rfl rfl rfl ?_
      refine V_iload_n (q := 21) dX7_below_20 rfl rfl rfl ?_
      refine VM_callI (q := 24) (As := [(0, t), (0, u)]) (tX7_leads (C := C) (M := M) w ht hu) dX7_below_21 rfl mlX7_147 mw_X7_leads im_X7_leads sl_X7_leads md_X7_leads rfl rfl rfl (by decide) (by decide) (Nat.le_refl _) (Nat.le_refl _) (Nat.le_of_ble_eq_true rfl) (fun z21 M21 rz21 hz21 => ?_)
      obtain ⟨gM21, bz21, hz21⟩ := hz21
      have fM21 := gM21
      refine V_if_eq (q := 27) (tgt := 31) dX7_below_24 (by decide) rfl (fun c24 => ?_) (fun c24 => ?_)
      · refine V_iconst (q := 32) dX7_below_31 rfl (by decide) ?_
        exact VM_iret dX7_below_32 ⟨_, rfl, fM21, by { unfold belowR; rw [if_neg (by omega)]; exact (if_neg (fun hh => by have := hz21.mpr hh; omega)).symm }⟩
      · refine V_iconst (q := 28) dX7_below_27 rfl (by decide) ?_
        refine V_goto (tgt := 32) dX7_below_28 (by decide) ?_
        exact VM_iret dX7_below_32 ⟨_, rfl, fM21, by { unfold belowR; rw [if_neg (by omega)]; exact (if_pos (hz21.mp (by omega))).symm }⟩
    · refine V_iconst (q := 17) dX7_below_16 rfl (by decide) ?_
      exact VM_iret dX7_below_17 ⟨_, rfl, fun _ _ _ => rfl, by { unfold belowR; rw [if_pos (by omega)] }⟩
theorem tX7_found {Γ : GC} {αC : Sh} {C M : Mem} {t nm me : Int} (w : WFD M) : MM Γ yX7_found cX7_found 5 (some .int) 2 [(0, t), (0, nm), (0, me)] αC C M (mI fun r M1 => (∀ k : Int, k ≠ 18 → k ≠ 19 → M1 k = M k) ∧ r = foundR M t nm me) := by
  have hn0 := w.n
  refine MM_of (k := 1) [(3, 0), (0, t), (0, nm), (0, me), (9, 0)] pn_X7_found rfl rfl rfl (fun ad0 => ?_)
  refine V_aload_n (q := 1) dX7_found_0 rfl rfl rfl ?_
  refine V_iload_n (q := 2) dX7_found_1 rfl rfl rfl ?_
  refine VM_callI (q := 5) (As := [(0, t)]) (tX7_isType (C := C) (M := M) hn0.1) dX7_found_2 rfl mlX7_136 mw_X7_isType im_X7_isType sl_X7_isType md_X7_isType rfl rfl rfl (by decide) (by decide) (Nat.le_refl _) (Nat.le_refl _) (Nat.le_of_ble_eq_true rfl) (fun z2 M2 rz2 hz2 => ?_)
  obtain ⟨hm, bz2, hz2⟩ := hz2
  replace hm := hm.symm
  subst hm
  refine V_if_ne (q := 8) (tgt := 10) dX7_found_5 (by decide) rfl (fun c5 => ?_) (fun c5 => ?_)
  · refine V_iload_n (q := 11) dX7_found_10 rfl rfl rfl ?_
    refine V_iconst (q := 12) dX7_found_11 rfl (by decide) ?_
    refine V_bipush (q := 14) dX7_found_12 rfl (by decide) ?_
    refine V_in (q := 17) dX7_found_14 rfl mlX7_132 (by decide) (by decide) (Nat.le_refl _) (Nat.le_refl _) (Nat.le_of_ble_eq_true rfl) (fun z14 rz14 ez14 => ?_)
    refine V_if_ne (q := 20) (tgt := 23) dX7_found_17 (by decide) rfl (fun c17 => ?_) (fun c17 => ?_)
    · have ht : 0 ≤ t ∧ t < M 0 0 := by omega
      refine V_iload_n (q := 24) dX7_found_23 rfl rfl rfl ?_
      refine V_if_eq (q := 27) (tgt := 36) dX7_found_24 (by decide) rfl (fun c24 => ?_) (fun c24 => ?_)
      · refine V_aload_n (q := 37) dX7_found_36 rfl rfl rfl ?_
        refine V_iload_n (q := 38) dX7_found_37 rfl rfl rfl ?_
        refine V_iload_n (q := 39) dX7_found_38 rfl rfl rfl ?_
        refine VM_callI (q := 42) (As := [(0, t), (0, nm)]) (tX7_findField (C := C) (M := M) w ht) dX7_found_39 rfl mlX7_161 mw_X7_findField im_X7_findField sl_X7_findField md_X7_findField rfl rfl rfl (by decide) (by decide) (Nat.le_refl _) (Nat.le_refl _) (Nat.le_of_ble_eq_true rfl) (fun z39 M39 rz39 hz39 => ?_)
        obtain ⟨gM39, hz39⟩ := hz39
        have fM39 := gM39
        refine V_istore (q := 44) (lv1 := [(3, 0), (0, t), (0, nm), (0, me), (0, z39)]) dX7_found_42 rfl (by decide) rfl rfl ?_
        refine V_iload (q := 46) dX7_found_44 rfl rfl ?_
        refine V_if_ge (q := 49) (tgt := 54) dX7_found_46 (by decide) rfl (fun c46 => ?_) (fun c46 => ?_)
        · refine V_iload_n (q := 55) dX7_found_54 rfl rfl rfl ?_
          refine V_if_eq (q := 58) (tgt := 65) dX7_found_55 (by decide) rfl (fun c55 => ?_) (fun c55 => ?_)
          · refine V_iload (q := 67) dX7_found_65 rfl rfl ?_
            refine V_bipush (q := 69) dX7_found_67 rfl (by decide) ?_
            refine V_idiv (q := 70) dX7_found_69 rfl (by omega) (by decide) (fun z69 ez69 => ?_)
            first | (exfalso; omega) | exact VM_iret dX7_found_70 ⟨_, rfl, fM39, by { unfold foundR; (repeat' (first | rw [if_pos (by omega)] | rw [if_neg (by omega)])); try omega }⟩
          · refine V_iload (q := 60) dX7_found_58 rfl rfl ?_
            refine V_iconst (q := 61) dX7_found_60 rfl (by decide) ?_
            refine V_idiv (q := 62) dX7_found_61 rfl (by omega) (by decide) (fun z61 ez61 => ?_)
            refine V_goto (tgt := 70) dX7_found_62 (by decide) ?_
            first | (exfalso; omega) | exact VM_iret dX7_found_70 ⟨_, rfl, fM39, by { unfold foundR; (repeat' (first | rw [if_pos (by omega)] | rw [if_neg (by omega)])); try omega }⟩
        · refine V_bipush (q := 51) dX7_found_49 rfl (by decide) ?_
          refine V_goto (tgt := 70) dX7_found_51 (by decide) ?_
          first | (exfalso; omega) | exact VM_iret dX7_found_70 ⟨_, rfl, fM39, by { unfold foundR; (repeat' (first | rw [if_pos (by omega)] | rw [if_neg (by omega)])); try omega }⟩
      · refine V_aload_n (q := 28) dX7_found_27 rfl rfl rfl ?_
        refine V_iload_n (q := 29) dX7_found_28 rfl rfl rfl ?_
        refine V_iload_n (q := 30) dX7_found_29 rfl rfl rfl ?_
        refine VM_callI (q := 33) (As := [(0, t), (0, nm)]) (tX7_findMethod (C := C) (M := M) w ht) dX7_found_30 rfl mlX7_158 mw_X7_findMethod im_X7_findMethod sl_X7_findMethod md_X7_findMethod rfl rfl rfl (by decide) (by decide) (Nat.le_refl _) (Nat.le_refl _) (Nat.le_of_ble_eq_true rfl) (fun z30 M30 rz30 hz30 => ?_)
        obtain ⟨hm, hz30⟩ := hz30
        replace hm := hm.symm
        subst hm
        refine V_goto (tgt := 42) dX7_found_33 (by decide) ?_
        refine V_istore (q := 44) (lv1 := [(3, 0), (0, t), (0, nm), (0, me), (0, z30)]) dX7_found_42 rfl (by decide) rfl rfl ?_
        refine V_iload (q := 46) dX7_found_44 rfl rfl ?_
        refine V_if_ge (q := 49) (tgt := 54) dX7_found_46 (by decide) rfl (fun c46_2 => ?_) (fun c46_2 => ?_)
        · refine V_iload_n (q := 55) dX7_found_54 rfl rfl rfl ?_
          refine V_if_eq (q := 58) (tgt := 65) dX7_found_55 (by decide) rfl (fun c55_2 => ?_) (fun c55_2 => ?_)
          · refine V_iload (q := 67) dX7_found_65 rfl rfl ?_
            refine V_bipush (q := 69) dX7_found_67 rfl (by decide) ?_
            refine V_idiv (q := 70) dX7_found_69 rfl (by omega) (by decide) (fun z69_2 ez69_2 => ?_)
            first | (exfalso; omega) | exact VM_iret dX7_found_70 ⟨_, rfl, fun _ _ _ => rfl, by { unfold foundR; (repeat' (first | rw [if_pos (by omega)] | rw [if_neg (by omega)])); try omega }⟩
          · refine V_iload (q := 60) dX7_found_58 rfl rfl ?_
            refine V_iconst (q := 61) dX7_found_60 rfl (by decide) ?_
            refine V_idiv (q := 62) dX7_found_61 rfl (by omega) (by decide) (fun z61_2 ez61_2 => ?_)
            refine V_goto (tgt := 70) dX7_found_62 (by decide) ?_
            first | (exfalso; omega) | exact VM_iret dX7_found_70 ⟨_, rfl, fun _ _ _ => rfl, by { unfold foundR; (repeat' (first | rw [if_pos (by omega)] | rw [if_neg (by omega)])); try omega }⟩
        · refine V_bipush (q := 51) dX7_found_49 rfl (by decide) ?_
          refine V_goto (tgt := 70) dX7_found_51 (by decide) ?_
          first | (exfalso; omega) | exact VM_iret dX7_found_70 ⟨_, rfl, fun _ _ _ => rfl, by { unfold foundR; (repeat' (first | rw [if_pos (by omega)] | rw [if_neg (by omega)])); try omega }⟩
    · refine V_bipush (q := 22) dX7_found_20 rfl (by decide) ?_
      first | (exfalso; omega) | exact VM_iret dX7_found_22 ⟨_, rfl, fun _ _ _ => rfl, by { unfold foundR; (repeat' (first | rw [if_pos (by omega)] | rw [if_neg (by omega)])); try omega }⟩
  · refine V_iconst (q := 9) dX7_found_8 rfl (by decide) ?_
    first | (exfalso; omega) | exact VM_iret dX7_found_9 ⟨_, rfl, fun _ _ _ => rfl, by { unfold foundR; (repeat' (first | rw [if_pos (by omega)] | rw [if_neg (by omega)])); try omega }⟩
theorem tX7_told {Γ : GC} {αC : Sh} {C M : Mem} {t x : Int} (w : WFD M) : MM Γ yX7_told cX7_told 5 (some .int) 2 [(0, t), (0, x)] αC C M (mI fun r M1 => (∀ k : Int, k ≠ 18 → k ≠ 19 → M1 k = M k) ∧ r = toldR M t x) := by
  have hn0 := w.n
  refine MM_of (k := 2) [(3, 0), (0, t), (0, x), (9, 0), (9, 0)] pn_X7_told rfl rfl rfl (fun ad0 => ?_)
  have loop : ∀ (c k : Int) (M1 : Mem), ((0 ≤ t ∧ t < M 0 0) ∧ x = 9 ∧ 0 ≤ k ∧ k ≤ M 0 0 ∧ (∀ k : Int, k ≠ 18 → k ≠ 19 → M1 k = M k) ∧ c = cntP (fun k => k ≠ t ∧ RS M k t) k.toNat) → V Γ (gα αC) ad0 (ZM Γ (gα αC) ad0 (mQ αC C (mI fun r M1 => (∀ k : Int, k ≠ 18 → k ≠ 19 → M1 k = M k) ∧ r = toldR M t x)) 0 0) (RM 2 0 0) RX7 cX7_told 5 (some .int) yX7_told.name 174 [] [(3, 0), (0, t), (0, x), (0, c), (0, k)] (gα αC) (mm M1 C) 0 0 := by
    refine loop3 _ (fun _ k _ => (M 0 0 - k).toNat) _ ?_
    rintro c k M1 ⟨ht, hx, h1, h2, g3, h5⟩ ih
    have fM1 := g3
    have hcl := cntP_le (fun k => k ≠ t ∧ RS M k t) k.toNat
    refine V_iload (q := 176) dX7_told_174 rfl rfl ?_
    refine V_aload_n (q := 177) dX7_told_176 rfl rfl rfl ?_
    refine VM_getI (q := 180) 0 dX7_told_177 rfl flX7_128 rfl rfl rfl (fun z177 ez177 rz177 => ?_)
    rw [fM1 0 (by decide) (by decide)] at ez177
    refine V_icmp_ge (q := 183) (tgt := 207) dX7_told_180 (by decide) rfl (fun c180 => ?_) (fun c180 => ?_)
    · refine V_iload_n (q := 208) dX7_told_207 rfl rfl rfl ?_
      exact VM_iret dX7_told_208 ⟨_, rfl, fM1, by { unfold toldR; (repeat' (first | rw [if_pos (by omega)] | rw [if_neg (by omega)])); rw [show (M 0 0).toNat = k.toNat by omega]; exact h5 }⟩
    · refine V_iload_n (q := 184) dX7_told_183 rfl rfl rfl ?_
      refine V_aload_n (q := 185) dX7_told_184 rfl rfl rfl ?_
      refine V_iload (q := 187) dX7_told_185 rfl rfl ?_
      refine V_iload_n (q := 188) dX7_told_187 rfl rfl rfl ?_
      refine VM_callI (q := 191) (As := [(0, k), (0, t)]) (tX7_leads (C := C) (M := M1) (SD_WFD (sdf fM1) w) (by rw [fM1 0 (by decide) (by decide)]; omega) (by rw [fM1 0 (by decide) (by decide)]; omega)) dX7_told_188 rfl mlX7_147 mw_X7_leads im_X7_leads sl_X7_leads md_X7_leads rfl rfl rfl (by decide) (by decide) (Nat.le_refl _) (Nat.le_refl _) (Nat.le_of_ble_eq_true rfl) (fun z188 M188 rz188 hz188 => ?_)
      obtain ⟨gM188, bz188, hz188⟩ := hz188
      have fM188 : ∀ k : Int, k ≠ 18 → k ≠ 19 → M188 k = M k := fun k h1 h2 => (gM188 k h1 h2).trans (fM1 k h1 h2)
      rw [SD_RS (sdf fM1)] at hz188
      refine V_if_eq (q := 194) (tgt := 198) dX7_told_191 (by decide) rfl (fun c191 => ?_) (fun c191 => ?_)
      · refine V_iconst (q := 199) dX7_told_198 rfl (by decide) ?_
        refine V_iadd (q := 200) dX7_told_199 rfl (by omega) (fun z199 ez199 => ?_)
        refine V_istore_n (q := 201) (lv1 := [(3, 0), (0, t), (0, x), (0, z199), (0, k)]) dX7_told_200 rfl rfl (by decide) rfl rfl ?_
        refine V_iinc (q := 204) dX7_told_201 rfl rfl (by decide) rfl (by omega) (fun z201 lz201 ez201 hlz201 => ?_)
        obtain rfl : lz201 = [(3, 0), (0, t), (0, x), (0, z199), (0, z201)] := hlz201
        refine V_goto (tgt := 174) dX7_told_204 (by decide) ?_
        exact ih (z199) (z201) M188 ⟨ht, hx, by omega, by omega, fM188, by { rw [ez201, cntP_s h1, if_neg (fun hh => by have := hz188.mpr hh; omega)]; omega }⟩ (by omega)
      · refine V_iconst (q := 195) dX7_told_194 rfl (by decide) ?_
        refine V_goto (tgt := 199) dX7_told_195 (by decide) ?_
        refine V_iadd (q := 200) dX7_told_199 rfl (by omega) (fun z199_2 ez199_2 => ?_)
        refine V_istore_n (q := 201) (lv1 := [(3, 0), (0, t), (0, x), (0, z199_2), (0, k)]) dX7_told_200 rfl rfl (by decide) rfl rfl ?_
        refine V_iinc (q := 204) dX7_told_201 rfl rfl (by decide) rfl (by omega) (fun z201_2 lz201_2 ez201_2 hlz201_2 => ?_)
        obtain rfl : lz201_2 = [(3, 0), (0, t), (0, x), (0, z199_2), (0, z201_2)] := hlz201_2
        refine V_goto (tgt := 174) dX7_told_204 (by decide) ?_
        exact ih (z199_2) (z201_2) M188 ⟨ht, hx, by omega, by omega, fM188, by { rw [ez201_2, cntP_s h1, if_pos (hz188.mp (by omega))]; omega }⟩ (by omega)
  refine V_iload_n (q := 1) dX7_told_0 rfl rfl rfl ?_
  refine V_iconst (q := 2) dX7_told_1 rfl (by decide) ?_
  refine V_bipush (q := 4) dX7_told_2 rfl (by decide) ?_
  refine V_in (q := 7) dX7_told_4 rfl mlX7_132 (by decide) (by decide) (Nat.le_refl _) (Nat.le_refl _) (Nat.le_of_ble_eq_true rfl) (fun z4 rz4 ez4 => ?_)
  refine V_if_ne (q := 10) (tgt := 13) dX7_told_7 (by decide) rfl (fun c7 => ?_) (fun c7 => ?_)
  · refine V_iload_n (q := 14) dX7_told_13 rfl rfl rfl ?_
    refine V_iconst (q := 15) dX7_told_14 rfl (by decide) ?_
    refine V_icmp_ge (q := 18) (tgt := 34) dX7_told_15 (by decide) rfl (fun c15 => ?_) (fun c15 => ?_)
    · refine V_aload_n (q := 35) dX7_told_34 rfl rfl rfl ?_
      refine V_iload_n (q := 36) dX7_told_35 rfl rfl rfl ?_
      refine VM_callI (q := 39) (As := [(0, t)]) (tX7_isType (C := C) (M := M) hn0.1) dX7_told_36 rfl mlX7_136 mw_X7_isType im_X7_isType sl_X7_isType md_X7_isType rfl rfl rfl (by decide) (by decide) (Nat.le_refl _) (Nat.le_refl _) (Nat.le_of_ble_eq_true rfl) (fun z36 M36 rz36 hz36 => ?_)
      obtain ⟨hm, bz36, hz36⟩ := hz36
      replace hm := hm.symm
      subst hm
      refine V_if_ne (q := 42) (tgt := 44) dX7_told_39 (by decide) rfl (fun c39 => ?_) (fun c39 => ?_)
      · refine V_iload_n (q := 45) dX7_told_44 rfl rfl rfl ?_
        rcases (show x = 2 ∨ x = 3 ∨ x = 4 ∨ x = 5 ∨ x = 6 ∨ x = 7 ∨ x = 8 ∨ (x ≠ 2 ∧ x ≠ 3 ∧ x ≠ 4 ∧ x ≠ 5 ∧ x ≠ 6 ∧ x ≠ 7 ∧ x ≠ 8) by omega) with c45 | c45 | c45 | c45 | c45 | c45 | c45 | c45
        · subst c45
          refine V_tswIn (tgt := 88) (off := 43) dX7_told_45 (by decide) (by decide) rfl (by decide) ?_
          have hc := w.cnt t (by omega) (by omega)
          refine V_aload_n (q := 89) dX7_told_88 rfl rfl rfl ?_
          refine VM_getA (q := 92) 2 dX7_told_89 rfl flX7_7 rfl rfl (Nat.succ_ne_zero _) ?_
          refine V_iload_n (q := 93) dX7_told_92 rfl rfl rfl ?_
          refine VM_zald (q := 94) 1 dX7_told_93 rfl rfl (by decide) rfl rfl (by omega) (fun z93 ez93 rz93 => ?_)
          refine V_if_eq (q := 97) (tgt := 101) dX7_told_94 (by decide) rfl (fun c94 => ?_) (fun c94 => ?_)
          · refine V_iconst (q := 102) dX7_told_101 rfl (by decide) ?_
            first | (exfalso; omega) | exact VM_iret dX7_told_102 ⟨_, rfl, fun _ _ _ => rfl, by { unfold toldR; (repeat' (first | rw [if_pos (by omega)] | rw [if_neg (by omega)])); try omega }⟩
          · refine V_iconst (q := 98) dX7_told_97 rfl (by decide) ?_
            refine V_goto (tgt := 102) dX7_told_98 (by decide) ?_
            first | (exfalso; omega) | exact VM_iret dX7_told_102 ⟨_, rfl, fun _ _ _ => rfl, by { unfold toldR; (repeat' (first | rw [if_pos (by omega)] | rw [if_neg (by omega)])); try omega }⟩
        · subst c45
          refine V_tswIn (tgt := 103) (off := 58) dX7_told_45 (by decide) (by decide) rfl (by decide) ?_
          refine V_aload_n (q := 104) dX7_told_103 rfl rfl rfl ?_
          refine VM_getA (q := 107) 3 dX7_told_104 rfl flX7_13 rfl rfl (Nat.succ_ne_zero _) ?_
          refine V_iload_n (q := 108) dX7_told_107 rfl rfl rfl ?_
          refine VM_zald (q := 109) 2 dX7_told_108 rfl rfl (by decide) rfl rfl (by omega) (fun z108 ez108 rz108 => ?_)
          refine V_if_eq (q := 112) (tgt := 116) dX7_told_109 (by decide) rfl (fun c109 => ?_) (fun c109 => ?_)
          · refine V_iconst (q := 117) dX7_told_116 rfl (by decide) ?_
            first | (exfalso; omega) | exact VM_iret dX7_told_117 ⟨_, rfl, fun _ _ _ => rfl, by { unfold toldR; (repeat' (first | rw [if_pos (by omega)] | rw [if_neg (by omega)])); try omega }⟩
          · refine V_iconst (q := 113) dX7_told_112 rfl (by decide) ?_
            refine V_goto (tgt := 117) dX7_told_113 (by decide) ?_
            first | (exfalso; omega) | exact VM_iret dX7_told_117 ⟨_, rfl, fun _ _ _ => rfl, by { unfold toldR; (repeat' (first | rw [if_pos (by omega)] | rw [if_neg (by omega)])); try omega }⟩
        · subst c45
          refine V_tswIn (tgt := 118) (off := 73) dX7_told_45 (by decide) (by decide) rfl (by decide) ?_
          refine V_aload_n (q := 119) dX7_told_118 rfl rfl rfl ?_
          refine VM_getA (q := 122) 4 dX7_told_119 rfl flX7_16 rfl rfl (Nat.succ_ne_zero _) ?_
          refine V_iload_n (q := 123) dX7_told_122 rfl rfl rfl ?_
          refine VM_iald (q := 124) 3 dX7_told_123 rfl rfl (by decide) rfl rfl (by omega) (fun z123 ez123 rz123 => ?_)
          refine V_if_ge (q := 127) (tgt := 132) dX7_told_124 (by decide) rfl (fun c124 => ?_) (fun c124 => ?_)
          · refine V_aload_n (q := 133) dX7_told_132 rfl rfl rfl ?_
            refine VM_getA (q := 136) 4 dX7_told_133 rfl flX7_16 rfl rfl (Nat.succ_ne_zero _) ?_
            refine V_iload_n (q := 137) dX7_told_136 rfl rfl rfl ?_
            refine VM_iald (q := 138) 3 dX7_told_137 rfl rfl (by decide) rfl rfl (by omega) (fun z137 ez137 rz137 => ?_)
            first | (exfalso; omega) | exact VM_iret dX7_told_138 ⟨_, rfl, fun _ _ _ => rfl, by { unfold toldR; (repeat' (first | rw [if_pos (by omega)] | rw [if_neg (by omega)])); try omega }⟩
          · refine V_bipush (q := 129) dX7_told_127 rfl (by decide) ?_
            refine V_goto (tgt := 138) dX7_told_129 (by decide) ?_
            first | (exfalso; omega) | exact VM_iret dX7_told_138 ⟨_, rfl, fun _ _ _ => rfl, by { unfold toldR; (repeat' (first | rw [if_pos (by omega)] | rw [if_neg (by omega)])); try omega }⟩
        · subst c45
          refine V_tswIn (tgt := 139) (off := 94) dX7_told_45 (by decide) (by decide) rfl (by decide) ?_
          refine V_aload_n (q := 140) dX7_told_139 rfl rfl rfl ?_
          refine VM_getA (q := 143) 5 dX7_told_140 rfl flX7_20 rfl rfl (Nat.succ_ne_zero _) ?_
          refine V_iload_n (q := 144) dX7_told_143 rfl rfl rfl ?_
          refine VM_iald (q := 145) 4 dX7_told_144 rfl rfl (by decide) rfl rfl (by omega) (fun z144 ez144 rz144 => ?_)
          first | (exfalso; omega) | exact VM_iret dX7_told_145 ⟨_, rfl, fun _ _ _ => rfl, by { unfold toldR; (repeat' (first | rw [if_pos (by omega)] | rw [if_neg (by omega)])); try omega }⟩
        · subst c45
          refine V_tswIn (tgt := 146) (off := 101) dX7_told_45 (by decide) (by decide) rfl (by decide) ?_
          refine V_aload_n (q := 147) dX7_told_146 rfl rfl rfl ?_
          refine VM_getA (q := 150) 7 dX7_told_147 rfl flX7_26 rfl rfl (Nat.succ_ne_zero _) ?_
          refine V_iload_n (q := 151) dX7_told_150 rfl rfl rfl ?_
          refine VM_iald (q := 152) 6 dX7_told_151 rfl rfl (by decide) rfl rfl (by omega) (fun z151 ez151 rz151 => ?_)
          first | (exfalso; omega) | exact VM_iret dX7_told_152 ⟨_, rfl, fun _ _ _ => rfl, by { unfold toldR; (repeat' (first | rw [if_pos (by omega)] | rw [if_neg (by omega)])); try omega }⟩
        · subst c45
          refine V_tswIn (tgt := 153) (off := 108) dX7_told_45 (by decide) (by decide) rfl (by decide) ?_
          refine V_aload_n (q := 154) dX7_told_153 rfl rfl rfl ?_
          refine VM_getA (q := 157) 11 dX7_told_154 rfl flX7_38 rfl rfl (Nat.succ_ne_zero _) ?_
          refine V_iload_n (q := 158) dX7_told_157 rfl rfl rfl ?_
          refine VM_iald (q := 159) 10 dX7_told_158 rfl rfl (by decide) rfl rfl (by omega) (fun z158 ez158 rz158 => ?_)
          first | (exfalso; omega) | exact VM_iret dX7_told_159 ⟨_, rfl, fun _ _ _ => rfl, by { unfold toldR; (repeat' (first | rw [if_pos (by omega)] | rw [if_neg (by omega)])); try omega }⟩
        · subst c45
          refine V_tswIn (tgt := 160) (off := 115) dX7_told_45 (by decide) (by decide) rfl (by decide) ?_
          have hs := w.size (5 * t) (by omega) (by omega)
          refine V_aload_n (q := 161) dX7_told_160 rfl rfl rfl ?_
          refine VM_getA (q := 164) 13 dX7_told_161 rfl flX7_44 rfl rfl (Nat.succ_ne_zero _) ?_
          refine V_iconst (q := 165) dX7_told_164 rfl (by decide) ?_
          refine V_iload_n (q := 166) dX7_told_165 rfl rfl rfl ?_
          refine V_imul (q := 167) dX7_told_166 rfl (by omega) (fun z166 ez166 => ?_)
          refine VM_iald (q := 168) 12 dX7_told_167 rfl rfl (by decide) rfl rfl (by omega) (fun z167 ez167 rz167 => ?_)
          rw [show z166 = 5 * t by omega] at ez167
          first | (exfalso; omega) | exact VM_iret dX7_told_168 ⟨_, rfl, fun _ _ _ => rfl, by { unfold toldR; (repeat' (first | rw [if_pos (by omega)] | rw [if_neg (by omega)])); try omega }⟩
        · refine V_tswOut (tgt := 169) dX7_told_45 (by omega) (by decide) ?_
          refine V_iconst (q := 170) dX7_told_169 rfl (by decide) ?_
          refine V_istore_n (q := 171) (lv1 := [(3, 0), (0, t), (0, x), (0, 0), (9, 0)]) dX7_told_170 rfl rfl (by decide) rfl rfl ?_
          refine V_iconst (q := 172) dX7_told_171 rfl (by decide) ?_
          refine V_istore (q := 174) (lv1 := [(3, 0), (0, t), (0, x), (0, 0), (0, 0)]) dX7_told_172 rfl (by decide) rfl rfl ?_
          exact loop 0 0 M ⟨by omega, by omega, by decide, hn0.1, fun _ _ _ => rfl, rfl⟩
      · refine V_iconst (q := 43) dX7_told_42 rfl (by decide) ?_
        first | (exfalso; omega) | exact VM_iret dX7_told_43 ⟨_, rfl, fun _ _ _ => rfl, by { unfold toldR; (repeat' (first | rw [if_pos (by omega)] | rw [if_neg (by omega)])); try omega }⟩
    · refine V_iload_n (q := 19) dX7_told_18 rfl rfl rfl ?_
      refine V_if_ne (q := 22) (tgt := 29) dX7_told_19 (by decide) rfl (fun c19 => ?_) (fun c19 => ?_)
      · refine V_aload_n (q := 30) dX7_told_29 rfl rfl rfl ?_
        refine VM_getI (q := 33) 17 dX7_told_30 rfl flX7_140 rfl rfl rfl (fun z30 ez30 rz30 => ?_)
        first | (exfalso; omega) | exact VM_iret dX7_told_33 ⟨_, rfl, fun _ _ _ => rfl, by { unfold toldR; (repeat' (first | rw [if_pos (by omega)] | rw [if_neg (by omega)])); try omega }⟩
      · refine V_aload_n (q := 23) dX7_told_22 rfl rfl rfl ?_
        refine VM_getI (q := 26) 0 dX7_told_23 rfl flX7_128 rfl rfl rfl (fun z23 ez23 rz23 => ?_)
        refine V_goto (tgt := 33) dX7_told_26 (by decide) ?_
        first | (exfalso; omega) | exact VM_iret dX7_told_33 ⟨_, rfl, fun _ _ _ => rfl, by { unfold toldR; (repeat' (first | rw [if_pos (by omega)] | rw [if_neg (by omega)])); try omega }⟩
  · refine V_bipush (q := 12) dX7_told_10 rfl (by decide) ?_
    first | (exfalso; omega) | exact VM_iret dX7_told_12 ⟨_, rfl, fun _ _ _ => rfl, by { unfold toldR; (repeat' (first | rw [if_pos (by omega)] | rw [if_neg (by omega)])); try omega }⟩
