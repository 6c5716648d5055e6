theorem tX7_asks {Γ : GC} {αC : Sh} {C M : Mem} {t i : Int} (w : WFD M) : MM Γ yX7_asks cX7_asks 3 (some .int) 5 [(0, t), (0, i)] αC C M (mI fun r M1 => (∀ k : Int, k < 18 ∨ 25 < k → M1 k = M k) ∧ r = asksS M t i) := by
  have hn0 := w.n
  refine MM_of (k := 0) [(3, 0), (0, t), (0, i)] pn_X7_asks rfl rfl rfl (fun ad0 => ?_)
  refine V_aload_n (q := 1) dX7_asks_0 rfl rfl rfl ?_
  refine V_iload_n (q := 2) dX7_asks_1 rfl rfl rfl ?_
  refine VM_callI (q := 5) (As := [(0, t)]) (tX7_isType (C := C) (M := M) hn0.1) dX7_asks_2 rfl mlX7_136 mw_X7_isType im_X7_isType sl_X7_isType md_X7_isType rfl rfl rfl (by decide) (by decide) (Nat.le_refl _) (Nat.le_refl _) (by decide) (fun z2 M2 rz2 hz2 => ?_)
  obtain ⟨hm, bz2, hz2⟩ := hz2
  replace hm := hm.symm
  subst hm
  refine V_if_ne (q := 8) (tgt := 10) dX7_asks_5 (by decide) rfl (fun c5 => ?_) (fun c5 => ?_)
  · have ht : 0 ≤ t ∧ t < M 0 0 := by omega
    refine V_aload_n (q := 11) dX7_asks_10 rfl rfl rfl ?_
    refine V_iload_n (q := 12) dX7_asks_11 rfl rfl rfl ?_
    refine VM_callN (q := 15) (As := [(0, t)]) (tX7_listAsked (C := C) (M := M) w ht) dX7_asks_12 rfl mlX7_185 mw_X7_listAsked im_X7_listAsked sl_X7_listAsked md_X7_listAsked rfl rfl rfl (by decide) (by decide) (Nat.le_refl _) (Nat.le_refl _) (by decide) (fun M12 hM12 => ?_)
    obtain ⟨gM12, hlM12, hbM12⟩ := hM12
    have fM12 : ∀ k : Int, k < 18 ∨ 25 < k → M12 k = M k := fun k h => gM12 k (by omega)
    refine V_iload_n (q := 16) dX7_asks_15 rfl rfl rfl ?_
    refine V_iconst (q := 17) dX7_asks_16 rfl (by decide) ?_
    refine V_aload_n (q := 18) dX7_asks_17 rfl rfl rfl ?_
    refine VM_getI (q := 21) 25 dX7_asks_18 rfl flX7_170 rfl rfl rfl (fun z18 ez18 rz18 => ?_)
    rw [hlM12.1] at ez18
    refine V_iconst (q := 22) dX7_asks_21 rfl (by decide) ?_
    refine V_isub (q := 23) dX7_asks_22 rfl (by omega) (fun z22 ez22 => ?_)
    refine V_in (q := 26) dX7_asks_23 rfl mlX7_132 (by decide) (by decide) (Nat.le_refl _) (Nat.le_refl _) (by decide) (fun z23 rz23 ez23 => ?_)
    refine V_if_eq (q := 29) (tgt := 38) dX7_asks_26 (by decide) rfl (fun c26 => ?_) (fun c26 => ?_)
    · refine V_bipush (q := 40) dX7_asks_38 rfl (by decide) ?_
      exact VM_iret dX7_asks_40 ⟨_, rfl, fM12, by unfold asksS; rw [if_pos ht, if_neg (by omega)]⟩
    · refine V_aload_n (q := 30) dX7_asks_29 rfl rfl rfl ?_
      refine VM_getA (q := 33) 25 dX7_asks_30 rfl flX7_74 rfl rfl (Nat.succ_ne_zero _) ?_
      refine V_iload_n (q := 34) dX7_asks_33 rfl rfl rfl ?_
      refine VM_iald (q := 35) 24 dX7_asks_34 rfl rfl (by decide) rfl rfl (by omega) (fun z34 ez34 rz34 => ?_)
      refine V_goto (tgt := 40) dX7_asks_35 (by decide) ?_
      exact VM_iret dX7_asks_40 ⟨_, rfl, fM12, by unfold asksS; rw [if_pos ht, if_pos (by omega), ez34, hlM12.2 i (by omega) (by omega)]⟩
  · refine V_iconst (q := 9) dX7_asks_8 rfl (by decide) ?_
    exact VM_iret dX7_asks_9 ⟨_, rfl, fun _ _ => rfl, by unfold asksS; rw [if_neg (by omega)]⟩
theorem tX7_isRound {Γ : GC} {αC : Sh} {C M : Mem} {t : Int} (w : WFD M) (ht : 0 ≤ t ∧ t < M 0 0) : MM Γ yX7_isRound cX7_isRound 5 (some .boolean) 5 [(0, t)] αC C M (mI fun r M1 => (∀ k : Int, k < 18 ∨ 27 < k → M1 k = M k) ∧ (0 ≤ r ∧ r ≤ 1) ∧ (r = 1 ↔ AT M t t)) := by
  have hn0 := w.n
  refine MM_of (k := 3) [(3, 0), (0, t), (9, 0), (9, 0), (9, 0)] pn_X7_isRound rfl rfl rfl (fun ad0 => ?_)
  have outer : ∀ (n R : Int) (M1 : Mem), RI M t (-1) 41 n R M1 → V Γ (gα αC) ad0 (ZM Γ (gα αC) ad0 (mQ αC C (mI fun r M1 => (∀ k : Int, k < 18 ∨ 27 < k → M1 k = M k) ∧ (0 ≤ r ∧ r ≤ 1) ∧ (r = 1 ↔ AT M t t))) 0 0) (RM 5 0 0) RX7 cX7_isRound 5 (some .boolean) yX7_isRound.name 34 [] [(3, 0), (0, t), (0, n), (0, R), (9, 0)] (gα αC) (mm M1 C) 0 0 := by
    refine loop3 _ (fun n _ M1 => 2 * cntz (M1 26) (M 0 0).toNat + n.toNat) _ ?_
    intro n R M1 hI ih
    have fM1 := hI.1
    refine V_iload_n (q := 35) dX7_isRound_34 rfl rfl rfl ?_
    refine V_if_le (q := 38) (tgt := 137) dX7_isRound_35 (by decide) rfl (fun c35 => ?_) (fun c35 => ?_)
    · refine V_iload_n (q := 138) dX7_isRound_137 rfl rfl rfl ?_
      exact VM_zret dX7_isRound_138 hI.2.2.2.2.2.1 ⟨_, rfl, fM1, hI.2.2.2.2.2.1, RI_end w hI (by omega) ht⟩
    · have hsz := hI.2.2.1
      refine V_iinc (q := 41) dX7_isRound_38 rfl rfl (by decide) rfl (by omega) (fun z38 lz38 ez38 hlz38 => ?_)
      obtain rfl : lz38 = [(3, 0), (0, t), (0, z38), (0, R), (9, 0)] := hlz38
      have hpos : 0 < n := by omega
      refine V_aload_n (q := 42) dX7_isRound_41 rfl rfl rfl ?_
      refine V_aload_n (q := 43) dX7_isRound_42 rfl rfl rfl ?_
      refine VM_getA (q := 46) 28 dX7_isRound_43 rfl flX7_80 rfl rfl (Nat.succ_ne_zero _) ?_
      refine V_iload_n (q := 47) dX7_isRound_46 rfl rfl rfl ?_
      refine VM_iald (q := 48) 27 dX7_isRound_47 rfl rfl (by decide) rfl rfl (by omega) (fun z47 ez47 rz47 => ?_)
      have hx0 := hI.2.2.2.1 z38 (by omega) (by omega)
      rw [← ez47] at hx0
      refine VM_callN (q := 51) (As := [(0, z47)]) (tX7_listAsked (C := C) (M := M1) (SD_WFD (sdR fM1) w) (by rw [fM1 0 (by decide)]; exact ⟨hx0.1, hx0.2.1⟩)) dX7_isRound_48 rfl mlX7_185 mw_X7_listAsked im_X7_listAsked sl_X7_listAsked md_X7_listAsked rfl rfl rfl (by decide) (by decide) (Nat.le_refl _) (Nat.le_refl _) (by decide) (fun M48 hM48 => ?_)
      obtain ⟨gM48, hlM48, hbM48⟩ := hM48
      have fM48 : ∀ k : Int, k < 18 ∨ 27 < k → M48 k = M k := fun k h => (gM48 k (by omega)).trans (fM1 k h)
      rw [SD_LA (sdR fM1)] at hlM48 hbM48
      refine V_iconst (q := 52) dX7_isRound_51 rfl (by decide) ?_
      refine V_istore (q := 54) (lv1 := [(3, 0), (0, t), (0, z38), (0, R), (0, 0)]) dX7_isRound_52 rfl (by decide) rfl rfl ?_
      have inner : ∀ (n1 R k : Int) (M2 : Mem), (0 ≤ k ∧ k ≤ (LA M z47).length ∧ LR M2 24 25 (LA M z47) ∧ RI M t z47 40 n1 R M2 ∧ (∀ j : Int, 0 ≤ j → j < k → M2 26 ((LA M z47).getD j.toNat 0) = 1 ∧ ((LA M z47).getD j.toNat 0 = t → R = 1)) ∧ n1 + 2 * (cntz (M2 26) (M 0 0).toNat : Int) ≤ z38 + 2 * (cntz (M1 26) (M 0 0).toNat : Int)) → V Γ (gα αC) ad0 (ZM Γ (gα αC) ad0 (mQ αC C (mI fun r M1 => (∀ k : Int, k < 18 ∨ 27 < k → M1 k = M k) ∧ (0 ≤ r ∧ r ≤ 1) ∧ (r = 1 ↔ AT M t t))) 0 0) (RM 5 0 0) RX7 cX7_isRound 5 (some .boolean) yX7_isRound.name 54 [] [(3, 0), (0, t), (0, n1), (0, R), (0, k)] (gα αC) (mm M2 C) 0 0 := by
        refine loop4 _ (fun _ _ k _ => ((LA M z47).length - k.toNat)) _ ?_
        rintro n1 R k M2 ⟨q1, q2, q3, q4, q5, q6⟩ ih2
        have fM2 := q4.1
        have hR01 := q4.2.2.2.2.2.1
        have hn1 := q4.2.1
        have hsz1 := q4.2.2.1
        refine V_iload (q := 56) dX7_isRound_54 rfl rfl ?_
        refine V_aload_n (q := 57) dX7_isRound_56 rfl rfl rfl ?_
        refine VM_getI (q := 60) 25 dX7_isRound_57 rfl flX7_170 rfl rfl rfl (fun z57 ez57 rz57 => ?_)
        rw [q3.1] at ez57
        refine V_icmp_ge (q := 63) (tgt := 134) dX7_isRound_60 (by decide) rfl (fun c60 => ?_) (fun c60 => ?_)
        · refine V_goto (tgt := 34) dX7_isRound_134 (by decide) ?_
          refine V_fgt [(3, 0), (0, t), (0, n1), (0, R), (9, 0)] ⟨Or.inl rfl, Or.inl rfl, Or.inl rfl, Or.inl rfl, Or.inr rfl, trivial⟩ ?_
          exact ih n1 R M2 (RI_close q4 (by decide) (fun b hb => by { obtain ⟨j, j0, j1, j2⟩ := mem_getD.mp hb; have := q5 j j0 (by omega); rw [j2] at this; exact this })) (by omega)
        · have hkL : k < (LA M z47).length := by omega
          obtain ⟨bb, hbb⟩ : ∃ y, y = (LA M z47).getD k.toNat 0 := ⟨_, rfl⟩
          have hb24 : M2 24 k = bb := by rw [hbb]; exact q3.2 k q1 hkL
          have hbm : bb ∈ LA M z47 := by rw [hbb]; exact getD_mem q1 hkL
          have hbr := LA_all w hx0.1 hx0.2.1 bb hbm
          have hTb : AT M t bb := by { rcases hx0.2.2 with hh | hh; { rw [← hh]; exact .single ⟨hx0.1, hx0.2.1, hbm⟩ }; { exact .tail hh ⟨hx0.1, hx0.2.1, hbm⟩ } }
          refine V_iload_n (q := 64) dX7_isRound_63 rfl rfl rfl ?_
          refine V_if_ne (q := 67) (tgt := 78) dX7_isRound_64 (by decide) rfl (fun c64 => ?_) (fun c64 => ?_)
          · refine V_iconst (q := 79) dX7_isRound_78 rfl (by decide) ?_
            refine V_goto (tgt := 83) dX7_isRound_79 (by decide) ?_
            refine V_istore_n (q := 84) (lv1 := [(3, 0), (0, t), (0, n1), (0, 1), (0, k)]) dX7_isRound_83 rfl rfl (by decide) rfl rfl ?_
            refine V_aload_n (q := 85) dX7_isRound_84 rfl rfl rfl ?_
            refine VM_getA (q := 88) 27 dX7_isRound_85 rfl flX7_77 rfl rfl (Nat.succ_ne_zero _) ?_
            refine V_aload_n (q := 89) dX7_isRound_88 rfl rfl rfl ?_
            refine VM_getA (q := 92) 25 dX7_isRound_89 rfl flX7_74 rfl rfl (Nat.succ_ne_zero _) ?_
            refine V_iload (q := 94) dX7_isRound_92 rfl rfl ?_
            refine VM_iald (q := 95) 24 dX7_isRound_94 rfl rfl (by decide) rfl rfl (by omega) (fun z94 ez94 rz94 => ?_)
            refine VM_zald (q := 96) 26 dX7_isRound_95 rfl rfl (by decide) rfl rfl (by omega) (fun z95 ez95 rz95 => ?_)
            rw [show z94 = bb by omega] at ez95
            refine V_if_ne (q := 99) (tgt := 128) dX7_isRound_96 (by decide) rfl (fun c96 => ?_) (fun c96 => ?_)
            · refine V_iinc (q := 131) dX7_isRound_128 rfl rfl (by decide) rfl (by omega) (fun z128 lz128 ez128 hlz128 => ?_)
              obtain rfl : lz128 = [(3, 0), (0, t), (0, n1), (0, 1), (0, z128)] := hlz128
              refine V_goto (tgt := 54) dX7_isRound_131 (by decide) ?_
              exact ih2 (n1) (1) (z128) M2 ⟨by omega, by omega, q3, (RI_step q4 (R1 := 1) (by decide) (fun _ => rfl) (fun _ => q4.2.2.2.2.2.2.1 (by omega))), fun j j0 j1 => by { by_cases hj : j = k; { rw [hj, ← hbb]; exact ⟨by omega, fun he => by omega⟩ }; { have := q5 j j0 (by omega); exact ⟨this.1, fun he => by have := this.2 he; omega⟩ } }, by omega⟩ (by omega)
            · refine V_aload_n (q := 100) dX7_isRound_99 rfl rfl rfl ?_
              refine VM_getA (q := 103) 27 dX7_isRound_100 rfl flX7_77 rfl rfl (Nat.succ_ne_zero _) ?_
              refine V_aload_n (q := 104) dX7_isRound_103 rfl rfl rfl ?_
              refine VM_getA (q := 107) 25 dX7_isRound_104 rfl flX7_74 rfl rfl (Nat.succ_ne_zero _) ?_
              refine V_iload (q := 109) dX7_isRound_107 rfl rfl ?_
              refine VM_iald (q := 110) 24 dX7_isRound_109 rfl rfl (by decide) rfl rfl (by omega) (fun z109 ez109 rz109 => ?_)
              refine V_iconst (q := 111) dX7_isRound_110 rfl (by decide) ?_
              refine VM_zast (q := 112) 26 dX7_isRound_111 rfl rfl (by decide) rfl rfl (by omega) (by omega) (fun M111 eM111 => ?_)
              have fM111 : ∀ k : Int, k < 18 ∨ 27 < k → M111 k = M k := by intro k h; rw [eM111, mu_f _ _ _ _ (by omega)]; exact fM2 k h
              refine V_aload_n (q := 113) dX7_isRound_112 rfl rfl rfl ?_
              refine VM_getA (q := 116) 28 dX7_isRound_113 rfl flX7_80 rfl rfl (Nat.succ_ne_zero _) ?_
              refine V_iload_n (q := 117) dX7_isRound_116 rfl rfl rfl ?_
              refine V_aload_n (q := 118) dX7_isRound_117 rfl rfl rfl ?_
              refine VM_getA (q := 121) 25 dX7_isRound_118 rfl flX7_74 rfl rfl (Nat.succ_ne_zero _) ?_
              refine V_iload (q := 123) dX7_isRound_121 rfl rfl ?_
              refine VM_iald (q := 124) 24 dX7_isRound_123 rfl rfl (by decide) rfl rfl (by omega) (fun z123 ez123 rz123 => ?_)
              rw [eM111, mu_f _ _ _ _ (by decide)] at ez123
              refine VM_iast (q := 125) 27 dX7_isRound_124 rfl rfl (by decide) rfl rfl (by omega) (fun M124 eM124 => ?_)
              have fM124 : ∀ k : Int, k < 18 ∨ 27 < k → M124 k = M k := by intro k h; rw [eM124, mu_f _ _ _ _ (by omega)]; exact fM111 k h
              refine V_iinc (q := 128) dX7_isRound_125 rfl rfl (by decide) rfl (by omega) (fun z125 lz125 ez125 hlz125 => ?_)
              obtain rfl : lz125 = [(3, 0), (0, t), (0, z125), (0, 1), (0, k)] := hlz125
              refine V_iinc (q := 131) dX7_isRound_128 rfl rfl (by decide) rfl (by omega) (fun z128_2 lz128_2 ez128_2 hlz128_2 => ?_)
              obtain rfl : lz128_2 = [(3, 0), (0, t), (0, z125), (0, 1), (0, z128_2)] := hlz128_2
              refine V_goto (tgt := 54) dX7_isRound_131 (by decide) ?_
              obtain ⟨hpp, hcz⟩ := RI_push w (RI_step q4 (R1 := 1) (by decide) (fun _ => rfl) (fun _ => q4.2.2.2.2.2.2.1 (by omega))) (b := bb) (M2 := M124) hbr.1 hbr.2 (by omega) hTb fM124 (by rw [eM124, mu_f _ _ _ _ (by decide), eM111, show z109 = bb by omega, mu_s]) (fun x hx => by rw [eM124, mu_f _ _ _ _ (by decide), eM111, mu_i _ _ _ _ (by omega)]) (by rw [eM124, mu_s]; omega) (fun i i0 i1 => by rw [eM124, mu_i _ _ _ _ (by omega), eM111, mu_f _ _ _ _ (by decide)])
              exact ih2 (z125) (1) (z128_2) M124 ⟨by omega, by omega, LR_congr q3 (by rw [eM124, mu_f _ _ _ _ (by decide), eM111, mu_f _ _ _ _ (by decide)]) (by rw [eM124, mu_f _ _ _ _ (by decide), eM111, mu_f _ _ _ _ (by decide)]), (by rw [show z125 = n1 + 1 by omega]; exact hpp), fun j j0 j1 => by { by_cases hj : j = k; { rw [hj, ← hbb]; exact ⟨by rw [eM124, mu_f _ _ _ _ (by decide), eM111, show z109 = bb by omega, mu_s], fun he => by omega⟩ }; { have := q5 j j0 (by omega); exact ⟨by { rw [eM124, mu_f _ _ _ _ (by decide), eM111]; by_cases hjj : (LA M z47).getD j.toNat 0 = z109; { rw [hjj, mu_s] }; { rw [mu_i _ _ _ _ hjj]; exact this.1 } }, fun he => by have := this.2 he; omega⟩ } }, by omega⟩ (by omega)
          · refine V_aload_n (q := 68) dX7_isRound_67 rfl rfl rfl ?_
            refine VM_getA (q := 71) 25 dX7_isRound_68 rfl flX7_74 rfl rfl (Nat.succ_ne_zero _) ?_
            refine V_iload (q := 73) dX7_isRound_71 rfl rfl ?_
            refine VM_iald (q := 74) 24 dX7_isRound_73 rfl rfl (by decide) rfl rfl (by omega) (fun z73 ez73 rz73 => ?_)
            refine V_iload_n (q := 75) dX7_isRound_74 rfl rfl rfl ?_
            refine V_icmp_ne (q := 78) (tgt := 82) dX7_isRound_75 (by decide) rfl (fun c75 => ?_) (fun c75 => ?_)
            · refine V_iconst (q := 83) dX7_isRound_82 rfl (by decide) ?_
              refine V_istore_n (q := 84) (lv1 := [(3, 0), (0, t), (0, n1), (0, 0), (0, k)]) dX7_isRound_83 rfl rfl (by decide) rfl rfl ?_
              refine V_aload_n (q := 85) dX7_isRound_84 rfl rfl rfl ?_
              refine VM_getA (q := 88) 27 dX7_isRound_85 rfl flX7_77 rfl rfl (Nat.succ_ne_zero _) ?_
              refine V_aload_n (q := 89) dX7_isRound_88 rfl rfl rfl ?_
              refine VM_getA (q := 92) 25 dX7_isRound_89 rfl flX7_74 rfl rfl (Nat.succ_ne_zero _) ?_
              refine V_iload (q := 94) dX7_isRound_92 rfl rfl ?_
              refine VM_iald (q := 95) 24 dX7_isRound_94 rfl rfl (by decide) rfl rfl (by omega) (fun z94_2 ez94_2 rz94_2 => ?_)
              refine VM_zald (q := 96) 26 dX7_isRound_95 rfl rfl (by decide) rfl rfl (by omega) (fun z95_2 ez95_2 rz95_2 => ?_)
              rw [show z94_2 = bb by omega] at ez95_2
              refine V_if_ne (q := 99) (tgt := 128) dX7_isRound_96 (by decide) rfl (fun c96_2 => ?_) (fun c96_2 => ?_)
              · refine V_iinc (q := 131) dX7_isRound_128 rfl rfl (by decide) rfl (by omega) (fun z128_3 lz128_3 ez128_3 hlz128_3 => ?_)
                obtain rfl : lz128_3 = [(3, 0), (0, t), (0, n1), (0, 0), (0, z128_3)] := hlz128_3
                refine V_goto (tgt := 54) dX7_isRound_131 (by decide) ?_
                exact ih2 (n1) (0) (z128_3) M2 ⟨by omega, by omega, q3, (RI_step q4 (R1 := 0) (by decide) (fun hh => by omega) (fun hh => absurd hh (by decide))), fun j j0 j1 => by { by_cases hj : j = k; { rw [hj, ← hbb]; exact ⟨by omega, fun he => by omega⟩ }; { have := q5 j j0 (by omega); exact ⟨this.1, fun he => by have := this.2 he; omega⟩ } }, by omega⟩ (by omega)
              · refine V_aload_n (q := 100) dX7_isRound_99 rfl rfl rfl ?_
                refine VM_getA (q := 103) 27 dX7_isRound_100 rfl flX7_77 rfl rfl (Nat.succ_ne_zero _) ?_
                refine V_aload_n (q := 104) dX7_isRound_103 rfl rfl rfl ?_
                refine VM_getA (q := 107) 25 dX7_isRound_104 rfl flX7_74 rfl rfl (Nat.succ_ne_zero _) ?_
                refine V_iload (q := 109) dX7_isRound_107 rfl rfl ?_
                refine VM_iald (q := 110) 24 dX7_isRound_109 rfl rfl (by decide) rfl rfl (by omega) (fun z109_2 ez109_2 rz109_2 => ?_)
                refine V_iconst (q := 111) dX7_isRound_110 rfl (by decide) ?_
                refine VM_zast (q := 112) 26 dX7_isRound_111 rfl rfl (by decide) rfl rfl (by omega) (by omega) (fun M111_2 eM111_2 => ?_)
                have fM111_2 : ∀ k : Int, k < 18 ∨ 27 < k → M111_2 k = M k := by intro k h; rw [eM111_2, mu_f _ _ _ _ (by omega)]; exact fM2 k h
                refine V_aload_n (q := 113) dX7_isRound_112 rfl rfl rfl ?_
                refine VM_getA (q := 116) 28 dX7_isRound_113 rfl flX7_80 rfl rfl (Nat.succ_ne_zero _) ?_
                refine V_iload_n (q := 117) dX7_isRound_116 rfl rfl rfl ?_
                refine V_aload_n (q := 118) dX7_isRound_117 rfl rfl rfl ?_
                refine VM_getA (q := 121) 25 dX7_isRound_118 rfl flX7_74 rfl rfl (Nat.succ_ne_zero _) ?_
                refine V_iload (q := 123) dX7_isRound_121 rfl rfl ?_
                refine VM_iald (q := 124) 24 dX7_isRound_123 rfl rfl (by decide) rfl rfl (by omega) (fun z123_2 ez123_2 rz123_2 => ?_)
                rw [eM111_2, mu_f _ _ _ _ (by decide)] at ez123_2
                refine VM_iast (q := 125) 27 dX7_isRound_124 rfl rfl (by decide) rfl rfl (by omega) (fun M124_2 eM124_2 => ?_)
                have fM124_2 : ∀ k : Int, k < 18 ∨ 27 < k → M124_2 k = M k := by intro k h; rw [eM124_2, mu_f _ _ _ _ (by omega)]; exact fM111_2 k h
                refine V_iinc (q := 128) dX7_isRound_125 rfl rfl (by decide) rfl (by omega) (fun z125_2 lz125_2 ez125_2 hlz125_2 => ?_)
                obtain rfl : lz125_2 = [(3, 0), (0, t), (0, z125_2), (0, 0), (0, k)] := hlz125_2
                refine V_iinc (q := 131) dX7_isRound_128 rfl rfl (by decide) rfl (by omega) (fun z128_4 lz128_4 ez128_4 hlz128_4 => ?_)
                obtain rfl : lz128_4 = [(3, 0), (0, t), (0, z125_2), (0, 0), (0, z128_4)] := hlz128_4
                refine V_goto (tgt := 54) dX7_isRound_131 (by decide) ?_
                obtain ⟨hpp, hcz⟩ := RI_push w (RI_step q4 (R1 := 0) (by decide) (fun hh => by omega) (fun hh => absurd hh (by decide))) (b := bb) (M2 := M124_2) hbr.1 hbr.2 (by omega) hTb fM124_2 (by rw [eM124_2, mu_f _ _ _ _ (by decide), eM111_2, show z109_2 = bb by omega, mu_s]) (fun x hx => by rw [eM124_2, mu_f _ _ _ _ (by decide), eM111_2, mu_i _ _ _ _ (by omega)]) (by rw [eM124_2, mu_s]; omega) (fun i i0 i1 => by rw [eM124_2, mu_i _ _ _ _ (by omega), eM111_2, mu_f _ _ _ _ (by decide)])
                exact ih2 (z125_2) (0) (z128_4) M124_2 ⟨by omega, by omega, LR_congr q3 (by rw [eM124_2, mu_f _ _ _ _ (by decide), eM111_2, mu_f _ _ _ _ (by decide)]) (by rw [eM124_2, mu_f _ _ _ _ (by decide), eM111_2, mu_f _ _ _ _ (by decide)]), (by rw [show z125_2 = n1 + 1 by omega]; exact hpp), fun j j0 j1 => by { by_cases hj : j = k; { rw [hj, ← hbb]; exact ⟨by rw [eM124_2, mu_f _ _ _ _ (by decide), eM111_2, show z109_2 = bb by omega, mu_s], fun he => by omega⟩ }; { have := q5 j j0 (by omega); exact ⟨by { rw [eM124_2, mu_f _ _ _ _ (by decide), eM111_2]; by_cases hjj : (LA M z47).getD j.toNat 0 = z109_2; { rw [hjj, mu_s] }; { rw [mu_i _ _ _ _ hjj]; exact this.1 } }, fun he => by have := this.2 he; omega⟩ } }, by omega⟩ (by omega)
            · refine V_iconst (q := 79) dX7_isRound_78 rfl (by decide) ?_
              refine V_goto (tgt := 83) dX7_isRound_79 (by decide) ?_
              refine V_istore_n (q := 84) (lv1 := [(3, 0), (0, t), (0, n1), (0, 1), (0, k)]) dX7_isRound_83 rfl rfl (by decide) rfl rfl ?_
              refine V_aload_n (q := 85) dX7_isRound_84 rfl rfl rfl ?_
              refine VM_getA (q := 88) 27 dX7_isRound_85 rfl flX7_77 rfl rfl (Nat.succ_ne_zero _) ?_
              refine V_aload_n (q := 89) dX7_isRound_88 rfl rfl rfl ?_
              refine VM_getA (q := 92) 25 dX7_isRound_89 rfl flX7_74 rfl rfl (Nat.succ_ne_zero _) ?_
              refine V_iload (q := 94) dX7_isRound_92 rfl rfl ?_
              refine VM_iald (q := 95) 24 dX7_isRound_94 rfl rfl (by decide) rfl rfl (by omega) (fun z94_3 ez94_3 rz94_3 => ?_)
              refine VM_zald (q := 96) 26 dX7_isRound_95 rfl rfl (by decide) rfl rfl (by omega) (fun z95_3 ez95_3 rz95_3 => ?_)
              rw [show z94_3 = bb by omega] at ez95_3
              refine V_if_ne (q := 99) (tgt := 128) dX7_isRound_96 (by decide) rfl (fun c96_3 => ?_) (fun c96_3 => ?_)
              · refine V_iinc (q := 131) dX7_isRound_128 rfl rfl (by decide) rfl (by omega) (fun z128_5 lz128_5 ez128_5 hlz128_5 => ?_)
                obtain rfl : lz128_5 = [(3, 0), (0, t), (0, n1), (0, 1), (0, z128_5)] := hlz128_5
                refine V_goto (tgt := 54) dX7_isRound_131 (by decide) ?_
                exact ih2 (n1) (1) (z128_5) M2 ⟨by omega, by omega, q3, (RI_step q4 (R1 := 1) (by decide) (fun _ => rfl) (fun _ => by have := hTb; rwa [show bb = t by omega] at this)), fun j j0 j1 => by { by_cases hj : j = k; { rw [hj, ← hbb]; exact ⟨by omega, fun he => by omega⟩ }; { have := q5 j j0 (by omega); exact ⟨this.1, fun he => by have := this.2 he; omega⟩ } }, by omega⟩ (by omega)
              · refine V_aload_n (q := 100) dX7_isRound_99 rfl rfl rfl ?_
                refine VM_getA (q := 103) 27 dX7_isRound_100 rfl flX7_77 rfl rfl (Nat.succ_ne_zero _) ?_
                refine V_aload_n (q := 104) dX7_isRound_103 rfl rfl rfl ?_
                refine VM_getA (q := 107) 25 dX7_isRound_104 rfl flX7_74 rfl rfl (Nat.succ_ne_zero _) ?_
                refine V_iload (q := 109) dX7_isRound_107 rfl rfl ?_
                refine VM_iald (q := 110) 24 dX7_isRound_109 rfl rfl (by decide) rfl rfl (by omega) (fun z109_3 ez109_3 rz109_3 => ?_)
                refine V_iconst (q := 111) dX7_isRound_110 rfl (by decide) ?_
                refine VM_zast (q := 112) 26 dX7_isRound_111 rfl rfl (by decide) rfl rfl (by omega) (by omega) (fun M111_3 eM111_3 => ?_)
                have fM111_3 : ∀ k : Int, k < 18 ∨ 27 < k → M111_3 k = M k := by intro k h; rw [eM111_3, mu_f _ _ _ _ (by omega)]; exact fM2 k h
                refine V_aload_n (q := 113) dX7_isRound_112 rfl rfl rfl ?_
                refine VM_getA (q := 116) 28 dX7_isRound_113 rfl flX7_80 rfl rfl (Nat.succ_ne_zero _) ?_
                refine V_iload_n (q := 117) dX7_isRound_116 rfl rfl rfl ?_
                refine V_aload_n (q := 118) dX7_isRound_117 rfl rfl rfl ?_
                refine VM_getA (q := 121) 25 dX7_isRound_118 rfl flX7_74 rfl rfl (Nat.succ_ne_zero _) ?_
                refine V_iload (q := 123) dX7_isRound_121 rfl rfl ?_
                refine VM_iald (q := 124) 24 dX7_isRound_123 rfl rfl (by decide) rfl rfl (by omega) (fun z123_3 ez123_3 rz123_3 => ?_)
                rw [eM111_3, mu_f _ _ _ _ (by decide)] at ez123_3
                refine VM_iast (q := 125) 27 dX7_isRound_124 rfl rfl (by decide) rfl rfl (by omega) (fun M124_3 eM124_3 => ?_)
                have fM124_3 : ∀ k : Int, k < 18 ∨ 27 < k → M124_3 k = M k := by intro k h; rw [eM124_3, mu_f _ _ _ _ (by omega)]; exact fM111_3 k h
                refine V_iinc (q := 128) dX7_isRound_125 rfl rfl (by decide) rfl (by omega) (fun z125_3 lz125_3 ez125_3 hlz125_3 => ?_)
                obtain rfl : lz125_3 = [(3, 0), (0, t), (0, z125_3), (0, 1), (0, k)] := hlz125_3
                refine V_iinc (q := 131) dX7_isRound_128 rfl rfl (by decide) rfl (by omega) (fun z128_6 lz128_6 ez128_6 hlz128_6 => ?_)
                obtain rfl : lz128_6 = [(3, 0), (0, t), (0, z125_3), (0, 1), (0, z128_6)] := hlz128_6
                refine V_goto (tgt := 54) dX7_isRound_131 (by decide) ?_
                obtain ⟨hpp, hcz⟩ := RI_push w (RI_step q4 (R1 := 1) (by decide) (fun _ => rfl) (fun _ => by have := hTb; rwa [show bb = t by omega] at this)) (b := bb) (M2 := M124_3) hbr.1 hbr.2 (by omega) hTb fM124_3 (by rw [eM124_3, mu_f _ _ _ _ (by decide), eM111_3, show z109_3 = bb by omega, mu_s]) (fun x hx => by rw [eM124_3, mu_f _ _ _ _ (by decide), eM111_3, mu_i _ _ _ _ (by omega)]) (by rw [eM124_3, mu_s]; omega) (fun i i0 i1 => by rw [eM124_3, mu_i _ _ _ _ (by omega), eM111_3, mu_f _ _ _ _ (by decide)])
                exact ih2 (z125_3) (1) (z128_6) M124_3 ⟨by omega, by omega, LR_congr q3 (by rw [eM124_3, mu_f _ _ _ _ (by decide), eM111_3, mu_f _ _ _ _ (by decide)]) (by rw [eM124_3, mu_f _ _ _ _ (by decide), eM111_3, mu_f _ _ _ _ (by decide)]), (by rw [show z125_3 = n1 + 1 by omega]; exact hpp), fun j j0 j1 => by { by_cases hj : j = k; { rw [hj, ← hbb]; exact ⟨by rw [eM124_3, mu_f _ _ _ _ (by decide), eM111_3, show z109_3 = bb by omega, mu_s], fun he => by omega⟩ }; { have := q5 j j0 (by omega); exact ⟨by { rw [eM124_3, mu_f _ _ _ _ (by decide), eM111_3]; by_cases hjj : (LA M z47).getD j.toNat 0 = z109_3; { rw [hjj, mu_s] }; { rw [mu_i _ _ _ _ hjj]; exact this.1 } }, fun he => by have := this.2 he; omega⟩ } }, by omega⟩ (by omega)
      have hP := RI_pop (x0 := z47) hI hpos (show z38 = n - 1 by omega) ez47.symm
      have hP48 : RI M t z47 40 z38 R M48 := by { obtain ⟨p1, p2, p3, p4, p5, p6, p7, p8⟩ := hP; rw [← gM48 26 (by decide)] at p3 p5 p8; rw [← gM48 27 (by decide)] at p4 p8; exact ⟨fM48, p2, by omega, p4, p5, p6, p7, p8⟩ }
      exact inner (z38) (R) 0 M48 ⟨by decide, by omega, hlM48, hP48, fun j j0 j1 => absurd j1 (by omega), by rw [gM48 26 (by decide)]; omega⟩
  have clr : ∀ (i : Int) (M1 : Mem), (0 ≤ i ∧ i ≤ M 0 0 ∧ (∀ k : Int, k < 18 ∨ 27 < k → M1 k = M k) ∧ (∀ j : Int, 0 ≤ j → j < i → M1 26 j = 0)) → V Γ (gα αC) ad0 (ZM Γ (gα αC) ad0 (mQ αC C (mI fun r M1 => (∀ k : Int, k < 18 ∨ 27 < k → M1 k = M k) ∧ (0 ≤ r ∧ r ≤ 1) ∧ (r = 1 ↔ AT M t t))) 0 0) (RM 5 0 0) RX7 cX7_isRound 5 (some .boolean) yX7_isRound.name 2 [] [(3, 0), (0, t), (0, i), (9, 0), (9, 0)] (gα αC) (mm M1 C) 0 0 := by
    refine loop2 _ (fun i _ => (M 0 0 - i).toNat) _ ?_
    rintro i M1 ⟨g1, g2, g3, g4⟩ ih
    have fM1 := g3
    refine V_iload_n (q := 3) dX7_isRound_2 rfl rfl rfl ?_
    refine V_aload_n (q := 4) dX7_isRound_3 rfl rfl rfl ?_
    refine VM_getI (q := 7) 0 dX7_isRound_4 rfl flX7_128 rfl rfl rfl (fun z4 ez4 rz4 => ?_)
    rw [fM1 0 (by decide)] at ez4
    refine V_icmp_ge (q := 10) (tgt := 23) dX7_isRound_7 (by decide) rfl (fun c7 => ?_) (fun c7 => ?_)
    · refine V_iconst (q := 24) dX7_isRound_23 rfl (by decide) ?_
      refine V_istore_n (q := 25) (lv1 := [(3, 0), (0, t), (0, 1), (9, 0), (9, 0)]) dX7_isRound_24 rfl rfl (by decide) rfl rfl ?_
      refine V_aload_n (q := 26) dX7_isRound_25 rfl rfl rfl ?_
      refine VM_getA (q := 29) 28 dX7_isRound_26 rfl flX7_80 rfl rfl (Nat.succ_ne_zero _) ?_
      refine V_iconst (q := 30) dX7_isRound_29 rfl (by decide) ?_
      refine V_iload_n (q := 31) dX7_isRound_30 rfl rfl rfl ?_
      refine VM_iast (q := 32) 27 dX7_isRound_31 rfl rfl (by decide) rfl rfl (by omega) (fun M31 eM31 => ?_)
      have fM31 : ∀ k : Int, k < 18 ∨ 27 < k → M31 k = M k := by intro k h; rw [eM31, mu_f _ _ _ _ (by omega)]; exact fM1 k h
      refine V_iconst (q := 33) dX7_isRound_32 rfl (by decide) ?_
      refine V_istore_n (q := 34) (lv1 := [(3, 0), (0, t), (0, 1), (0, 0), (9, 0)]) dX7_isRound_33 rfl rfl (by decide) rfl rfl ?_
      exact outer 1 0 M31 ⟨fM31, by decide, by { have := cntz_le (M31 26) (M 0 0).toNat; omega }, fun j j0 j1 => by { rw [show j = 0 by omega, eM31, mu_s]; exact ⟨ht.1, ht.2, Or.inl rfl⟩ }, fun x x0 x1 xs => by { rw [eM31, mu_f _ _ _ _ (by decide), g4 x x0 (by omega)] at xs; exact absurd xs (by decide) }, by decide, fun hh => absurd hh (by decide), fun x x0 x1 xe xs => by { rcases xs with xs | xs; { exact Or.inl ⟨0, by decide, by decide, by rw [eM31, mu_s, xs]⟩ }; { rw [eM31, mu_f _ _ _ _ (by decide), g4 x x0 (by omega)] at xs; exact absurd xs (by decide) } }⟩
    · refine V_aload_n (q := 11) dX7_isRound_10 rfl rfl rfl ?_
      refine VM_getA (q := 14) 27 dX7_isRound_11 rfl flX7_77 rfl rfl (Nat.succ_ne_zero _) ?_
      refine V_iload_n (q := 15) dX7_isRound_14 rfl rfl rfl ?_
      refine V_iconst (q := 16) dX7_isRound_15 rfl (by decide) ?_
      refine VM_zast (q := 17) 26 dX7_isRound_16 rfl rfl (by decide) rfl rfl (by omega) (by omega) (fun M16 eM16 => ?_)
      have fM16 : ∀ k : Int, k < 18 ∨ 27 < k → M16 k = M k := by intro k h; rw [eM16, mu_f _ _ _ _ (by omega)]; exact fM1 k h
      refine V_iinc (q := 20) dX7_isRound_17 rfl rfl (by decide) rfl (by omega) (fun z17 lz17 ez17 hlz17 => ?_)
      obtain rfl : lz17 = [(3, 0), (0, t), (0, z17), (9, 0), (9, 0)] := hlz17
      refine V_goto (tgt := 2) dX7_isRound_20 (by decide) ?_
      exact ih (z17) M16 ⟨by omega, by omega, fM16, fun j j0 j1 => by { rw [eM16]; by_cases hj : j = i; { rw [hj, mu_s] }; { rw [mu_i _ _ _ _ hj]; exact g4 j j0 (by omega) } }⟩ (by omega)
  refine V_iconst (q := 1) dX7_isRound_0 rfl (by decide) ?_
  refine V_istore_n (q := 2) (lv1 := [(3, 0), (0, t), (0, 0), (9, 0), (9, 0)]) dX7_isRound_1 rfl rfl (by decide) rfl rfl ?_
  exact clr 0 M ⟨by decide, hn0.1, fun _ _ => rfl, fun i h0 h1 => absurd h1 (by omega)⟩
