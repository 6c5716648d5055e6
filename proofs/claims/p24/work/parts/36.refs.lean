/-! THE REFERENCE: refusal, differs; touch and foretell where there is no world -/
def refR (M : Mem) (w k t n : Int) : Int := if ¬ isW M w ∨ ¬ isTy M t then -1 else if (1 ≤ k ∧ k ≤ 6) ∧ (3 < k ∨ (0 ≤ n ∧ n ≤ 9)) then 0 else -2
theorem tX7_refusal {Γ : GC} {αC : Sh} {C M : Mem} {x k t n : Int} (w : WFD M) : MM Γ yX7_refusal cX7_refusal 5 (some .int) 2 [(0, x), (0, k), (0, t), (0, n)] αC C M (mI fun r M1 => M1 = M ∧ r = refR M x k t n) := by
  have hn0 := w.n
  have hw0 := w.w
  refine MM_of (k := 0) [(3, 0), (0, x), (0, k), (0, t), (0, n)] pn_X7_refusal rfl rfl rfl (fun ad0 => ?_)
  refine V_aload_n (q := 1) dX7_refusal_0 rfl rfl rfl ?_
  refine V_iload_n (q := 2) dX7_refusal_1 rfl rfl rfl ?_
  refine VM_callI (q := 5) (As := [(0, x)]) (tX7_isWorld (C := C) (M := M) hw0.1) dX7_refusal_2 rfl mlX7_280 mw_X7_isWorld im_X7_isWorld sl_X7_isWorld md_X7_isWorld rfl rfl rfl (by decide) (by decide) (Nat.le_refl _) (Nat.le_refl _) (Nat.le_of_ble_eq_true rfl) (fun z2 M2 rz2 hz2 => ?_)
  obtain ⟨hm, bz2, hz2⟩ := hz2
  replace hm := hm.symm
  subst hm
  refine V_if_eq (q := 8) (tgt := 16) dX7_refusal_5 (by decide) rfl (fun c5 => ?_) (fun c5 => ?_)
  · refine V_iconst (q := 17) dX7_refusal_16 rfl (by decide) ?_
    first | (exfalso; omega) | exact VM_iret dX7_refusal_17 ⟨_, rfl, rfl, by { unfold refR; (repeat' (first | rw [if_pos (by omega)] | rw [if_neg (by omega)])); try omega }⟩
  · refine V_aload_n (q := 9) dX7_refusal_8 rfl rfl rfl ?_
    refine V_iload_n (q := 10) dX7_refusal_9 rfl rfl rfl ?_
    refine VM_callI (q := 13) (As := [(0, t)]) (tX7_isType (C := C) (M := M) hn0.1) dX7_refusal_10 rfl mlX7_136 mw_X7_isType im_X7_isType sl_X7_isType md_X7_isType rfl rfl rfl (by decide) (by decide) (Nat.le_refl _) (Nat.le_refl _) (Nat.le_of_ble_eq_true rfl) (fun z10 M10 rz10 hz10 => ?_)
    obtain ⟨hm, bz10, hz10⟩ := hz10
    replace hm := hm.symm
    subst hm
    refine V_if_ne (q := 16) (tgt := 18) dX7_refusal_13 (by decide) rfl (fun c13 => ?_) (fun c13 => ?_)
    · refine V_iload_n (q := 19) dX7_refusal_18 rfl rfl rfl ?_
      refine V_iconst (q := 20) dX7_refusal_19 rfl (by decide) ?_
      refine V_bipush (q := 22) dX7_refusal_20 rfl (by decide) ?_
      refine V_in (q := 25) dX7_refusal_22 rfl mlX7_132 (by decide) (by decide) (Nat.le_refl _) (Nat.le_refl _) (Nat.le_of_ble_eq_true rfl) (fun z22 rz22 ez22 => ?_)
      refine V_if_eq (q := 28) (tgt := 48) dX7_refusal_25 (by decide) rfl (fun c25 => ?_) (fun c25 => ?_)
      · refine V_bipush (q := 50) dX7_refusal_48 rfl (by decide) ?_
        first | (exfalso; omega) | exact VM_iret dX7_refusal_50 ⟨_, rfl, rfl, by { unfold refR; (repeat' (first | rw [if_pos (by omega)] | rw [if_neg (by omega)])); try omega }⟩
      · refine V_iload_n (q := 29) dX7_refusal_28 rfl rfl rfl ?_
        refine V_iconst (q := 30) dX7_refusal_29 rfl (by decide) ?_
        refine V_icmp_gt (q := 33) (tgt := 44) dX7_refusal_30 (by decide) rfl (fun c30 => ?_) (fun c30 => ?_)
        · refine V_iconst (q := 45) dX7_refusal_44 rfl (by decide) ?_
          refine V_goto (tgt := 50) dX7_refusal_45 (by decide) ?_
          first | (exfalso; omega) | exact VM_iret dX7_refusal_50 ⟨_, rfl, rfl, by { unfold refR; (repeat' (first | rw [if_pos (by omega)] | rw [if_neg (by omega)])); try omega }⟩
        · refine V_iload (q := 35) dX7_refusal_33 rfl rfl ?_
          refine V_iconst (q := 36) dX7_refusal_35 rfl (by decide) ?_
          refine V_bipush (q := 38) dX7_refusal_36 rfl (by decide) ?_
          refine V_in (q := 41) dX7_refusal_38 rfl mlX7_132 (by decide) (by decide) (Nat.le_refl _) (Nat.le_refl _) (Nat.le_of_ble_eq_true rfl) (fun z38 rz38 ez38 => ?_)
          refine V_if_eq (q := 44) (tgt := 48) dX7_refusal_41 (by decide) rfl (fun c41 => ?_) (fun c41 => ?_)
          · refine V_bipush (q := 50) dX7_refusal_48 rfl (by decide) ?_
            first | (exfalso; omega) | exact VM_iret dX7_refusal_50 ⟨_, rfl, rfl, by { unfold refR; (repeat' (first | rw [if_pos (by omega)] | rw [if_neg (by omega)])); try omega }⟩
          · refine V_iconst (q := 45) dX7_refusal_44 rfl (by decide) ?_
            refine V_goto (tgt := 50) dX7_refusal_45 (by decide) ?_
            first | (exfalso; omega) | exact VM_iret dX7_refusal_50 ⟨_, rfl, rfl, by { unfold refR; (repeat' (first | rw [if_pos (by omega)] | rw [if_neg (by omega)])); try omega }⟩
    · refine V_iconst (q := 17) dX7_refusal_16 rfl (by decide) ?_
      first | (exfalso; omega) | exact VM_iret dX7_refusal_17 ⟨_, rfl, rfl, by { unfold refR; (repeat' (first | rw [if_pos (by omega)] | rw [if_neg (by omega)])); try omega }⟩
theorem tX7_differs {Γ : GC} {αC : Sh} {C M : Mem} {x u : Int} (w : WFD M) : MM Γ yX7_differs cX7_differs 6 (some .int) 2 [(0, x), (0, u)] αC C M (mI fun r M1 => M1 = M ∧ ((¬ (isW M x ∧ isW M u) ∧ r = -1) ∨ ((isW M x ∧ isW M u) ∧ isFirst (difT M x u) (M 0 0) r))) := by
  have hn0 := w.n
  have hw0 := w.w
  refine MM_of (k := 3) [(3, 0), (0, x), (0, u), (9, 0), (9, 0), (9, 0)] pn_X7_differs rfl rfl rfl (fun ad0 => ?_)
  have outer : ∀ t : Int, ((isW M x ∧ isW M u) ∧ 0 ≤ t ∧ t ≤ M 0 0 ∧ (∀ s : Int, 0 ≤ s → s < t → ¬ difT M x u s)) → V Γ (gα αC) ad0 (ZM Γ (gα αC) ad0 (mQ αC C (mI fun r M1 => M1 = M ∧ ((¬ (isW M x ∧ isW M u) ∧ r = -1) ∨ ((isW M x ∧ isW M u) ∧ isFirst (difT M x u) (M 0 0) r)))) 0 0) (RM 2 0 0) RX7 cX7_differs 6 (some .int) yX7_differs.name 20 [] [(3, 0), (0, x), (0, u), (0, t), (9, 0), (9, 0)] (gα αC) (mm M C) 0 0 := by
    refine loop1 _ (fun t => (M 0 0 - t).toNat) _ ?_
    rintro t ⟨hx, h1, h2, h3⟩ iho
    have inner : t < M 0 0 → ∀ (e k : Int), ((0 ≤ e ∧ e ≤ 1) ∧ 6 * t ≤ k ∧ k ≤ 6 * t + M 6 t ∧ (e = 1 ↔ (M 28 (40 * x + t) = M 28 (40 * u + t) ∧ ∀ j : Int, 6 * t ≤ j → j < k → M 29 (240 * x + j) = M 29 (240 * u + j)))) → V Γ (gα αC) ad0 (ZM Γ (gα αC) ad0 (mQ αC C (mI fun r M1 => M1 = M ∧ ((¬ (isW M x ∧ isW M u) ∧ r = -1) ∨ ((isW M x ∧ isW M u) ∧ isFirst (difT M x u) (M 0 0) r)))) 0 0) (RM 2 0 0) RX7 cX7_differs 6 (some .int) yX7_differs.name 66 [] [(3, 0), (0, x), (0, u), (0, t), (0, e), (0, k)] (gα αC) (mm M C) 0 0 := by
      intro ht
      have hcn := w.cnt t h1 (by omega)
      refine loop2 _ (fun _ k => (6 * t + M 6 t - k).toNat) _ ?_
      rintro e k ⟨g1, g2, g3, g4⟩ ih
      refine V_iload (q := 68) dX7_differs_66 rfl rfl ?_
      refine V_bipush (q := 70) dX7_differs_68 rfl (by decide) ?_
      refine V_iload_n (q := 71) dX7_differs_70 rfl rfl rfl ?_
      refine V_imul (q := 72) dX7_differs_71 rfl (by omega) (fun z71 ez71 => ?_)
      refine V_aload_n (q := 73) dX7_differs_72 rfl rfl rfl ?_
      refine VM_getA (q := 76) 7 dX7_differs_73 rfl flX7_26 rfl rfl (Nat.succ_ne_zero _) ?_
      refine V_iload_n (q := 77) dX7_differs_76 rfl rfl rfl ?_
      refine VM_iald (q := 78) 6 dX7_differs_77 rfl rfl (by decide) rfl rfl (by omega) (fun z77 ez77 rz77 => ?_)
      refine V_iadd (q := 79) dX7_differs_78 rfl (by omega) (fun z78 ez78 => ?_)
      refine V_icmp_ge (q := 82) (tgt := 129) dX7_differs_79 (by decide) rfl (fun c79 => ?_) (fun c79 => ?_)
      · refine V_iload (q := 131) dX7_differs_129 rfl rfl ?_
        refine V_if_ne (q := 134) (tgt := 136) dX7_differs_131 (by decide) rfl (fun c131 => ?_) (fun c131 => ?_)
        · refine V_iinc (q := 139) dX7_differs_136 rfl rfl (by decide) rfl (by omega) (fun z136 lz136 ez136 hlz136 => ?_)
          obtain rfl : lz136 = [(3, 0), (0, x), (0, u), (0, z136), (0, e), (0, k)] := hlz136
          refine V_goto (tgt := 20) dX7_differs_139 (by decide) ?_
          refine V_fgt [(3, 0), (0, x), (0, u), (0, z136), (9, 0), (9, 0)] ⟨Or.inl rfl, Or.inl rfl, Or.inl rfl, Or.inl rfl, Or.inr rfl, Or.inr rfl, trivial⟩ ?_
          refine iho z136 ⟨hx, by omega, by omega, fun s a b => ?_⟩ (by omega)
          by_cases hs : s = t
          · rw [hs]; rintro (hd | ⟨j, j0, j1, j2⟩)
            · exact hd (g4.mp (by omega)).1
            · exact j2 ((g4.mp (by omega)).2 (6 * t + j) (by omega) (by omega))
          · exact h3 s a (by omega)
        · refine V_iload_n (q := 135) dX7_differs_134 rfl rfl rfl ?_
          refine VM_iret dX7_differs_135 ⟨_, rfl, rfl, Or.inr ⟨hx, Or.inr ⟨h1, ht, ?_, h3⟩⟩⟩
          apply Classical.byContradiction
          intro hd
          have h9 : e = 1 := g4.mpr ⟨Classical.byContradiction fun q => hd (Or.inl q), fun j a b => Classical.byContradiction fun q => hd (Or.inr ⟨j - 6 * t, by omega, by omega, by rw [show 6 * t + (j - 6 * t) = j by omega]; exact q⟩)⟩
          omega
      · refine V_iload (q := 84) dX7_differs_82 rfl rfl ?_
        refine V_if_eq (q := 87) (tgt := 120) dX7_differs_84 (by decide) rfl (fun c84 => ?_) (fun c84 => ?_)
        · refine V_iconst (q := 121) dX7_differs_120 rfl (by decide) ?_
          refine V_istore (q := 123) (lv1 := [(3, 0), (0, x), (0, u), (0, t), (0, 0), (0, k)]) dX7_differs_121 rfl (by decide) rfl rfl ?_
          refine V_iinc (q := 126) dX7_differs_123 rfl rfl (by decide) rfl (by omega) (fun z123 lz123 ez123 hlz123 => ?_)
          obtain rfl : lz123 = [(3, 0), (0, x), (0, u), (0, t), (0, 0), (0, z123)] := hlz123
          refine V_goto (tgt := 66) dX7_differs_126 (by decide) ?_
          refine ih (0) z123 ⟨by omega, by omega, by omega, ?_⟩ (by omega)
          constructor
          · intro he; exfalso; omega
          · intro he; exfalso; first | (have := he.2 k (by omega) (by omega); omega) | (have h9 : e = 1 := g4.mpr ⟨he.1, fun j a b => he.2 j a (by omega)⟩; omega)
        · refine V_aload_n (q := 88) dX7_differs_87 rfl rfl rfl ?_
          refine VM_getA (q := 91) 30 dX7_differs_88 rfl flX7_86 rfl rfl (Nat.succ_ne_zero _) ?_
          refine V_sipush (q := 94) dX7_differs_91 rfl (by decide) ?_
          refine V_iload_n (q := 95) dX7_differs_94 rfl rfl rfl ?_
          refine V_imul (q := 96) dX7_differs_95 rfl (by omega) (fun z95 ez95 => ?_)
          refine V_iload (q := 98) dX7_differs_96 rfl rfl ?_
          refine V_iadd (q := 99) dX7_differs_98 rfl (by omega) (fun z98 ez98 => ?_)
          refine VM_iald (q := 100) 29 dX7_differs_99 rfl rfl (by decide) rfl rfl (by omega) (fun z99 ez99 rz99 => ?_)
          rw [show z98 = 240 * x + k by omega] at ez99
          refine V_aload_n (q := 101) dX7_differs_100 rfl rfl rfl ?_
          refine VM_getA (q := 104) 30 dX7_differs_101 rfl flX7_86 rfl rfl (Nat.succ_ne_zero _) ?_
          refine V_sipush (q := 107) dX7_differs_104 rfl (by decide) ?_
          refine V_iload_n (q := 108) dX7_differs_107 rfl rfl rfl ?_
          refine V_imul (q := 109) dX7_differs_108 rfl (by omega) (fun z108 ez108 => ?_)
          refine V_iload (q := 111) dX7_differs_109 rfl rfl ?_
          refine V_iadd (q := 112) dX7_differs_111 rfl (by omega) (fun z111 ez111 => ?_)
          refine VM_iald (q := 113) 29 dX7_differs_112 rfl rfl (by decide) rfl rfl (by omega) (fun z112 ez112 rz112 => ?_)
          rw [show z111 = 240 * u + k by omega] at ez112
          refine V_icmp_ne (q := 116) (tgt := 120) dX7_differs_113 (by decide) rfl (fun c113 => ?_) (fun c113 => ?_)
          · refine V_iconst (q := 121) dX7_differs_120 rfl (by decide) ?_
            refine V_istore (q := 123) (lv1 := [(3, 0), (0, x), (0, u), (0, t), (0, 0), (0, k)]) dX7_differs_121 rfl (by decide) rfl rfl ?_
            refine V_iinc (q := 126) dX7_differs_123 rfl rfl (by decide) rfl (by omega) (fun z123_2 lz123_2 ez123_2 hlz123_2 => ?_)
            obtain rfl : lz123_2 = [(3, 0), (0, x), (0, u), (0, t), (0, 0), (0, z123_2)] := hlz123_2
            refine V_goto (tgt := 66) dX7_differs_126 (by decide) ?_
            refine ih (0) z123_2 ⟨by omega, by omega, by omega, ?_⟩ (by omega)
            constructor
            · intro he; exfalso; omega
            · intro he; exfalso; first | (have := he.2 k (by omega) (by omega); omega) | (have h9 : e = 1 := g4.mpr ⟨he.1, fun j a b => he.2 j a (by omega)⟩; omega)
          · refine V_iconst (q := 117) dX7_differs_116 rfl (by decide) ?_
            refine V_goto (tgt := 121) dX7_differs_117 (by decide) ?_
            refine V_istore (q := 123) (lv1 := [(3, 0), (0, x), (0, u), (0, t), (0, 1), (0, k)]) dX7_differs_121 rfl (by decide) rfl rfl ?_
            refine V_iinc (q := 126) dX7_differs_123 rfl rfl (by decide) rfl (by omega) (fun z123_3 lz123_3 ez123_3 hlz123_3 => ?_)
            obtain rfl : lz123_3 = [(3, 0), (0, x), (0, u), (0, t), (0, 1), (0, z123_3)] := hlz123_3
            refine V_goto (tgt := 66) dX7_differs_126 (by decide) ?_
            refine ih (1) z123_3 ⟨by omega, by omega, by omega, ?_⟩ (by omega)
            constructor
            · intro _; refine ⟨(g4.mp (by omega)).1, fun j a b => ?_⟩; by_cases hj : j = k; · { rw [hj]; omega }; · { exact (g4.mp (by omega)).2 j a (by omega) }
            · intro _; rfl
    refine V_iload_n (q := 21) dX7_differs_20 rfl rfl rfl ?_
    refine V_aload_n (q := 22) dX7_differs_21 rfl rfl rfl ?_
    refine VM_getI (q := 25) 0 dX7_differs_22 rfl flX7_128 rfl rfl rfl (fun z22 ez22 rz22 => ?_)
    refine V_icmp_ge (q := 28) (tgt := 142) dX7_differs_25 (by decide) rfl (fun c25 => ?_) (fun c25 => ?_)
    · refine V_bipush (q := 144) dX7_differs_142 rfl (by decide) ?_
      exact VM_iret dX7_differs_144 ⟨_, rfl, rfl, Or.inr ⟨hx, Or.inl ⟨rfl, fun s a b => h3 s a (by omega)⟩⟩⟩
    · have hcn := w.cnt t h1 (by omega)
      refine V_aload_n (q := 29) dX7_differs_28 rfl rfl rfl ?_
      refine VM_getA (q := 32) 29 dX7_differs_29 rfl flX7_83 rfl rfl (Nat.succ_ne_zero _) ?_
      refine V_bipush (q := 34) dX7_differs_32 rfl (by decide) ?_
      refine V_iload_n (q := 35) dX7_differs_34 rfl rfl rfl ?_
      refine V_imul (q := 36) dX7_differs_35 rfl (by omega) (fun z35 ez35 => ?_)
      refine V_iload_n (q := 37) dX7_differs_36 rfl rfl rfl ?_
      refine V_iadd (q := 38) dX7_differs_37 rfl (by omega) (fun z37 ez37 => ?_)
      refine VM_iald (q := 39) 28 dX7_differs_38 rfl rfl (by decide) rfl rfl (by omega) (fun z38 ez38 rz38 => ?_)
      rw [show z37 = 40 * x + t by omega] at ez38
      refine V_aload_n (q := 40) dX7_differs_39 rfl rfl rfl ?_
      refine VM_getA (q := 43) 29 dX7_differs_40 rfl flX7_83 rfl rfl (Nat.succ_ne_zero _) ?_
      refine V_bipush (q := 45) dX7_differs_43 rfl (by decide) ?_
      refine V_iload_n (q := 46) dX7_differs_45 rfl rfl rfl ?_
      refine V_imul (q := 47) dX7_differs_46 rfl (by omega) (fun z46 ez46 => ?_)
      refine V_iload_n (q := 48) dX7_differs_47 rfl rfl rfl ?_
      refine V_iadd (q := 49) dX7_differs_48 rfl (by omega) (fun z48 ez48 => ?_)
      refine VM_iald (q := 50) 28 dX7_differs_49 rfl rfl (by decide) rfl rfl (by omega) (fun z49 ez49 rz49 => ?_)
      rw [show z48 = 40 * u + t by omega] at ez49
      refine V_icmp_ne (q := 53) (tgt := 57) dX7_differs_50 (by decide) rfl (fun c50 => ?_) (fun c50 => ?_)
      · refine V_iconst (q := 58) dX7_differs_57 rfl (by decide) ?_
        refine V_istore (q := 60) (lv1 := [(3, 0), (0, x), (0, u), (0, t), (0, 0), (9, 0)]) dX7_differs_58 rfl (by decide) rfl rfl ?_
        refine V_bipush (q := 62) dX7_differs_60 rfl (by decide) ?_
        refine V_iload_n (q := 63) dX7_differs_62 rfl rfl rfl ?_
        refine V_imul (q := 64) dX7_differs_63 rfl (by omega) (fun z63 ez63 => ?_)
        refine V_istore (q := 66) (lv1 := [(3, 0), (0, x), (0, u), (0, t), (0, 0), (0, z63)]) dX7_differs_64 rfl (by decide) rfl rfl ?_
        refine inner (by omega) 0 z63 ⟨by omega, by omega, by have := (w.cnt t h1 (by omega)).2.1; omega, ?_⟩
        constructor
        · intro he; exact ⟨by omega, fun j a b => by omega⟩
        · intro he; first | rfl | (exfalso; have := he.1; omega)
      · refine V_iconst (q := 54) dX7_differs_53 rfl (by decide) ?_
        refine V_goto (tgt := 58) dX7_differs_54 (by decide) ?_
        refine V_istore (q := 60) (lv1 := [(3, 0), (0, x), (0, u), (0, t), (0, 1), (9, 0)]) dX7_differs_58 rfl (by decide) rfl rfl ?_
        refine V_bipush (q := 62) dX7_differs_60 rfl (by decide) ?_
        refine V_iload_n (q := 63) dX7_differs_62 rfl rfl rfl ?_
        refine V_imul (q := 64) dX7_differs_63 rfl (by omega) (fun z63_2 ez63_2 => ?_)
        refine V_istore (q := 66) (lv1 := [(3, 0), (0, x), (0, u), (0, t), (0, 1), (0, z63_2)]) dX7_differs_64 rfl (by decide) rfl rfl ?_
        refine inner (by omega) 1 z63_2 ⟨by omega, by omega, by have := (w.cnt t h1 (by omega)).2.1; omega, ?_⟩
        constructor
        · intro he; exact ⟨by omega, fun j a b => by omega⟩
        · intro he; first | rfl | (exfalso; have := he.1; omega)
  refine V_aload_n (q := 1) dX7_differs_0 rfl rfl rfl ?_
  refine V_iload_n (q := 2) dX7_differs_1 rfl rfl rfl ?_
  refine VM_callI (q := 5) (As := [(0, x)]) (tX7_isWorld (C := C) (M := M) hw0.1) dX7_differs_2 rfl mlX7_280 mw_X7_isWorld im_X7_isWorld sl_X7_isWorld md_X7_isWorld rfl rfl rfl (by decide) (by decide) (Nat.le_refl _) (Nat.le_refl _) (Nat.le_of_ble_eq_true rfl) (fun z2 M2 rz2 hz2 => ?_)
  obtain ⟨hm, bz2, hz2⟩ := hz2
  replace hm := hm.symm
  subst hm
  refine V_if_eq (q := 8) (tgt := 16) dX7_differs_5 (by decide) rfl (fun c5 => ?_) (fun c5 => ?_)
  · refine V_iconst (q := 17) dX7_differs_16 rfl (by decide) ?_
    first | (exfalso; omega) | exact VM_iret dX7_differs_17 ⟨_, rfl, rfl, Or.inl ⟨by omega, rfl⟩⟩
  · refine V_aload_n (q := 9) dX7_differs_8 rfl rfl rfl ?_
    refine V_iload_n (q := 10) dX7_differs_9 rfl rfl rfl ?_
    refine VM_callI (q := 13) (As := [(0, u)]) (tX7_isWorld (C := C) (M := M) hw0.1) dX7_differs_10 rfl mlX7_280 mw_X7_isWorld im_X7_isWorld sl_X7_isWorld md_X7_isWorld rfl rfl rfl (by decide) (by decide) (Nat.le_refl _) (Nat.le_refl _) (Nat.le_of_ble_eq_true rfl) (fun z10 M10 rz10 hz10 => ?_)
    obtain ⟨hm, bz10, hz10⟩ := hz10
    replace hm := hm.symm
    subst hm
    refine V_if_ne (q := 16) (tgt := 18) dX7_differs_13 (by decide) rfl (fun c13 => ?_) (fun c13 => ?_)
    · refine V_iconst (q := 19) dX7_differs_18 rfl (by decide) ?_
      refine V_istore_n (q := 20) (lv1 := [(3, 0), (0, x), (0, u), (0, 0), (9, 0), (9, 0)]) dX7_differs_19 rfl rfl (by decide) rfl rfl ?_
      exact outer 0 ⟨⟨by omega, by omega⟩, by decide, hn0.1, fun s a b => by omega⟩
    · refine V_iconst (q := 17) dX7_differs_16 rfl (by decide) ?_
      first | (exfalso; omega) | exact VM_iret dX7_differs_17 ⟨_, rfl, rfl, Or.inl ⟨by omega, rfl⟩⟩
theorem fX7_touch {Γ : GC} {αC : Sh} {C M : Mem} {x k t n v : Int} (w : WFD M) (h0 : M 17 0 = 0) : MM Γ yX7_touch cX7_touch 8 (some .int) 3 [(0, x), (0, k), (0, t), (0, n), (0, v)] αC C M (mI fun r M1 => M1 = M ∧ r = -1) := by
  refine MM_of (k := 2) [(3, 0), (0, x), (0, k), (0, t), (0, n), (0, v), (9, 0), (9, 0)] pn_X7_touch rfl rfl rfl (fun ad0 => ?_)
  refine V_aload_n (q := 1) dX7_touch_0 rfl rfl rfl ?_
  refine V_iload_n (q := 2) dX7_touch_1 rfl rfl rfl ?_
  refine V_iload_n (q := 3) dX7_touch_2 rfl rfl rfl ?_
  refine V_iload_n (q := 4) dX7_touch_3 rfl rfl rfl ?_
  refine V_iload (q := 6) dX7_touch_4 rfl rfl ?_
  refine VM_callI (q := 9) (As := [(0, x), (0, k), (0, t), (0, n)]) (tX7_refusal (C := C) (M := M) w) dX7_touch_6 rfl mlX7_283 mw_X7_refusal im_X7_refusal sl_X7_refusal md_X7_refusal rfl rfl rfl (by decide) (by decide) (Nat.le_refl _) (Nat.le_refl _) (Nat.le_of_ble_eq_true rfl) (fun z6 M6 rz6 hz6 => ?_)
  obtain ⟨hm, hz6⟩ := hz6
  replace hm := hm.symm
  subst hm
  have hrf : z6 = -1 := by { rw [hz6]; unfold refR; rw [if_pos (by omega)] }
  refine V_istore (q := 11) (lv1 := [(3, 0), (0, x), (0, k), (0, t), (0, n), (0, v), (0, z6), (9, 0)]) dX7_touch_9 rfl (by decide) rfl rfl ?_
  refine V_iload (q := 13) dX7_touch_11 rfl rfl ?_
  refine V_if_ge (q := 16) (tgt := 19) dX7_touch_13 (by decide) rfl (fun c13 => ?_) (fun c13 => ?_)
  · exfalso; omega
  · refine V_iload (q := 18) dX7_touch_16 rfl rfl ?_
    exact VM_iret dX7_touch_18 ⟨_, rfl, rfl, hrf⟩
theorem fX7_foretell {Γ : GC} {αC : Sh} {C M : Mem} {x k t n v : Int} (w : WFD M) (h0 : M 17 0 = 0) : MM Γ yX7_foretell cX7_foretell 7 (some .int) 3 [(0, x), (0, k), (0, t), (0, n), (0, v)] αC C M (mI fun r M1 => M1 = M ∧ r = -1) := by
  refine MM_of (k := 1) [(3, 0), (0, x), (0, k), (0, t), (0, n), (0, v), (9, 0)] pn_X7_foretell rfl rfl rfl (fun ad0 => ?_)
  refine V_aload_n (q := 1) dX7_foretell_0 rfl rfl rfl ?_
  refine V_iload_n (q := 2) dX7_foretell_1 rfl rfl rfl ?_
  refine V_iload_n (q := 3) dX7_foretell_2 rfl rfl rfl ?_
  refine V_iload_n (q := 4) dX7_foretell_3 rfl rfl rfl ?_
  refine V_iload (q := 6) dX7_foretell_4 rfl rfl ?_
  refine VM_callI (q := 9) (As := [(0, x), (0, k), (0, t), (0, n)]) (tX7_refusal (C := C) (M := M) w) dX7_foretell_6 rfl mlX7_283 mw_X7_refusal im_X7_refusal sl_X7_refusal md_X7_refusal rfl rfl rfl (by decide) (by decide) (Nat.le_refl _) (Nat.le_refl _) (Nat.le_of_ble_eq_true rfl) (fun z6 M6 rz6 hz6 => ?_)
  obtain ⟨hm, hz6⟩ := hz6
  replace hm := hm.symm
  subst hm
  have hrf : z6 = -1 := by { rw [hz6]; unfold refR; rw [if_pos (by omega)] }
  refine V_istore (q := 11) (lv1 := [(3, 0), (0, x), (0, k), (0, t), (0, n), (0, v), (0, z6)]) dX7_foretell_9 rfl (by decide) rfl rfl ?_
  refine V_iload (q := 13) dX7_foretell_11 rfl rfl ?_
  refine V_if_ge (q := 16) (tgt := 19) dX7_foretell_13 (by decide) rfl (fun c13 => ?_) (fun c13 => ?_)
  · exfalso; omega
  · refine V_iload (q := 18) dX7_foretell_16 rfl rfl ?_
    exact VM_iret dX7_foretell_18 ⟨_, rfl, rfl, hrf⟩
