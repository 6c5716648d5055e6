/-! THE CLASS'S TOUCH: starts and bodies -/
theorem sbE_inv {B e t ob : Int} {M σ : Mem} {q : Int × Mem} {g : EvT} (w : WFD M) (hg : GOOD B M g) (ht : 0 ≤ t ∧ t < M 0 0) (h0 : 0 ≤ ob) (he : 0 ≤ e) (hF : GD B e M σ q) (hb : q.2 32 0 + Un M q.2 ≤ 39) : INV B M (sbE g t ob q).2 := by
  unfold sbE
  split
  · rename_i h6
    have h5 := hF.2.2.2.2.1 (by rw [h6]; decide)
    split
    · exact hF.1
    · have hr := rowP_inv (t := t) hF.1 hb
      have := w.n
      exact (hg false (5 * t) ob e (rowP t q.2) (fun a => absurd a (by decide)) (fun _ => by omega) h0 he hr (by rw [rowP_o (by decide) (by decide) (by decide)]; exact h5.1) (by
        have := h5.2
        unfold slk at this ⊢
        rw [rowP_o (by decide) (by decide) (by decide), rowP_o (by decide) (by decide) (by decide), rowP_o (by decide) (by decide) (by decide)]
        exact this)).1
  · exact hF.1
theorem tX3_startType {Γ : GC} {α : Sh} {μ : Mem} {B W ob os : Int} {n : Nat} {σ : Mem} {M : Mem} (w : WFD M) (D : DesR M α μ) (hS : STC Γ B M W α n) (hR : RBC Γ B M W α n) (T : TR M σ W α μ) {t : Int} (ht : 0 ≤ t ∧ t < M 0 0) (hP : PR B M (n + 1) ob os σ) (hs : slk B 0 σ) : MT Γ yX3_startType cX3_startType 6 (some .int) (2 * (n + 1) + 50) 0 0 [(3, 150), (0, t), (0, ob), (0, os)] α μ (QI (TQ M W α (-1) σ μ (ev M (n + 1) true t ob σ))) := by
  have hn := w.n
  have hW := T.1
  obtain ⟨pb, po, pf, pI, p47, pB⟩ := id hP
  have hi := pI.2.2.2
  have hu0 := Un_0 M σ
  obtain ⟨T0, eT0⟩ : ∃ T0 : Int, T0 = tk t := ⟨_, rfl⟩
  have hT0 : T0 = 1000 * (t + 1) := eT0
  have hst := pI.1 t ht.1 ht.2
  show MT _ _ _ _ _ _ _ _ _ _ _ (QI (TQ M W α (-1) σ μ (stE M (ev M n) t ob σ)))
  obtain ⟨kT0, yT0⟩ := D.2.2.1 t ht.1 ht.2
  rw [← eT0] at kT0
  unfold TypR at yT0
  rw [← eT0] at yT0
  refine MT_of (k := 2) [(3, 150), (0, t), (0, ob), (0, os), (9, 0), (9, 0)] pn_X3_startType rfl rfl (fun ad0 => ?_)
  refine V_aload_n (q := 1) dX3_startType_0 rfl rfl rfl ?_
  refine V_getA (q := 4) 1 dX3_startType_1 rfl flX3_19 (by decide) (congrArg Prod.fst (show _ = (4, 0) by rw [T.2.2.2.1.1])) rfl rfl (fun z1 ez1 rz1 => ?_)
  rw [T.2.2.2.1.2.2] at ez1
  obtain rfl : W = z1 := ez1.symm
  refine V_getA (q := 7) 0 dX3_startType_4 rfl flX3_96 (by omega) (congrArg Prod.fst (show _ = (6, 0) by rw [T.2.1.1.1])) rfl rfl (fun z4 ez4 rz4 => ?_)
  rw [T.2.1.2.1] at ez4
  obtain rfl : z4 = (W + 1) := ez4
  refine V_iload_n (q := 8) dX3_startType_7 rfl rfl rfl ?_
  refine V_iald (q := 9) (n := 40) dX3_startType_8 rfl (by omega) (by rw [T.2.1.1.2.1]) (by omega) (fun z8 ez8 rz8 => ?_)
  rw [T.2.2.1.1 t (by omega) (by omega)] at ez8
  refine V_istore (q := 11) (lv1 := [(3, 150), (0, t), (0, ob), (0, os), (0, z8), (9, 0)]) dX3_startType_9 rfl (by decide) rfl rfl ?_
  refine V_iload (q := 13) dX3_startType_11 rfl rfl ?_
  refine V_iconst (q := 14) dX3_startType_13 rfl (by decide) ?_
  refine V_icmp_ne (q := 17) (tgt := 25) dX3_startType_14 (by decide) rfl (fun c14 => ?_) (fun c14 => ?_)
  · refine V_iload (q := 27) dX3_startType_25 rfl rfl ?_
    refine V_if_eq (q := 30) (tgt := 33) dX3_startType_27 (by decide) rfl (fun c27 => ?_) (fun c27 => ?_)
    · refine V_iload_n (q := 34) dX3_startType_33 rfl rfl rfl ?_
      refine V_bipush (q := 36) dX3_startType_34 rfl (by decide) ?_
      refine V_icmp_lt (q := 39) (tgt := 42) dX3_startType_36 (by decide) rfl (fun c36 => ?_) (fun c36 => ?_)
      · refine V_aload_n (q := 43) dX3_startType_42 rfl rfl rfl ?_
        refine V_getA (q := 46) 1 dX3_startType_43 rfl flX3_19 (by decide) (congrArg Prod.fst (show _ = (4, 0) by rw [T.2.2.2.1.1])) rfl rfl (fun z43 ez43 rz43 => ?_)
        rw [T.2.2.2.1.2.2] at ez43
        obtain rfl : W = z43 := ez43.symm
        refine V_getA (q := 49) 0 dX3_startType_46 rfl flX3_96 (by omega) (congrArg Prod.fst (show _ = (6, 0) by rw [T.2.1.1.1])) rfl rfl (fun z46 ez46 rz46 => ?_)
        rw [T.2.1.2.1] at ez46
        obtain rfl : z46 = (W + 1) := ez46
        refine V_iload_n (q := 50) dX3_startType_49 rfl rfl rfl ?_
        refine V_iconst (q := 51) dX3_startType_50 rfl (by decide) ?_
        refine V_iast (q := 52) (n := 40) dX3_startType_51 rfl (by omega) (by rw [T.2.1.1.2.1]) (by omega) (fun M51 eM51 => ?_)
        refine V_aload_n (q := 53) dX3_startType_52 rfl rfl rfl ?_
        refine V_aload_n (q := 54) dX3_startType_53 rfl rfl rfl ?_
        refine V_getA (q := 57) 0 dX3_startType_54 rfl flX3_15 (by decide) (congrArg Prod.fst (show _ = (4, 0) by rw [T.2.2.2.1.1])) rfl rfl (fun z54 ez54 rz54 => ?_)
        rw [eM51, mu_ne (by omega), T.2.2.2.1.2.1] at ez54
        obtain rfl : z54 = 110 := ez54
        refine V_getA (q := 60) 0 dX3_startType_57 rfl flX3_52 (by decide) (congrArg Prod.fst (show _ = (3, 0) by rw [D.1.1.1])) rfl rfl (fun z57 ez57 rz57 => ?_)
        rw [eM51, mu_ne (by omega), D.1.2.1] at ez57
        obtain rfl : z57 = 111 := ez57
        refine V_iload_n (q := 61) dX3_startType_60 rfl rfl rfl ?_
        refine V_aald (q := 62) (n := 40) (ta := 23) (ci := 4) dX3_startType_61 rfl (by decide) (by rw [D.1.1.2.1]) rfl (by decide) (by omega) (fun z61 ez61 rz61 => ?_)
        rw [eM51, mu_ne (by omega), kT0] at ez61
        obtain rfl : T0 = z61 := ez61.symm
        refine V_iload_n (q := 63) dX3_startType_62 rfl rfl rfl ?_
        refine V_iload_n (q := 64) dX3_startType_63 rfl rfl rfl ?_
        refine V_iconst (q := 65) dX3_startType_64 rfl (by decide) ?_
        refine V_iadd (q := 66) dX3_startType_65 rfl (by omega) (fun z65 ez65 => ?_)
        have hz : σ 28 t = 0 := by omega
        have hg0 : TWF W μ M51 := by { rw [eM51]; exact TWF.put (by unfold tw; omega) }
        have DM51 := hg0.des w hW D
        have TM51 : TR M (mu σ 28 t 1) W α M51 := by { rw [eM51]; exact TR_28 T }
        have hm := mu28_inv (t := t) pI (v := 1) ⟨by decide, by decide⟩
        have hu := Un_set (M := M) ht.1 ht.2 hz
        have hus := Un_0 M (mu σ 28 t 1)
        have hs1 : slk B 0 (mu σ 28 t 1) := by { unfold slk at hs ⊢; rw [hm.2 30 (by decide), hm.2 45 (by decide), hm.2 47 (by decide)]; exact hs }
        have h471 : mu σ 28 t 1 47 0 ≤ 40 := by rw [hm.2 47 (by decide)]; exact p47
        have hP1 : PR B M n ob z65 (mu σ 28 t 1) := ⟨pb, ⟨by omega, by omega⟩, by omega, hm.1, h471, pB⟩
        refine V_chVi (q := 69) (As := [(3, T0), (0, ob), (0, z65)]) (tX3_startFirsts w DM51 hS TM51 ht eT0 (by rw [mu_s]; decide) hP1 hs1) dX3_startType_66 rfl mlX3_99 mw_X3_startFirsts im_X3_startFirsts sl_X3_startFirsts md_X3_startFirsts rfl (by decide) (by decide) (congrArg Prod.fst (show _ = (4, 0) by rw [T.2.2.2.1.1])) rfl rfl (show _ + 1 ≤ 2 * (n + 1) + 50 by omega) (show 8 + (6 + 11) + 64 * _ ≤ 64 * (2 * (n + 1) + 50) by omega) (Nat.le_of_ble_eq_true rfl) (Nat.le_of_ble_eq_true rfl) (Nat.le_of_ble_eq_true rfl) (fun z66 rz66 A66 M66 xM66 hM66 => ?_)
        obtain ⟨hA, hM66⟩ := hM66
        replace hA := hA.symm
        subst hA
        have hg1 := seqF_gd (ev_good (B := B) w n) pb.1 (LF M t) 0 (mu σ 28 t 1) (LF_all w ht.1 ht.2) (by decide) hm.1 h471 hs1
        obtain ⟨q1, eq1⟩ : ∃ q : Int × Mem, seqF (ev M n) ob (LF M t) (mu σ 28 t 1) = q := ⟨_, rfl⟩
        rw [eq1] at hM66 hg1
        have hQ1 : TQ M W α t (mu σ 28 t 1) M51 q1 z66 α M66 := ⟨rfl, hM66⟩
        obtain ⟨-, FM66, DM66, TM66, KM66, eM66⟩ := id hQ1
        refine V_istore (q := 71) (lv1 := [(3, 150), (0, t), (0, ob), (0, os), (0, z8), (0, z66)]) dX3_startType_69 rfl (by decide) rfl rfl ?_
        refine V_iload (q := 73) dX3_startType_71 rfl rfl ?_
        refine V_bipush (q := 75) dX3_startType_73 rfl (by decide) ?_
        refine V_icmp_ne (q := 78) (tgt := 89) dX3_startType_75 (by decide) rfl (fun c75 => ?_) (fun c75 => ?_)
        · have hq6 : ¬ q1.1 = -6 := by omega
          obtain ⟨q2, eq2⟩ : ∃ q : Int × Mem, sbE (ev M n) t ob q1 = q := ⟨_, rfl⟩
          have eq12 : q1 = q2 := by { rw [← eq2]; unfold sbE; rw [if_neg hq6] }
          have hQ2 := hQ1
          rw [eq12] at hQ2
          have hg2 := hg1.1
          rw [eq12] at hg2
          rw [eq12] at TM66 eM66
          have eq2x : sbE (ev M n) t ob (seqF (ev M n) ob (LF M t) (mu σ 28 t 1)) = q2 := by { rw [eq1]; exact eq2 }
          refine V_iload (q := 91) dX3_startType_89 rfl rfl ?_
          refine V_if_lt (q := 94) (tgt := 111) dX3_startType_91 (by decide) rfl (fun c91 => ?_) (fun c91 => ?_)
          · have eq3 : sfE q2 = q2 := by { unfold sfE; rw [if_neg (by omega)] }
            obtain ⟨q3, hq3⟩ : ∃ q : Int × Mem, sfE q2 = q := ⟨_, rfl⟩
            have eq23 : q2 = q3 := by rw [← hq3, eq3]
            have hQ3 := hQ2
            rw [eq23] at hQ3
            obtain ⟨-, F3, D3, T3, K3, e3⟩ := id hQ3
            refine V_aload_n (q := 112) dX3_startType_111 rfl rfl rfl ?_
            refine V_getA (q := 115) 1 dX3_startType_112 rfl flX3_19 (by decide) (congrArg Prod.fst (show _ = (4, 0) by rw [T.2.2.2.1.1])) rfl rfl (fun z112 ez112 rz112 => ?_)
            rw [T3.2.2.2.1.2.2] at ez112
            obtain rfl : W = z112 := ez112.symm
            refine V_getA (q := 118) 0 dX3_startType_115 rfl flX3_96 (by omega) (congrArg Prod.fst (show _ = (6, 0) by rw [T.2.1.1.1])) rfl rfl (fun z115 ez115 rz115 => ?_)
            rw [T3.2.1.2.1] at ez115
            obtain rfl : z115 = (W + 1) := ez115
            refine V_iload_n (q := 119) dX3_startType_118 rfl rfl rfl ?_
            refine V_iload (q := 121) dX3_startType_119 rfl rfl ?_
            refine V_bipush (q := 123) dX3_startType_121 rfl (by decide) ?_
            refine V_icmp_ne (q := 126) (tgt := 130) dX3_startType_123 (by decide) rfl (fun c123 => ?_) (fun c123 => ?_)
            · refine V_iconst (q := 131) dX3_startType_130 rfl (by decide) ?_
              refine V_iast (q := 132) (n := 40) dX3_startType_131 rfl (by omega) (by rw [T.2.1.1.2.1]) (by omega) (fun M131 eM131 => ?_)
              refine V_iload (q := 134) dX3_startType_132 rfl rfl ?_
              have eth : stE M (ev M n) t ob σ = seE t q3 := by { unfold stE; rw [if_neg (by omega), if_neg (by omega), eq2x, hq3] }
              rw [eth]
              have hx : (if q3.1 = -6 then (2 : Int) else 3) = 3 := by { first | rw [if_pos (by omega)] | rw [if_neg (by omega)] }
              have e2 : (seE t q3).2 = mu q3.2 28 t 3 := by { show mu q3.2 28 t (if q3.1 = -6 then (2 : Int) else 3) = _; rw [hx] }
              have hg9 : TWF W M66 M131 := by { rw [eM131]; exact TWF.put (by unfold tw; omega) }
              have hk9 : KP M t σ (mu q3.2 28 t 3) μ M131 := (KP.twf hW hg0 (fun u hu => by { by_cases h : u = t; · { rw [h, mu_s]; decide }; · { rw [mu_i _ _ _ _ h]; exact hu } })).trans (K3.trans (KP.twf hW hg9 (fun u hu => by { by_cases h : u = t; · { rw [h, mu_s]; decide }; · { rw [mu_i _ _ _ _ h]; exact hu } })))
              refine V_iret dX3_startType_134 (Nat.le_of_ble_eq_true rfl) (Nat.le_of_ble_eq_true rfl) ⟨_, rfl, ⟨rfl, hg0.tf.trans (F3.trans hg9.tf), hg9.des w hW D3, ?_, ?_, e3⟩⟩
              · { rw [e2, eM131]; exact TR_28 T3 }
              · { rw [e2]; exact hk9.own hz }
            · refine V_iconst (q := 127) dX3_startType_126 rfl (by decide) ?_
              refine V_goto (tgt := 131) dX3_startType_127 (by decide) ?_
              refine V_iast (q := 132) (n := 40) dX3_startType_131 rfl (by omega) (by rw [T.2.1.1.2.1]) (by omega) (fun M131_2 eM131_2 => ?_)
              refine V_iload (q := 134) dX3_startType_132 rfl rfl ?_
              have eth : stE M (ev M n) t ob σ = seE t q3 := by { unfold stE; rw [if_neg (by omega), if_neg (by omega), eq2x, hq3] }
              rw [eth]
              have hx : (if q3.1 = -6 then (2 : Int) else 3) = 2 := by { first | rw [if_pos (by omega)] | rw [if_neg (by omega)] }
              have e2 : (seE t q3).2 = mu q3.2 28 t 2 := by { show mu q3.2 28 t (if q3.1 = -6 then (2 : Int) else 3) = _; rw [hx] }
              have hg9 : TWF W M66 M131_2 := by { rw [eM131_2]; exact TWF.put (by unfold tw; omega) }
              have hk9 : KP M t σ (mu q3.2 28 t 2) μ M131_2 := (KP.twf hW hg0 (fun u hu => by { by_cases h : u = t; · { rw [h, mu_s]; decide }; · { rw [mu_i _ _ _ _ h]; exact hu } })).trans (K3.trans (KP.twf hW hg9 (fun u hu => by { by_cases h : u = t; · { rw [h, mu_s]; decide }; · { rw [mu_i _ _ _ _ h]; exact hu } })))
              refine V_iret dX3_startType_134 (Nat.le_of_ble_eq_true rfl) (Nat.le_of_ble_eq_true rfl) ⟨_, rfl, ⟨rfl, hg0.tf.trans (F3.trans hg9.tf), hg9.des w hW D3, ?_, ?_, e3⟩⟩
              · { rw [e2, eM131_2]; exact TR_28 T3 }
              · { rw [e2]; exact hk9.own hz }
          · refine V_iload (q := 96) dX3_startType_94 rfl rfl ?_
            refine V_bipush (q := 98) dX3_startType_96 rfl (by decide) ?_
            refine V_icmp_ge (q := 101) (tgt := 111) dX3_startType_98 (by decide) rfl (fun c98 => ?_) (fun c98 => ?_)
            · have eq3 : sfE q2 = q2 := by { unfold sfE; rw [if_neg (by omega)] }
              obtain ⟨q3, hq3⟩ : ∃ q : Int × Mem, sfE q2 = q := ⟨_, rfl⟩
              have eq23 : q2 = q3 := by rw [← hq3, eq3]
              have hQ3 := hQ2
              rw [eq23] at hQ3
              obtain ⟨-, F3, D3, T3, K3, e3⟩ := id hQ3
              refine V_aload_n (q := 112) dX3_startType_111 rfl rfl rfl ?_
              refine V_getA (q := 115) 1 dX3_startType_112 rfl flX3_19 (by decide) (congrArg Prod.fst (show _ = (4, 0) by rw [T.2.2.2.1.1])) rfl rfl (fun z112_2 ez112_2 rz112_2 => ?_)
              rw [T3.2.2.2.1.2.2] at ez112_2
              obtain rfl : W = z112_2 := ez112_2.symm
              refine V_getA (q := 118) 0 dX3_startType_115 rfl flX3_96 (by omega) (congrArg Prod.fst (show _ = (6, 0) by rw [T.2.1.1.1])) rfl rfl (fun z115_2 ez115_2 rz115_2 => ?_)
              rw [T3.2.1.2.1] at ez115_2
              obtain rfl : z115_2 = (W + 1) := ez115_2
              refine V_iload_n (q := 119) dX3_startType_118 rfl rfl rfl ?_
              refine V_iload (q := 121) dX3_startType_119 rfl rfl ?_
              refine V_bipush (q := 123) dX3_startType_121 rfl (by decide) ?_
              refine V_icmp_ne (q := 126) (tgt := 130) dX3_startType_123 (by decide) rfl (fun c123_2 => ?_) (fun c123_2 => ?_)
              · refine V_iconst (q := 131) dX3_startType_130 rfl (by decide) ?_
                refine V_iast (q := 132) (n := 40) dX3_startType_131 rfl (by omega) (by rw [T.2.1.1.2.1]) (by omega) (fun M131_3 eM131_3 => ?_)
                refine V_iload (q := 134) dX3_startType_132 rfl rfl ?_
                have eth : stE M (ev M n) t ob σ = seE t q3 := by { unfold stE; rw [if_neg (by omega), if_neg (by omega), eq2x, hq3] }
                rw [eth]
                have hx : (if q3.1 = -6 then (2 : Int) else 3) = 3 := by { first | rw [if_pos (by omega)] | rw [if_neg (by omega)] }
                have e2 : (seE t q3).2 = mu q3.2 28 t 3 := by { show mu q3.2 28 t (if q3.1 = -6 then (2 : Int) else 3) = _; rw [hx] }
                have hg9 : TWF W M66 M131_3 := by { rw [eM131_3]; exact TWF.put (by unfold tw; omega) }
                have hk9 : KP M t σ (mu q3.2 28 t 3) μ M131_3 := (KP.twf hW hg0 (fun u hu => by { by_cases h : u = t; · { rw [h, mu_s]; decide }; · { rw [mu_i _ _ _ _ h]; exact hu } })).trans (K3.trans (KP.twf hW hg9 (fun u hu => by { by_cases h : u = t; · { rw [h, mu_s]; decide }; · { rw [mu_i _ _ _ _ h]; exact hu } })))
                refine V_iret dX3_startType_134 (Nat.le_of_ble_eq_true rfl) (Nat.le_of_ble_eq_true rfl) ⟨_, rfl, ⟨rfl, hg0.tf.trans (F3.trans hg9.tf), hg9.des w hW D3, ?_, ?_, e3⟩⟩
                · { rw [e2, eM131_3]; exact TR_28 T3 }
                · { rw [e2]; exact hk9.own hz }
              · refine V_iconst (q := 127) dX3_startType_126 rfl (by decide) ?_
                refine V_goto (tgt := 131) dX3_startType_127 (by decide) ?_
                refine V_iast (q := 132) (n := 40) dX3_startType_131 rfl (by omega) (by rw [T.2.1.1.2.1]) (by omega) (fun M131_4 eM131_4 => ?_)
                refine V_iload (q := 134) dX3_startType_132 rfl rfl ?_
                have eth : stE M (ev M n) t ob σ = seE t q3 := by { unfold stE; rw [if_neg (by omega), if_neg (by omega), eq2x, hq3] }
                rw [eth]
                have hx : (if q3.1 = -6 then (2 : Int) else 3) = 2 := by { first | rw [if_pos (by omega)] | rw [if_neg (by omega)] }
                have e2 : (seE t q3).2 = mu q3.2 28 t 2 := by { show mu q3.2 28 t (if q3.1 = -6 then (2 : Int) else 3) = _; rw [hx] }
                have hg9 : TWF W M66 M131_4 := by { rw [eM131_4]; exact TWF.put (by unfold tw; omega) }
                have hk9 : KP M t σ (mu q3.2 28 t 2) μ M131_4 := (KP.twf hW hg0 (fun u hu => by { by_cases h : u = t; · { rw [h, mu_s]; decide }; · { rw [mu_i _ _ _ _ h]; exact hu } })).trans (K3.trans (KP.twf hW hg9 (fun u hu => by { by_cases h : u = t; · { rw [h, mu_s]; decide }; · { rw [mu_i _ _ _ _ h]; exact hu } })))
                refine V_iret dX3_startType_134 (Nat.le_of_ble_eq_true rfl) (Nat.le_of_ble_eq_true rfl) ⟨_, rfl, ⟨rfl, hg0.tf.trans (F3.trans hg9.tf), hg9.des w hW D3, ?_, ?_, e3⟩⟩
                · { rw [e2, eM131_4]; exact TR_28 T3 }
                · { rw [e2]; exact hk9.own hz }
            · refine V_aload_n (q := 102) dX3_startType_101 rfl rfl rfl ?_
              refine V_bipush (q := 104) dX3_startType_102 rfl (by decide) ?_
              refine V_iload (q := 106) dX3_startType_104 rfl rfl ?_
              refine V_chVi (q := 109) (As := [(0, 20), (0, z66)]) (tX3_arise (n := 20) (of := z66) TM66 (by have := hg2.2.2.2; omega) (by have := hg2.2.2.2; omega)) dX3_startType_106 rfl mlX3_38 mw_X3_arise im_X3_arise sl_X3_arise md_X3_arise rfl (by decide) (by decide) (congrArg Prod.fst (show _ = (4, 0) by rw [T.2.2.2.1.1])) rfl rfl (show _ + 1 ≤ 2 * (n + 1) + 50 by omega) (show 8 + (3 + 11) + 64 * _ ≤ 64 * (2 * (n + 1) + 50) by omega) (Nat.le_of_ble_eq_true rfl) (Nat.le_of_ble_eq_true rfl) (Nat.le_of_ble_eq_true rfl) (fun z106 rz106 A106 M106 xM106 hM106 => ?_)
              obtain ⟨hA, hM106⟩ := hM106
              replace hA := hA.symm
              subst hA
              have eq3 : sfE q2 = arE 20 z66 q2.2 := by { unfold sfE; rw [if_pos (by omega), show q2.1 = z66 by omega] }
              obtain ⟨q3, hq3⟩ : ∃ q : Int × Mem, sfE q2 = q := ⟨_, rfl⟩
              have hQ3 : TQ M W α t (mu σ 28 t 1) M51 q3 z106 α M106 := hQ2.trans (by { rw [← hq3, eq3]; exact TQ_ar w hW DM66 hM106.1 hM106.2.1 hM106.2.2 })
              obtain ⟨-, FM106, DM106, TM106, KM106, eM106⟩ := id hQ3
              refine V_istore (q := 111) (lv1 := [(3, 150), (0, t), (0, ob), (0, os), (0, z8), (0, z106)]) dX3_startType_109 rfl (by decide) rfl rfl ?_
              obtain ⟨-, F3, D3, T3, K3, e3⟩ := id hQ3
              refine V_aload_n (q := 112) dX3_startType_111 rfl rfl rfl ?_
              refine V_getA (q := 115) 1 dX3_startType_112 rfl flX3_19 (by decide) (congrArg Prod.fst (show _ = (4, 0) by rw [T.2.2.2.1.1])) rfl rfl (fun z112_3 ez112_3 rz112_3 => ?_)
              rw [T3.2.2.2.1.2.2] at ez112_3
              obtain rfl : W = z112_3 := ez112_3.symm
              refine V_getA (q := 118) 0 dX3_startType_115 rfl flX3_96 (by omega) (congrArg Prod.fst (show _ = (6, 0) by rw [T.2.1.1.1])) rfl rfl (fun z115_3 ez115_3 rz115_3 => ?_)
              rw [T3.2.1.2.1] at ez115_3
              obtain rfl : z115_3 = (W + 1) := ez115_3
              refine V_iload_n (q := 119) dX3_startType_118 rfl rfl rfl ?_
              refine V_iload (q := 121) dX3_startType_119 rfl rfl ?_
              refine V_bipush (q := 123) dX3_startType_121 rfl (by decide) ?_
              refine V_icmp_ne (q := 126) (tgt := 130) dX3_startType_123 (by decide) rfl (fun c123_3 => ?_) (fun c123_3 => ?_)
              · refine V_iconst (q := 131) dX3_startType_130 rfl (by decide) ?_
                refine V_iast (q := 132) (n := 40) dX3_startType_131 rfl (by omega) (by rw [T.2.1.1.2.1]) (by omega) (fun M131_5 eM131_5 => ?_)
                refine V_iload (q := 134) dX3_startType_132 rfl rfl ?_
                have eth : stE M (ev M n) t ob σ = seE t q3 := by { unfold stE; rw [if_neg (by omega), if_neg (by omega), eq2x, hq3] }
                rw [eth]
                have hx : (if q3.1 = -6 then (2 : Int) else 3) = 3 := by { first | rw [if_pos (by omega)] | rw [if_neg (by omega)] }
                have e2 : (seE t q3).2 = mu q3.2 28 t 3 := by { show mu q3.2 28 t (if q3.1 = -6 then (2 : Int) else 3) = _; rw [hx] }
                have hg9 : TWF W M106 M131_5 := by { rw [eM131_5]; exact TWF.put (by unfold tw; omega) }
                have hk9 : KP M t σ (mu q3.2 28 t 3) μ M131_5 := (KP.twf hW hg0 (fun u hu => by { by_cases h : u = t; · { rw [h, mu_s]; decide }; · { rw [mu_i _ _ _ _ h]; exact hu } })).trans (K3.trans (KP.twf hW hg9 (fun u hu => by { by_cases h : u = t; · { rw [h, mu_s]; decide }; · { rw [mu_i _ _ _ _ h]; exact hu } })))
                refine V_iret dX3_startType_134 (Nat.le_of_ble_eq_true rfl) (Nat.le_of_ble_eq_true rfl) ⟨_, rfl, ⟨rfl, hg0.tf.trans (F3.trans hg9.tf), hg9.des w hW D3, ?_, ?_, e3⟩⟩
                · { rw [e2, eM131_5]; exact TR_28 T3 }
                · { rw [e2]; exact hk9.own hz }
              · refine V_iconst (q := 127) dX3_startType_126 rfl (by decide) ?_
                refine V_goto (tgt := 131) dX3_startType_127 (by decide) ?_
                refine V_iast (q := 132) (n := 40) dX3_startType_131 rfl (by omega) (by rw [T.2.1.1.2.1]) (by omega) (fun M131_6 eM131_6 => ?_)
                refine V_iload (q := 134) dX3_startType_132 rfl rfl ?_
                have eth : stE M (ev M n) t ob σ = seE t q3 := by { unfold stE; rw [if_neg (by omega), if_neg (by omega), eq2x, hq3] }
                rw [eth]
                have hx : (if q3.1 = -6 then (2 : Int) else 3) = 2 := by { first | rw [if_pos (by omega)] | rw [if_neg (by omega)] }
                have e2 : (seE t q3).2 = mu q3.2 28 t 2 := by { show mu q3.2 28 t (if q3.1 = -6 then (2 : Int) else 3) = _; rw [hx] }
                have hg9 : TWF W M106 M131_6 := by { rw [eM131_6]; exact TWF.put (by unfold tw; omega) }
                have hk9 : KP M t σ (mu q3.2 28 t 2) μ M131_6 := (KP.twf hW hg0 (fun u hu => by { by_cases h : u = t; · { rw [h, mu_s]; decide }; · { rw [mu_i _ _ _ _ h]; exact hu } })).trans (K3.trans (KP.twf hW hg9 (fun u hu => by { by_cases h : u = t; · { rw [h, mu_s]; decide }; · { rw [mu_i _ _ _ _ h]; exact hu } })))
                refine V_iret dX3_startType_134 (Nat.le_of_ble_eq_true rfl) (Nat.le_of_ble_eq_true rfl) ⟨_, rfl, ⟨rfl, hg0.tf.trans (F3.trans hg9.tf), hg9.des w hW D3, ?_, ?_, e3⟩⟩
                · { rw [e2, eM131_6]; exact TR_28 T3 }
                · { rw [e2]; exact hk9.own hz }
        · refine V_aload_n (q := 79) dX3_startType_78 rfl rfl rfl ?_
          refine V_iload_n (q := 80) dX3_startType_79 rfl rfl rfl ?_
          refine V_iload_n (q := 81) dX3_startType_80 rfl rfl rfl ?_
          refine V_iload_n (q := 82) dX3_startType_81 rfl rfl rfl ?_
          refine V_iconst (q := 83) dX3_startType_82 rfl (by decide) ?_
          refine V_iadd (q := 84) dX3_startType_83 rfl (by omega) (fun z83 ez83 => ?_)
          have hq6 : q1.1 = -6 := by omega
          have hg15 := hg1.2.2.2.2.1 (by omega)
          have hP2 : PR B M n ob z83 q1.2 := ⟨pb, ⟨by omega, by have := hg1.2.1; omega⟩, by have := hg1.2.1; omega, hg1.1, hg15.1, pB⟩
          have h39 : q1.2 32 0 + Un M q1.2 ≤ 39 := by { have a := hg1.2.2.1; have b := pI.2.1.2; have c : mu σ 28 t 1 32 0 = σ 32 0 := (by rw [hm.2 32 (by decide)]); omega }
          refine V_chVi (q := 87) (As := [(0, t), (0, ob), (0, z83)]) (tX3_runStart w DM66 hR TM66 ht hP2 hg15.2 h39) dX3_startType_84 rfl mlX3_103 mw_X3_runStart im_X3_runStart sl_X3_runStart md_X3_runStart rfl (by decide) (by decide) (congrArg Prod.fst (show _ = (4, 0) by rw [T.2.2.2.1.1])) rfl rfl (show _ + 1 ≤ 2 * (n + 1) + 50 by omega) (show 8 + (4 + 11) + 64 * _ ≤ 64 * (2 * (n + 1) + 50) by omega) (Nat.le_of_ble_eq_true rfl) (Nat.le_of_ble_eq_true rfl) (Nat.le_of_ble_eq_true rfl) (fun z84 rz84 A84 M84 xM84 hM84 => ?_)
          obtain ⟨hA, hM84⟩ := hM84
          replace hA := hA.symm
          subst hA
          obtain ⟨q2, eq2⟩ : ∃ q : Int × Mem, sbE (ev M n) t ob q1 = q := ⟨_, rfl⟩
          have eq2b : (if 30 ≤ ob then (23, q1.2) else ev M n false (5 * t) ob (rowP t q1.2)) = q2 := by { rw [← eq2]; unfold sbE; rw [if_pos hq6] }
          rw [eq2b] at hM84
          have hQ2 : TQ M W α t (mu σ 28 t 1) M51 q2 z84 α M84 := hQ1.trans ⟨rfl, hM84.1, hM84.2.1, hM84.2.2.1, hM84.2.2.2.1.weak, hM84.2.2.2.2⟩
          obtain ⟨-, FM84, DM84, TM84, KM84, eM84⟩ := id hQ2
          have hg2 : INV B M q2.2 := by { rw [← eq2]; exact sbE_inv w (ev_good w n) ht pb.1 (by decide) hg1 h39 }
          refine V_istore (q := 89) (lv1 := [(3, 150), (0, t), (0, ob), (0, os), (0, z8), (0, z84)]) dX3_startType_87 rfl (by decide) rfl rfl ?_
          have eq2x : sbE (ev M n) t ob (seqF (ev M n) ob (LF M t) (mu σ 28 t 1)) = q2 := by { rw [eq1]; exact eq2 }
          refine V_iload (q := 91) dX3_startType_89 rfl rfl ?_
          refine V_if_lt (q := 94) (tgt := 111) dX3_startType_91 (by decide) rfl (fun c91_2 => ?_) (fun c91_2 => ?_)
          · have eq3 : sfE q2 = q2 := by { unfold sfE; rw [if_neg (by omega)] }
            obtain ⟨q3, hq3⟩ : ∃ q : Int × Mem, sfE q2 = q := ⟨_, rfl⟩
            have eq23 : q2 = q3 := by rw [← hq3, eq3]
            have hQ3 := hQ2
            rw [eq23] at hQ3
            obtain ⟨-, F3, D3, T3, K3, e3⟩ := id hQ3
            refine V_aload_n (q := 112) dX3_startType_111 rfl rfl rfl ?_
            refine V_getA (q := 115) 1 dX3_startType_112 rfl flX3_19 (by decide) (congrArg Prod.fst (show _ = (4, 0) by rw [T.2.2.2.1.1])) rfl rfl (fun z112_4 ez112_4 rz112_4 => ?_)
            rw [T3.2.2.2.1.2.2] at ez112_4
            obtain rfl : W = z112_4 := ez112_4.symm
            refine V_getA (q := 118) 0 dX3_startType_115 rfl flX3_96 (by omega) (congrArg Prod.fst (show _ = (6, 0) by rw [T.2.1.1.1])) rfl rfl (fun z115_4 ez115_4 rz115_4 => ?_)
            rw [T3.2.1.2.1] at ez115_4
            obtain rfl : z115_4 = (W + 1) := ez115_4
            refine V_iload_n (q := 119) dX3_startType_118 rfl rfl rfl ?_
            refine V_iload (q := 121) dX3_startType_119 rfl rfl ?_
            refine V_bipush (q := 123) dX3_startType_121 rfl (by decide) ?_
            refine V_icmp_ne (q := 126) (tgt := 130) dX3_startType_123 (by decide) rfl (fun c123_4 => ?_) (fun c123_4 => ?_)
            · refine V_iconst (q := 131) dX3_startType_130 rfl (by decide) ?_
              refine V_iast (q := 132) (n := 40) dX3_startType_131 rfl (by omega) (by rw [T.2.1.1.2.1]) (by omega) (fun M131_7 eM131_7 => ?_)
              refine V_iload (q := 134) dX3_startType_132 rfl rfl ?_
              have eth : stE M (ev M n) t ob σ = seE t q3 := by { unfold stE; rw [if_neg (by omega), if_neg (by omega), eq2x, hq3] }
              rw [eth]
              have hx : (if q3.1 = -6 then (2 : Int) else 3) = 3 := by { first | rw [if_pos (by omega)] | rw [if_neg (by omega)] }
              have e2 : (seE t q3).2 = mu q3.2 28 t 3 := by { show mu q3.2 28 t (if q3.1 = -6 then (2 : Int) else 3) = _; rw [hx] }
              have hg9 : TWF W M84 M131_7 := by { rw [eM131_7]; exact TWF.put (by unfold tw; omega) }
              have hk9 : KP M t σ (mu q3.2 28 t 3) μ M131_7 := (KP.twf hW hg0 (fun u hu => by { by_cases h : u = t; · { rw [h, mu_s]; decide }; · { rw [mu_i _ _ _ _ h]; exact hu } })).trans (K3.trans (KP.twf hW hg9 (fun u hu => by { by_cases h : u = t; · { rw [h, mu_s]; decide }; · { rw [mu_i _ _ _ _ h]; exact hu } })))
              refine V_iret dX3_startType_134 (Nat.le_of_ble_eq_true rfl) (Nat.le_of_ble_eq_true rfl) ⟨_, rfl, ⟨rfl, hg0.tf.trans (F3.trans hg9.tf), hg9.des w hW D3, ?_, ?_, e3⟩⟩
              · { rw [e2, eM131_7]; exact TR_28 T3 }
              · { rw [e2]; exact hk9.own hz }
            · refine V_iconst (q := 127) dX3_startType_126 rfl (by decide) ?_
              refine V_goto (tgt := 131) dX3_startType_127 (by decide) ?_
              refine V_iast (q := 132) (n := 40) dX3_startType_131 rfl (by omega) (by rw [T.2.1.1.2.1]) (by omega) (fun M131_8 eM131_8 => ?_)
              refine V_iload (q := 134) dX3_startType_132 rfl rfl ?_
              have eth : stE M (ev M n) t ob σ = seE t q3 := by { unfold stE; rw [if_neg (by omega), if_neg (by omega), eq2x, hq3] }
              rw [eth]
              have hx : (if q3.1 = -6 then (2 : Int) else 3) = 2 := by { first | rw [if_pos (by omega)] | rw [if_neg (by omega)] }
              have e2 : (seE t q3).2 = mu q3.2 28 t 2 := by { show mu q3.2 28 t (if q3.1 = -6 then (2 : Int) else 3) = _; rw [hx] }
              have hg9 : TWF W M84 M131_8 := by { rw [eM131_8]; exact TWF.put (by unfold tw; omega) }
              have hk9 : KP M t σ (mu q3.2 28 t 2) μ M131_8 := (KP.twf hW hg0 (fun u hu => by { by_cases h : u = t; · { rw [h, mu_s]; decide }; · { rw [mu_i _ _ _ _ h]; exact hu } })).trans (K3.trans (KP.twf hW hg9 (fun u hu => by { by_cases h : u = t; · { rw [h, mu_s]; decide }; · { rw [mu_i _ _ _ _ h]; exact hu } })))
              refine V_iret dX3_startType_134 (Nat.le_of_ble_eq_true rfl) (Nat.le_of_ble_eq_true rfl) ⟨_, rfl, ⟨rfl, hg0.tf.trans (F3.trans hg9.tf), hg9.des w hW D3, ?_, ?_, e3⟩⟩
              · { rw [e2, eM131_8]; exact TR_28 T3 }
              · { rw [e2]; exact hk9.own hz }
          · refine V_iload (q := 96) dX3_startType_94 rfl rfl ?_
            refine V_bipush (q := 98) dX3_startType_96 rfl (by decide) ?_
            refine V_icmp_ge (q := 101) (tgt := 111) dX3_startType_98 (by decide) rfl (fun c98_2 => ?_) (fun c98_2 => ?_)
            · have eq3 : sfE q2 = q2 := by { unfold sfE; rw [if_neg (by omega)] }
              obtain ⟨q3, hq3⟩ : ∃ q : Int × Mem, sfE q2 = q := ⟨_, rfl⟩
              have eq23 : q2 = q3 := by rw [← hq3, eq3]
              have hQ3 := hQ2
              rw [eq23] at hQ3
              obtain ⟨-, F3, D3, T3, K3, e3⟩ := id hQ3
              refine V_aload_n (q := 112) dX3_startType_111 rfl rfl rfl ?_
              refine V_getA (q := 115) 1 dX3_startType_112 rfl flX3_19 (by decide) (congrArg Prod.fst (show _ = (4, 0) by rw [T.2.2.2.1.1])) rfl rfl (fun z112_5 ez112_5 rz112_5 => ?_)
              rw [T3.2.2.2.1.2.2] at ez112_5
              obtain rfl : W = z112_5 := ez112_5.symm
              refine V_getA (q := 118) 0 dX3_startType_115 rfl flX3_96 (by omega) (congrArg Prod.fst (show _ = (6, 0) by rw [T.2.1.1.1])) rfl rfl (fun z115_5 ez115_5 rz115_5 => ?_)
              rw [T3.2.1.2.1] at ez115_5
              obtain rfl : z115_5 = (W + 1) := ez115_5
              refine V_iload_n (q := 119) dX3_startType_118 rfl rfl rfl ?_
              refine V_iload (q := 121) dX3_startType_119 rfl rfl ?_
              refine V_bipush (q := 123) dX3_startType_121 rfl (by decide) ?_
              refine V_icmp_ne (q := 126) (tgt := 130) dX3_startType_123 (by decide) rfl (fun c123_5 => ?_) (fun c123_5 => ?_)
              · refine V_iconst (q := 131) dX3_startType_130 rfl (by decide) ?_
                refine V_iast (q := 132) (n := 40) dX3_startType_131 rfl (by omega) (by rw [T.2.1.1.2.1]) (by omega) (fun M131_9 eM131_9 => ?_)
                refine V_iload (q := 134) dX3_startType_132 rfl rfl ?_
                have eth : stE M (ev M n) t ob σ = seE t q3 := by { unfold stE; rw [if_neg (by omega), if_neg (by omega), eq2x, hq3] }
                rw [eth]
                have hx : (if q3.1 = -6 then (2 : Int) else 3) = 3 := by { first | rw [if_pos (by omega)] | rw [if_neg (by omega)] }
                have e2 : (seE t q3).2 = mu q3.2 28 t 3 := by { show mu q3.2 28 t (if q3.1 = -6 then (2 : Int) else 3) = _; rw [hx] }
                have hg9 : TWF W M84 M131_9 := by { rw [eM131_9]; exact TWF.put (by unfold tw; omega) }
                have hk9 : KP M t σ (mu q3.2 28 t 3) μ M131_9 := (KP.twf hW hg0 (fun u hu => by { by_cases h : u = t; · { rw [h, mu_s]; decide }; · { rw [mu_i _ _ _ _ h]; exact hu } })).trans (K3.trans (KP.twf hW hg9 (fun u hu => by { by_cases h : u = t; · { rw [h, mu_s]; decide }; · { rw [mu_i _ _ _ _ h]; exact hu } })))
                refine V_iret dX3_startType_134 (Nat.le_of_ble_eq_true rfl) (Nat.le_of_ble_eq_true rfl) ⟨_, rfl, ⟨rfl, hg0.tf.trans (F3.trans hg9.tf), hg9.des w hW D3, ?_, ?_, e3⟩⟩
                · { rw [e2, eM131_9]; exact TR_28 T3 }
                · { rw [e2]; exact hk9.own hz }
              · refine V_iconst (q := 127) dX3_startType_126 rfl (by decide) ?_
                refine V_goto (tgt := 131) dX3_startType_127 (by decide) ?_
                refine V_iast (q := 132) (n := 40) dX3_startType_131 rfl (by omega) (by rw [T.2.1.1.2.1]) (by omega) (fun M131_10 eM131_10 => ?_)
                refine V_iload (q := 134) dX3_startType_132 rfl rfl ?_
                have eth : stE M (ev M n) t ob σ = seE t q3 := by { unfold stE; rw [if_neg (by omega), if_neg (by omega), eq2x, hq3] }
                rw [eth]
                have hx : (if q3.1 = -6 then (2 : Int) else 3) = 2 := by { first | rw [if_pos (by omega)] | rw [if_neg (by omega)] }
                have e2 : (seE t q3).2 = mu q3.2 28 t 2 := by { show mu q3.2 28 t (if q3.1 = -6 then (2 : Int) else 3) = _; rw [hx] }
                have hg9 : TWF W M84 M131_10 := by { rw [eM131_10]; exact TWF.put (by unfold tw; omega) }
                have hk9 : KP M t σ (mu q3.2 28 t 2) μ M131_10 := (KP.twf hW hg0 (fun u hu => by { by_cases h : u = t; · { rw [h, mu_s]; decide }; · { rw [mu_i _ _ _ _ h]; exact hu } })).trans (K3.trans (KP.twf hW hg9 (fun u hu => by { by_cases h : u = t; · { rw [h, mu_s]; decide }; · { rw [mu_i _ _ _ _ h]; exact hu } })))
                refine V_iret dX3_startType_134 (Nat.le_of_ble_eq_true rfl) (Nat.le_of_ble_eq_true rfl) ⟨_, rfl, ⟨rfl, hg0.tf.trans (F3.trans hg9.tf), hg9.des w hW D3, ?_, ?_, e3⟩⟩
                · { rw [e2, eM131_10]; exact TR_28 T3 }
                · { rw [e2]; exact hk9.own hz }
            · refine V_aload_n (q := 102) dX3_startType_101 rfl rfl rfl ?_
              refine V_bipush (q := 104) dX3_startType_102 rfl (by decide) ?_
              refine V_iload (q := 106) dX3_startType_104 rfl rfl ?_
              refine V_chVi (q := 109) (As := [(0, 20), (0, z84)]) (tX3_arise (n := 20) (of := z84) TM84 (by have := hg2.2.2.2; omega) (by have := hg2.2.2.2; omega)) dX3_startType_106 rfl mlX3_38 mw_X3_arise im_X3_arise sl_X3_arise md_X3_arise rfl (by decide) (by decide) (congrArg Prod.fst (show _ = (4, 0) by rw [T.2.2.2.1.1])) rfl rfl (show _ + 1 ≤ 2 * (n + 1) + 50 by omega) (show 8 + (3 + 11) + 64 * _ ≤ 64 * (2 * (n + 1) + 50) by omega) (Nat.le_of_ble_eq_true rfl) (Nat.le_of_ble_eq_true rfl) (Nat.le_of_ble_eq_true rfl) (fun z106_2 rz106_2 A106_2 M106_2 xM106_2 hM106_2 => ?_)
              obtain ⟨hA, hM106_2⟩ := hM106_2
              replace hA := hA.symm
              subst hA
              have eq3 : sfE q2 = arE 20 z84 q2.2 := by { unfold sfE; rw [if_pos (by omega), show q2.1 = z84 by omega] }
              obtain ⟨q3, hq3⟩ : ∃ q : Int × Mem, sfE q2 = q := ⟨_, rfl⟩
              have hQ3 : TQ M W α t (mu σ 28 t 1) M51 q3 z106_2 α M106_2 := hQ2.trans (by { rw [← hq3, eq3]; exact TQ_ar w hW DM84 hM106_2.1 hM106_2.2.1 hM106_2.2.2 })
              obtain ⟨-, FM106_2, DM106_2, TM106_2, KM106_2, eM106_2⟩ := id hQ3
              refine V_istore (q := 111) (lv1 := [(3, 150), (0, t), (0, ob), (0, os), (0, z8), (0, z106_2)]) dX3_startType_109 rfl (by decide) rfl rfl ?_
              obtain ⟨-, F3, D3, T3, K3, e3⟩ := id hQ3
              refine V_aload_n (q := 112) dX3_startType_111 rfl rfl rfl ?_
              refine V_getA (q := 115) 1 dX3_startType_112 rfl flX3_19 (by decide) (congrArg Prod.fst (show _ = (4, 0) by rw [T.2.2.2.1.1])) rfl rfl (fun z112_6 ez112_6 rz112_6 => ?_)
              rw [T3.2.2.2.1.2.2] at ez112_6
              obtain rfl : W = z112_6 := ez112_6.symm
              refine V_getA (q := 118) 0 dX3_startType_115 rfl flX3_96 (by omega) (congrArg Prod.fst (show _ = (6, 0) by rw [T.2.1.1.1])) rfl rfl (fun z115_6 ez115_6 rz115_6 => ?_)
              rw [T3.2.1.2.1] at ez115_6
              obtain rfl : z115_6 = (W + 1) := ez115_6
              refine V_iload_n (q := 119) dX3_startType_118 rfl rfl rfl ?_
              refine V_iload (q := 121) dX3_startType_119 rfl rfl ?_
              refine V_bipush (q := 123) dX3_startType_121 rfl (by decide) ?_
              refine V_icmp_ne (q := 126) (tgt := 130) dX3_startType_123 (by decide) rfl (fun c123_6 => ?_) (fun c123_6 => ?_)
              · refine V_iconst (q := 131) dX3_startType_130 rfl (by decide) ?_
                refine V_iast (q := 132) (n := 40) dX3_startType_131 rfl (by omega) (by rw [T.2.1.1.2.1]) (by omega) (fun M131_11 eM131_11 => ?_)
                refine V_iload (q := 134) dX3_startType_132 rfl rfl ?_
                have eth : stE M (ev M n) t ob σ = seE t q3 := by { unfold stE; rw [if_neg (by omega), if_neg (by omega), eq2x, hq3] }
                rw [eth]
                have hx : (if q3.1 = -6 then (2 : Int) else 3) = 3 := by { first | rw [if_pos (by omega)] | rw [if_neg (by omega)] }
                have e2 : (seE t q3).2 = mu q3.2 28 t 3 := by { show mu q3.2 28 t (if q3.1 = -6 then (2 : Int) else 3) = _; rw [hx] }
                have hg9 : TWF W M106_2 M131_11 := by { rw [eM131_11]; exact TWF.put (by unfold tw; omega) }
                have hk9 : KP M t σ (mu q3.2 28 t 3) μ M131_11 := (KP.twf hW hg0 (fun u hu => by { by_cases h : u = t; · { rw [h, mu_s]; decide }; · { rw [mu_i _ _ _ _ h]; exact hu } })).trans (K3.trans (KP.twf hW hg9 (fun u hu => by { by_cases h : u = t; · { rw [h, mu_s]; decide }; · { rw [mu_i _ _ _ _ h]; exact hu } })))
                refine V_iret dX3_startType_134 (Nat.le_of_ble_eq_true rfl) (Nat.le_of_ble_eq_true rfl) ⟨_, rfl, ⟨rfl, hg0.tf.trans (F3.trans hg9.tf), hg9.des w hW D3, ?_, ?_, e3⟩⟩
                · { rw [e2, eM131_11]; exact TR_28 T3 }
                · { rw [e2]; exact hk9.own hz }
              · refine V_iconst (q := 127) dX3_startType_126 rfl (by decide) ?_
                refine V_goto (tgt := 131) dX3_startType_127 (by decide) ?_
                refine V_iast (q := 132) (n := 40) dX3_startType_131 rfl (by omega) (by rw [T.2.1.1.2.1]) (by omega) (fun M131_12 eM131_12 => ?_)
                refine V_iload (q := 134) dX3_startType_132 rfl rfl ?_
                have eth : stE M (ev M n) t ob σ = seE t q3 := by { unfold stE; rw [if_neg (by omega), if_neg (by omega), eq2x, hq3] }
                rw [eth]
                have hx : (if q3.1 = -6 then (2 : Int) else 3) = 2 := by { first | rw [if_pos (by omega)] | rw [if_neg (by omega)] }
                have e2 : (seE t q3).2 = mu q3.2 28 t 2 := by { show mu q3.2 28 t (if q3.1 = -6 then (2 : Int) else 3) = _; rw [hx] }
                have hg9 : TWF W M106_2 M131_12 := by { rw [eM131_12]; exact TWF.put (by unfold tw; omega) }
                have hk9 : KP M t σ (mu q3.2 28 t 2) μ M131_12 := (KP.twf hW hg0 (fun u hu => by { by_cases h : u = t; · { rw [h, mu_s]; decide }; · { rw [mu_i _ _ _ _ h]; exact hu } })).trans (K3.trans (KP.twf hW hg9 (fun u hu => by { by_cases h : u = t; · { rw [h, mu_s]; decide }; · { rw [mu_i _ _ _ _ h]; exact hu } })))
                refine V_iret dX3_startType_134 (Nat.le_of_ble_eq_true rfl) (Nat.le_of_ble_eq_true rfl) ⟨_, rfl, ⟨rfl, hg0.tf.trans (F3.trans hg9.tf), hg9.des w hW D3, ?_, ?_, e3⟩⟩
                · { rw [e2, eM131_12]; exact TR_28 T3 }
                · { rw [e2]; exact hk9.own hz }
      · refine V_bipush (q := 41) dX3_startType_39 rfl (by decide) ?_
        have hu := Un_set (M := M) ht.1 ht.2 (show σ 28 t = 0 by omega)
        have := Un_0 M (mu σ 28 t 1)
        exfalso; omega
    · refine V_bipush (q := 32) dX3_startType_30 rfl (by decide) ?_
      have eth : stE M (ev M n) t ob σ = (-6, σ) := by { unfold stE; rw [if_neg (by omega), if_pos (by omega)] }
      rw [eth]
      exact V_iret dX3_startType_32 (Nat.le_of_ble_eq_true rfl) (Nat.le_of_ble_eq_true rfl) ⟨_, rfl, ⟨rfl, TF.rf, D, T, KP.rf, rfl⟩⟩
  · refine V_aload_n (q := 18) dX3_startType_17 rfl rfl rfl ?_
    refine V_bipush (q := 20) dX3_startType_18 rfl (by decide) ?_
    refine V_iload_n (q := 21) dX3_startType_20 rfl rfl rfl ?_
    refine V_chVi (q := 24) (As := [(0, 21), (0, t)]) (tX3_arise T (by omega) (by omega)) dX3_startType_21 rfl mlX3_38 mw_X3_arise im_X3_arise sl_X3_arise md_X3_arise rfl (by decide) (by decide) (congrArg Prod.fst (show _ = (4, 0) by rw [T.2.2.2.1.1])) rfl rfl (show _ + 1 ≤ 2 * (n + 1) + 50 by omega) (show 8 + (3 + 11) + 64 * _ ≤ 64 * (2 * (n + 1) + 50) by omega) (Nat.le_of_ble_eq_true rfl) (Nat.le_of_ble_eq_true rfl) (Nat.le_of_ble_eq_true rfl) (fun z21 rz21 A21 M21 xM21 hM21 => ?_)
    obtain ⟨hA, hM21⟩ := hM21
    replace hA := hA.symm
    subst hA
    have eth : stE M (ev M n) t ob σ = arE 21 t σ := by { unfold stE; rw [if_pos (by omega)] }
    rw [eth]
    exact V_iret dX3_startType_24 (Nat.le_of_ble_eq_true rfl) (Nat.le_of_ble_eq_true rfl) ⟨_, rfl, TQ_ar w hW D hM21.1 hM21.2.1 hM21.2.2⟩
