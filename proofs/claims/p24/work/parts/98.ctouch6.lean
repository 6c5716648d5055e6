/-! THE CLASS'S TOUCH: bodies; the induction by fuel -/
/-- where a body stands: its first i actions are done, its catches count from fc on -/
def BdI (B : Int) (M : Mem) (W : Int) (α : Sh) (n : Nat) (b ob : Int) (σ μ m τ : Mem) (fc i : Int) : Prop :=
  (DesR M α m ∧ TR M τ W α m ∧ TF W μ m ∧ KP M (-1) σ τ μ m) ∧ (0 ≤ fc ∧ fc ≤ i ∧ i ≤ M 12 b) ∧ (INV B M τ ∧ τ 47 0 ≤ 40 ∧ slk B 0 τ ∧ Un M τ ≤ Un M σ) ∧ bdE M (ev M n) b ob σ = bdL M (ev M n) b (ob) (M 12 b - i).toNat i fc τ
theorem bdL_s (M : Mem) (g : EvT) (b ob : Int) {i : Int} (h : i < M 12 b) (fc : Int) (σ : Mem) : bdL M g b ob (M 12 b - i).toNat i fc σ = if 1000 ≤ σ 45 0 then (23, σ)
    else if M 13 (12 * b + i) = 8 then bdL M g b ob (M 12 b - (i + 1)).toNat (i + 1) fc (mu σ 45 0 (σ 45 0 + 1))
    else if (tkE M b fc i (acE M g (M 13 (12 * b + i)) (M 14 (12 * b + i)) (M 15 (12 * b + i)) (M 16 (12 * b + i)) (ob + 1) (mu σ 45 0 (σ 45 0 + 1)))).1 = -6 then bdL M g b ob (M 12 b - (i + 1)).toNat (i + 1) (i + 1) (tkE M b fc i (acE M g (M 13 (12 * b + i)) (M 14 (12 * b + i)) (M 15 (12 * b + i)) (M 16 (12 * b + i)) (ob + 1) (mu σ 45 0 (σ 45 0 + 1)))).2
    else tkE M b fc i (acE M g (M 13 (12 * b + i)) (M 14 (12 * b + i)) (M 15 (12 * b + i)) (M 16 (12 * b + i)) (ob + 1) (mu σ 45 0 (σ 45 0 + 1))) := by
  rw [show (M 12 b - i).toNat = (M 12 b - (i + 1)).toNat + 1 by omega]
  rfl
theorem tkE_28 {M : Mem} {b fc i u : Int} {q : Int × Mem} : (tkE M b fc i q).2 28 u = q.2 28 u := by
  unfold tkE
  split
  · rfl
  · split
    · exact onT_o (by decide) (by decide)
    · rfl
theorem tX3_runBody {Γ : GC} {α : Sh} {μ : Mem} {B W ob os : Int} {n : Nat} {σ : Mem} {M : Mem} (w : WFD M) (D : DesR M α μ) (hS : STC Γ B M W α n) (hR : RBC Γ B M W α n) (T : TR M σ W α μ) {b Bt A : Int} (hb : bodT M b Bt A) (hP : PR B M (n + 1) ob os σ) (hs : slk B 0 σ) : MT Γ yX3_runBody cX3_runBody 8 (some .int) (2 * (n + 1) + 50) 0 0 [(3, 150), (3, Bt), (0, ob), (0, os)] α μ (QI (TQ M W α (-1) σ μ (ev M (n + 1) false b ob σ))) := by
  have hn := w.n
  have hW := T.1
  obtain ⟨pb, po, pf, pI, p47, pB⟩ := id hP
  have hi := pI.2.2.2
  have hu0 := Un_0 M σ
  have hbr := hb.rng w
  have hsz := w.size b hbr.1.1 hbr.1.2
  show MT _ _ _ _ _ _ _ _ _ _ _ (QI (TQ M W α (-1) σ μ (bdE M (ev M n) b ob σ)))
  refine MT_of (k := 4) [(3, 150), (3, Bt), (0, ob), (0, os), (9, 0), (9, 0), (9, 0), (9, 0)] pn_X3_runBody rfl rfl (fun ad0 => ?_)
  have loop : ob < 30 → ∀ (m τ : Mem) (fc i : Int), BdI B M W α n b ob σ μ m τ fc i → V Γ α ad0 (ZM Γ α ad0 (QI (TQ M W α (-1) σ μ (bdE M (ev M n) b ob σ))) 0 0) (RM (2 * (n + 1) + 50) 0 0) RX3 cX3_runBody 8 (some .int) yX3_runBody.name 33 [] [(3, 150), (3, Bt), (0, ob), (0, os), (0, fc), (0, i), (9, 0), (9, 0)] α m 0 0 := by
    intro hob
    refine loop4 _ (fun _ _ _ i => (M 12 b - i).toNat) _ ?_
    rintro m τ fc i ⟨⟨Dm, Tm, Fm, Km⟩, hfi, ⟨tI, t47, ts, tu⟩, hbd⟩ ih
    have ti := tI.2.2.2
    obtain ⟨ai, eai⟩ : ∃ ai : Int, ai = A + i := ⟨_, rfl⟩
    refine V_iload (q := 35) dX3_runBody_33 rfl rfl ?_
    refine V_aload_n (q := 36) dX3_runBody_35 rfl rfl rfl ?_
    refine V_getI (q := 39) 1 dX3_runBody_36 rfl flX3_141 (by omega) (congrArg Prod.fst (show _ = (2, 0) by rw [(hb.at D).1.1])) rfl rfl (fun z36 ez36 rz36 => ?_)
    rw [(hb.at Dm).2.1] at ez36
    refine V_icmp_ge (q := 42) (tgt := 131) dX3_runBody_39 (by decide) rfl (fun c39 => ?_) (fun c39 => ?_)
    · refine V_bipush (q := 133) dX3_runBody_131 rfl (by decide) ?_
      have eth : bdE M (ev M n) b ob σ = (-6, τ) := by { rw [hbd, show (M 12 b - i).toNat = 0 by omega]; rfl }
      rw [eth]
      exact V_iret dX3_runBody_133 (Nat.le_of_ble_eq_true rfl) (Nat.le_of_ble_eq_true rfl) ⟨_, rfl, ⟨rfl, Fm, Dm, Tm, Km, rfl⟩⟩
    · refine V_aload_n (q := 43) dX3_runBody_42 rfl rfl rfl ?_
      refine V_getI (q := 46) 2 dX3_runBody_43 rfl flX3_23 (by decide) (congrArg Prod.fst (show _ = (4, 0) by rw [T.2.2.2.1.1])) rfl rfl (fun z43 ez43 rz43 => ?_)
      rw [Tm.2.2.2.2.1] at ez43
      refine V_sipush (q := 49) dX3_runBody_46 rfl (by decide) ?_
      refine V_icmp_lt (q := 52) (tgt := 55) dX3_runBody_49 (by decide) rfl (fun c49 => ?_) (fun c49 => ?_)
      · refine V_aload_n (q := 56) dX3_runBody_55 rfl rfl rfl ?_
        refine V_dup (q := 57) dX3_runBody_56 rfl (show (3 : Nat) ≠ 2 by decide) ?_
        refine V_getI (q := 60) 2 dX3_runBody_57 rfl flX3_23 (by decide) (congrArg Prod.fst (show _ = (4, 0) by rw [T.2.2.2.1.1])) rfl rfl (fun z57 ez57 rz57 => ?_)
        rw [Tm.2.2.2.2.1] at ez57
        refine V_iconst (q := 61) dX3_runBody_60 rfl (by decide) ?_
        refine V_iadd (q := 62) dX3_runBody_61 rfl (by omega) (fun z61 ez61 => ?_)
        refine V_putI (q := 65) 2 dX3_runBody_62 rfl flX3_23 (Or.inl rfl) (by decide) (congrArg Prod.fst (show _ = (4, 0) by rw [T.2.2.2.1.1])) rfl rfl (fun M62 eM62 => ?_)
        have hlt : i < M 12 b := by omega
        rw [bdL_s _ _ _ _ hlt, if_neg (by omega)] at hbd
        have hgm : TWF W m M62 := by { rw [eM62]; exact TWF.put (by unfold tw; omega) }
        have DM62 := hgm.des w hW Dm
        have TM62 : TR M (mu τ 45 0 (τ 45 0 + 1)) W α M62 := by { rw [eM62, show z61 = τ 45 0 + 1 by omega]; exact TR_45 Tm }
        have ha := act45_inv tI (by omega) ts
        have hact := w.act b i hbr.1.1 hbr.1.2 (by omega) hlt
        have h0ai : 0 ≤ ai := by omega
        have hok : okA ai := by { unfold okA; omega }
        have hai : AcR α M62 ai (M 13 (12 * b + i)) (M 14 (12 * b + i)) (M 15 (12 * b + i)) (M 16 (12 * b + i)) := by { rw [eai]; exact ((hb.at DM62).2.2.1 i (by omega) hlt).2 }
        obtain ⟨τ1, eτ⟩ : ∃ τ1 : Mem, mu τ 45 0 (τ 45 0 + 1) = τ1 := ⟨_, rfl⟩
        rw [eτ] at hbd TM62 ha
        have h28 : τ1 28 = τ 28 := ha.2.2 28 (by decide)
        have h471 : τ1 47 0 ≤ 40 := by rw [ha.2.2 47 (by decide)]; exact t47
        have hu1 : Un M τ1 ≤ Un M σ := by rw [Un_same h28]; exact tu
        have Km1 : KP M (-1) σ τ1 μ M62 := Km.trans (KP.twf hW hgm (fun u hu => by rw [h28]; exact hu))
        refine V_aload_n (q := 66) dX3_runBody_65 rfl rfl rfl ?_
        refine V_getA (q := 69) 0 dX3_runBody_66 rfl flX3_146 (by omega) (congrArg Prod.fst (show _ = (2, 0) by rw [(hb.at D).1.1])) rfl rfl (fun z66 ez66 rz66 => ?_)
        rw [(hb.at DM62).1.2.2] at ez66
        obtain rfl : z66 = (Bt + 1) := ez66
        refine V_iload (q := 71) dX3_runBody_69 rfl rfl ?_
        refine V_aald (q := 72) (n := 12) (ta := 25) (ci := 0) dX3_runBody_71 rfl (by omega) (by rw [(hb.at D).1.2.1]) rfl (by decide) (by omega) (fun z71 ez71 rz71 => ?_)
        rw [((hb.at DM62).2.2.1 i (by omega) (by omega)).1.trans eai.symm] at ez71
        obtain rfl : ai = z71 := ez71.symm
        refine V_astore (q := 74) (lv1 := [(3, 150), (3, Bt), (0, ob), (0, os), (0, fc), (0, i), (3, ai), (9, 0)]) dX3_runBody_72 rfl (by decide) rfl rfl ?_
        refine V_aload (q := 76) dX3_runBody_74 rfl rfl ?_
        refine V_getI (q := 79) 0 dX3_runBody_76 rfl flX3_30 (by omega) (congrArg Prod.fst (show _ = (1, 0) by rw [hai.1])) rfl rfl (fun z76 ez76 rz76 => ?_)
        rw [hai.2.1] at ez76
        refine V_bipush (q := 81) dX3_runBody_79 rfl (by decide) ?_
        refine V_icmp_eq (q := 84) (tgt := 125) dX3_runBody_81 (by decide) rfl (fun c81 => ?_) (fun c81 => ?_)
        · refine V_iinc (q := 128) dX3_runBody_125 rfl rfl (by decide) rfl (by omega) (fun z125 lz125 ez125 hlz125 => ?_)
          obtain rfl : lz125 = [(3, 150), (3, Bt), (0, ob), (0, os), (0, fc), (0, z125), (3, ai), (9, 0)] := hlz125
          refine V_goto (tgt := 33) dX3_runBody_128 (by decide) ?_
          refine V_fgt [(3, 150), (3, Bt), (0, ob), (0, os), (0, fc), (0, z125), (9, 0), (9, 0)] ⟨Or.inl rfl, Or.inl rfl, Or.inl rfl, Or.inl rfl, Or.inl rfl, Or.inl rfl, Or.inr rfl, Or.inr rfl, trivial⟩ ?_
          exact ih M62 τ1 fc z125 ⟨⟨DM62, TM62, Fm.trans hgm.tf, Km1⟩, ⟨by omega, by omega, by omega⟩, ⟨ha.1, h471, slk_1 ha.2.1, hu1⟩, by { rw [hbd, if_pos (by omega), show z125 = i + 1 by omega] }⟩ (by omega)
        · refine V_aload_n (q := 85) dX3_runBody_84 rfl rfl rfl ?_
          refine V_aload (q := 87) dX3_runBody_85 rfl rfl ?_
          refine V_iload_n (q := 88) dX3_runBody_87 rfl rfl rfl ?_
          refine V_iconst (q := 89) dX3_runBody_88 rfl (by decide) ?_
          refine V_iadd (q := 90) dX3_runBody_89 rfl (by omega) (fun z89 ez89 => ?_)
          refine V_iload_n (q := 91) dX3_runBody_90 rfl rfl rfl ?_
          have eob : z89 = ob + 1 := by omega
          subst eob
          have hP1 : PR B M n (ob + 1) os τ1 := ⟨⟨by omega, by omega⟩, ⟨po.1, by omega⟩, by omega, ha.1, h471, pB⟩
          refine V_chVi (q := 94) (As := [(3, ai), (0, (ob + 1)), (0, os)]) (tX3_perform w DM62 hS hR TM62 hok hai ⟨hact.1.1, by { have := hact.1.2; omega }⟩ (fun a c => hact.2.1 a c) (fun a c => hact.2.2.1 a c) (fun a => by { have := hact.2.2.2.1 a; omega }) hP1 ha.2.1) dX3_runBody_91 rfl mlX3_26 mw_X3_perform im_X3_perform sl_X3_perform md_X3_perform rfl (by decide) (by decide) (congrArg Prod.fst (show _ = (4, 0) by rw [T.2.2.2.1.1])) rfl rfl (show _ + 1 ≤ 2 * (n + 1) + 50 by omega) (show 8 + (6 + 11) + 64 * _ ≤ 64 * (2 * (n + 1) + 50) by omega) (Nat.le_of_ble_eq_true rfl) (Nat.le_of_ble_eq_true rfl) (Nat.le_of_ble_eq_true rfl) (fun z91 rz91 A91 M91 xM91 hM91 => ?_)
          obtain ⟨hA, hM91⟩ := hM91
          replace hA := hA.symm
          subst hA
          have hgd : GD B 0 M τ1 (acE M (ev M n) (M 13 (12 * b + i)) (M 14 (12 * b + i)) (M 15 (12 * b + i)) (M 16 (12 * b + i)) (ob + 1) τ1) := acE_gd w (ev_good w n) (fun a c => hact.2.1 a c) (fun a => by { have := hact.2.2.2.1 a; omega }) (by omega) (by decide) ha.1 h471 ha.2.1
          rw [if_neg (by omega)] at hbd
          obtain ⟨q1, eq1⟩ : ∃ q : Int × Mem, acE M (ev M n) (M 13 (12 * b + i)) (M 14 (12 * b + i)) (M 15 (12 * b + i)) (M 16 (12 * b + i)) (ob + 1) τ1 = q := ⟨_, rfl⟩
          rw [eq1] at hM91 hgd hbd
          obtain ⟨FM91, DM91, TM91, KM91, eM91⟩ := hM91
          have hg2 := hgd.2.2.2.1
          have hg3 := hgd.1.2.2.2
          refine V_istore (q := 96) (lv1 := [(3, 150), (3, Bt), (0, ob), (0, os), (0, fc), (0, i), (3, ai), (0, z91)]) dX3_runBody_94 rfl (by decide) rfl rfl ?_
          refine V_aload_n (q := 97) dX3_runBody_96 rfl rfl rfl ?_
          refine V_aload_n (q := 98) dX3_runBody_97 rfl rfl rfl ?_
          refine V_iload (q := 100) dX3_runBody_98 rfl rfl ?_
          refine V_iload (q := 102) dX3_runBody_100 rfl rfl ?_
          refine V_iload (q := 104) dX3_runBody_102 rfl rfl ?_
          refine V_chVi (q := 107) (As := [(3, Bt), (0, fc), (0, i), (0, z91)]) (tX3_takeFailure (q := q1) w DM91 TM91 hb eM91 (by omega) (by omega) (by omega) hlt (by omega) (by omega)) dX3_runBody_104 rfl mlX3_149 mw_X3_takeFailure im_X3_takeFailure sl_X3_takeFailure md_X3_takeFailure rfl (by decide) (by decide) (congrArg Prod.fst (show _ = (4, 0) by rw [T.2.2.2.1.1])) rfl rfl (show _ + 1 ≤ 2 * (n + 1) + 50 by omega) (show 8 + (7 + 11) + 64 * _ ≤ 64 * (2 * (n + 1) + 50) by omega) (Nat.le_of_ble_eq_true rfl) (Nat.le_of_ble_eq_true rfl) (Nat.le_of_ble_eq_true rfl) (fun z104 rz104 A104 M104 xM104 hM104 => ?_)
          obtain ⟨hA, hM104⟩ := hM104
          replace hA := hA.symm
          subst hA
          have hgt : GD B 0 M τ1 (tkE M b fc i q1) := tkE_gd (by decide) hgd
          have ht28 : ∀ u, (tkE M b fc i q1).2 28 u = q1.2 28 u := fun u => tkE_28
          obtain ⟨q2, eq2⟩ : ∃ q : Int × Mem, tkE M b fc i q1 = q := ⟨_, rfl⟩
          rw [eq2] at hM104 hgt hbd ht28
          obtain ⟨gM104, TM104, eM104⟩ := hM104
          have DM104 := gM104.des w hW DM91
          have KK : KP M (-1) σ q2.2 μ M104 := Km1.trans (KM91.trans (KP.twf hW gM104 (fun u hu => by rw [ht28]; exact hu)))
          have FF1 : TF W μ M104 := Fm.trans (hgm.tf.trans (FM91.trans gM104.tf))
          refine V_istore (q := 109) (lv1 := [(3, 150), (3, Bt), (0, ob), (0, os), (0, fc), (0, i), (3, ai), (0, z104)]) dX3_runBody_107 rfl (by decide) rfl rfl ?_
          refine V_iload (q := 111) dX3_runBody_109 rfl rfl ?_
          refine V_bipush (q := 113) dX3_runBody_111 rfl (by decide) ?_
          refine V_icmp_eq (q := 116) (tgt := 119) dX3_runBody_113 (by decide) rfl (fun c113 => ?_) (fun c113 => ?_)
          · refine V_iload (q := 121) dX3_runBody_119 rfl rfl ?_
            refine V_iconst (q := 122) dX3_runBody_121 rfl (by decide) ?_
            refine V_iadd (q := 123) dX3_runBody_122 rfl (by omega) (fun z122 ez122 => ?_)
            refine V_istore (q := 125) (lv1 := [(3, 150), (3, Bt), (0, ob), (0, os), (0, z122), (0, i), (3, ai), (0, z104)]) dX3_runBody_123 rfl (by decide) rfl rfl ?_
            refine V_iinc (q := 128) dX3_runBody_125 rfl rfl (by decide) rfl (by omega) (fun z125_2 lz125_2 ez125_2 hlz125_2 => ?_)
            obtain rfl : lz125_2 = [(3, 150), (3, Bt), (0, ob), (0, os), (0, z122), (0, z125_2), (3, ai), (0, z104)] := hlz125_2
            refine V_goto (tgt := 33) dX3_runBody_128 (by decide) ?_
            refine V_fgt [(3, 150), (3, Bt), (0, ob), (0, os), (0, z122), (0, z125_2), (9, 0), (9, 0)] ⟨Or.inl rfl, Or.inl rfl, Or.inl rfl, Or.inl rfl, Or.inl rfl, Or.inl rfl, Or.inr rfl, Or.inr rfl, trivial⟩ ?_
            have hg5 := hgt.2.2.2.2.1 (by omega)
            exact ih M104 q2.2 z122 z125_2 ⟨⟨DM104, TM104, FF1, KK⟩, ⟨by omega, by omega, by omega⟩, ⟨hgt.1, hg5.1, hg5.2, by have := hgt.2.1; omega⟩, by { rw [hbd, if_pos (by omega), show z125_2 = i + 1 by omega, show z122 = i + 1 by omega] }⟩ (by omega)
          · refine V_iload (q := 118) dX3_runBody_116 rfl rfl ?_
            rw [hbd, if_neg (by omega)]
            exact V_iret dX3_runBody_118 (Nat.le_of_ble_eq_true rfl) (Nat.le_of_ble_eq_true rfl) ⟨_, rfl, ⟨rfl, FF1, DM104, TM104, KK, eM104⟩⟩
      · refine V_bipush (q := 54) dX3_runBody_52 rfl (by decide) ?_
        rw [hbd, bdL_s _ _ _ _ (by omega), if_pos (by omega)]
        exact V_iret dX3_runBody_54 (Nat.le_of_ble_eq_true rfl) (Nat.le_of_ble_eq_true rfl) ⟨_, rfl, ⟨rfl, Fm, Dm, Tm, Km, rfl⟩⟩
  refine V_aload_n (q := 1) dX3_runBody_0 rfl rfl rfl ?_
  refine V_ifnull (q := 4) (tgt := 10) dX3_runBody_1 (by decide) rfl (fun c1 => ?_) (fun c1 => ?_)
  · exfalso; omega
  · refine V_iload_n (q := 5) dX3_runBody_4 rfl rfl rfl ?_
    refine V_bipush (q := 7) dX3_runBody_5 rfl (by decide) ?_
    refine V_icmp_lt (q := 10) (tgt := 13) dX3_runBody_7 (by decide) rfl (fun c7 => ?_) (fun c7 => ?_)
    · refine V_aload_n (q := 14) dX3_runBody_13 rfl rfl rfl ?_
      refine V_aload_n (q := 15) dX3_runBody_14 rfl rfl rfl ?_
      refine V_getI (q := 18) 3 dX3_runBody_15 rfl flX3_133 (by decide) (congrArg Prod.fst (show _ = (4, 0) by rw [T.2.2.2.1.1])) rfl rfl (fun z15 ez15 rz15 => ?_)
      rw [T.2.2.2.2.2.1] at ez15
      refine V_iload_n (q := 19) dX3_runBody_18 rfl rfl rfl ?_
      refine V_iconst (q := 20) dX3_runBody_19 rfl (by decide) ?_
      refine V_iadd (q := 21) dX3_runBody_20 rfl (by omega) (fun z20 ez20 => ?_)
      refine V_max (q := 24) dX3_runBody_21 rfl (show 1 ≤ 2 * (n + 1) + 50 by omega) (show 1 + 13 ≤ 64 * (2 * (n + 1) + 50) by omega) (Nat.le_of_ble_eq_true rfl) (Nat.le_of_ble_eq_true rfl) (fun z21 ez21 => ?_)
      refine V_putI (q := 27) 3 dX3_runBody_24 rfl flX3_133 (Or.inl rfl) (by decide) (congrArg Prod.fst (show _ = (4, 0) by rw [T.2.2.2.1.1])) rfl rfl (fun M24 eM24 => ?_)
      refine V_iconst (q := 28) dX3_runBody_27 rfl (by decide) ?_
      refine V_istore (q := 30) (lv1 := [(3, 150), (3, Bt), (0, ob), (0, os), (0, 0), (9, 0), (9, 0), (9, 0)]) dX3_runBody_28 rfl (by decide) rfl rfl ?_
      refine V_iconst (q := 31) dX3_runBody_30 rfl (by decide) ?_
      refine V_istore (q := 33) (lv1 := [(3, 150), (3, Bt), (0, ob), (0, os), (0, 0), (0, 0), (9, 0), (9, 0)]) dX3_runBody_31 rfl (by decide) rfl rfl ?_
      have hg0 : TWF W μ M24 := by { rw [eM24]; exact TWF.put (by unfold tw; omega) }
      have ev46 : z21 = (if σ 46 0 < ob + 1 then ob + 1 else σ 46 0) := by { rw [ez21, show z20 = ob + 1 by omega, show z15 = σ 46 0 by omega] }
      have hv : 0 ≤ (if σ 46 0 < ob + 1 then ob + 1 else σ 46 0) ∧ (if σ 46 0 < ob + 1 then ob + 1 else σ 46 0) ≤ 30 := by { split <;> omega }
      have hm := mu46_inv pI hv
      exact loop (by omega) M24 (mu σ 46 0 (if σ 46 0 < ob + 1 then ob + 1 else σ 46 0)) 0 0 ⟨⟨hg0.des w hW D, by { rw [eM24, ev46]; exact TR_46 T }, hg0.tf, KP.twf hW hg0 (fun u hu => by rw [mu_ne (by omega)]; exact hu)⟩, ⟨by decide, by decide, hsz.1⟩, ⟨hm.1, by rw [hm.2 47 (by decide)]; exact p47, by { unfold slk at hs ⊢; rw [hm.2 30 (by decide), hm.2 45 (by decide), hm.2 47 (by decide)]; exact hs }, by rw [Un_same (hm.2 28 (by decide))]; exact Int.le_refl _⟩, by { unfold bdE; rw [if_neg (by omega), show M 12 b - 0 = M 12 b by omega] }⟩
    · refine V_bipush (q := 12) dX3_runBody_10 rfl (by decide) ?_
      have eth : bdE M (ev M n) b ob σ = (23, σ) := by { unfold bdE; rw [if_pos (by omega)] }
      rw [eth]
      exact V_iret dX3_runBody_12 (Nat.le_of_ble_eq_true rfl) (Nat.le_of_ble_eq_true rfl) ⟨_, rfl, ⟨rfl, TF.rf, D, T, KP.rf, rfl⟩⟩
theorem touch_all {Γ : GC} {B W : Int} {M : Mem} {α : Sh} (w : WFD M) : ∀ n : Nat, STC Γ B M W α n ∧ RBC Γ B M W α n := by
  intro n
  induction n with
  | zero =>
    refine ⟨fun σ μ t ob os _ _ _ hP _ => ?_, fun σ μ b Bt A ob os _ _ _ hP _ => ?_⟩
    · have := Un_0 M σ; have := hP.2.2.1; have := hP.1; exfalso; omega
    · have := Un_0 M σ; have := hP.2.2.1; have := hP.1; exfalso; omega
  | succ n ih =>
    exact ⟨fun σ μ t ob os D T ht hP hs => tX3_startType w D ih.1 ih.2 T ht hP hs, fun σ μ b Bt A ob os D T hb hP hs => tX3_runBody w D ih.1 ih.2 T hb hP hs⟩
