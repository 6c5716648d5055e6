/-! THE CLASS: the calls that read the description -/
/-- the bench: the description, the row of worlds, how many there are -/
def BenR (M : Mem) (α : Sh) (μ : Mem) : Prop := SbS α μ ∧ μ 100 2 = M 17 0
theorem BenR_sf {M : Mem} {α : Sh} {μ μ1 : Mem} (h : BenR M α μ) (f : ∀ i, μ1 100 i = μ 100 i) : BenR M α μ1 := by
  unfold BenR SbS at h ⊢
  rw [f 0, f 1, f 2, f 3]
  exact h
theorem told_9 {M : Mem} (w : WFD M) {t : Int} : cntP (fun k => RT M k t) (M 0 0).toNat = cntP (fun k => k ≠ t ∧ RS M k t) (M 0 0).toNat :=
  cntP_congr _ (fun i _ _ => ⟨fun h => ⟨fun q => w.acyc t (by rw [q] at h; exact h), Or.inr h⟩, fun h => h.2.resolve_left h.1⟩)
theorem told_tell {M : Mem} {t x : Int} (ht : 0 ≤ t ∧ t < M 0 0) (hx : 2 ≤ x ∧ x ≤ 8) : toldR M t x = tellR M t x := by
  rcases (show x = 2 ∨ x = 3 ∨ x = 4 ∨ x = 5 ∨ x = 6 ∨ x = 7 ∨ x = 8 by omega) with rfl | rfl | rfl | rfl | rfl | rfl | rfl <;> simp [toldR, tellR, ht.1, ht.2]
theorem foundR_f {M : Mem} {t nm me : Int} (ht : 0 ≤ t ∧ t < M 0 0) (hm : 0 ≤ nm ∧ nm ≤ 9) (h : me = 0) : foundR M t nm me = FO M t nm := by
  unfold foundR FO
  rw [if_neg (by omega), if_neg (by omega), if_neg (by omega)]
theorem foundR_m {M : Mem} {t nm me : Int} (ht : 0 ≤ t ∧ t < M 0 0) (hm : 0 ≤ nm ∧ nm ≤ 9) (h : me ≠ 0) : foundR M t nm me = (if FM M nm t < 0 then -6 else FM M nm t / 5) := by
  unfold foundR
  rw [if_neg (by omega), if_neg (by omega), if_pos h]
theorem told_rs {M : Mem} (w : WFD M) {k t : Int} : RT M k t ↔ (k ≠ t ∧ RS M k t) := ⟨fun h => ⟨fun q => w.acyc t (by rw [q] at h; exact h), Or.inr h⟩, fun h => h.2.resolve_left h.1⟩
theorem tX6_below {Γ : GC} {α : Sh} {μ : Mem} {t u : Int} {M : Mem} (w : WFD M) (D : DesR M α μ) (B : BenR M α μ)  : MT Γ yX6_below cX6_below 3 (some .int) 1 0 0 [(3, 100), (0, t), (0, u)] α μ (QI fun r α1 μ1 => α1 = α ∧ SF μ μ1 ∧ DesR M α μ1 ∧ r = belowR M t u) := by
  have hn := w.n
  have hw := w.w
  refine MT_of (k := 0) [(3, 100), (0, t), (0, u)] pn_X6_below rfl rfl (fun ad0 => ?_)
  refine V_aload_n (q := 1) dX6_below_0 rfl rfl rfl ?_
  refine V_getA (q := 4) 0 dX6_below_1 rfl flX6_10 (by decide) (congrArg Prod.fst (show _ = (7, 0) by rw [B.1.1.1])) rfl rfl (fun z1 ez1 rz1 => ?_)
  rw [B.1.2.1] at ez1
  obtain rfl : z1 = 110 := ez1
  refine V_iload_n (q := 5) dX6_below_4 rfl rfl rfl ?_
  refine V_rdV (q := 8) (As := [(0, t)]) (tX2_knows D.1.1.1) dX6_below_5 rfl mlX6_31 mw_X2_knows im_X2_knows sl_X2_knows md_X2_knows rfl (by decide) (by decide) (congrArg Prod.fst (show _ = (3, 0) by rw [D.1.1.1])) rfl rfl (by decide) (by decide) (Nat.le_of_ble_eq_true rfl) (Nat.le_of_ble_eq_true rfl) (Nat.le_of_ble_eq_true rfl) (fun z5 rz5 hz5 => ?_)
  obtain ⟨bz5, hz5⟩ := hz5
  rw [D.2.1] at hz5
  refine V_if_eq (q := 11) (tgt := 22) dX6_below_8 (by decide) rfl (fun c8 => ?_) (fun c8 => ?_)
  · refine V_iconst (q := 23) dX6_below_22 rfl (by decide) ?_
    first | (exfalso; omega) | exact V_iret dX6_below_23 (Nat.le_of_ble_eq_true rfl) (Nat.le_of_ble_eq_true rfl) ⟨_, rfl, rfl, SF.rf, D, by { unfold belowR; (repeat' (first | rw [if_pos (by omega)] | rw [if_neg (by omega)])); try omega }⟩
  · refine V_aload_n (q := 12) dX6_below_11 rfl rfl rfl ?_
    refine V_getA (q := 15) 0 dX6_below_12 rfl flX6_10 (by decide) (congrArg Prod.fst (show _ = (7, 0) by rw [B.1.1.1])) rfl rfl (fun z12 ez12 rz12 => ?_)
    rw [B.1.2.1] at ez12
    obtain rfl : z12 = 110 := ez12
    refine V_iload_n (q := 16) dX6_below_15 rfl rfl rfl ?_
    refine V_rdV (q := 19) (As := [(0, u)]) (tX2_knows D.1.1.1) dX6_below_16 rfl mlX6_31 mw_X2_knows im_X2_knows sl_X2_knows md_X2_knows rfl (by decide) (by decide) (congrArg Prod.fst (show _ = (3, 0) by rw [D.1.1.1])) rfl rfl (by decide) (by decide) (Nat.le_of_ble_eq_true rfl) (Nat.le_of_ble_eq_true rfl) (Nat.le_of_ble_eq_true rfl) (fun z16 rz16 hz16 => ?_)
    obtain ⟨bz16, hz16⟩ := hz16
    rw [D.2.1] at hz16
    refine V_if_ne (q := 22) (tgt := 24) dX6_below_19 (by decide) rfl (fun c19 => ?_) (fun c19 => ?_)
    · refine V_aload_n (q := 25) dX6_below_24 rfl rfl rfl ?_
      refine V_getA (q := 28) 0 dX6_below_25 rfl flX6_10 (by decide) (congrArg Prod.fst (show _ = (7, 0) by rw [B.1.1.1])) rfl rfl (fun z25 ez25 rz25 => ?_)
      rw [B.1.2.1] at ez25
      obtain rfl : z25 = 110 := ez25
      refine V_iload_n (q := 29) dX6_below_28 rfl rfl rfl ?_
      refine V_iload_n (q := 30) dX6_below_29 rfl rfl rfl ?_
      refine V_rdV (q := 33) (As := [(0, t), (0, u)]) (tX2_leadsTo w D (by omega) (by omega)) dX6_below_30 rfl mlX6_65 mw_X2_leadsTo im_X2_leadsTo sl_X2_leadsTo md_X2_leadsTo rfl (by decide) (by decide) (congrArg Prod.fst (show _ = (3, 0) by rw [D.1.1.1])) rfl rfl (by decide) (by decide) (Nat.le_of_ble_eq_true rfl) (Nat.le_of_ble_eq_true rfl) (Nat.le_of_ble_eq_true rfl) (fun z30 rz30 hz30 => ?_)
      obtain ⟨bz30, hz30⟩ := hz30
      refine V_if_eq (q := 36) (tgt := 40) dX6_below_33 (by decide) rfl (fun c33 => ?_) (fun c33 => ?_)
      · refine V_iconst (q := 41) dX6_below_40 rfl (by decide) ?_
        exact V_iret dX6_below_41 (Nat.le_of_ble_eq_true rfl) (Nat.le_of_ble_eq_true rfl) ⟨_, rfl, rfl, SF.rf, D, by { unfold belowR; rw [if_neg (by omega)]; rw [if_neg (fun q => absurd (hz30.mpr ((told_rs w).mpr q)) (by omega))] }⟩
      · refine V_iconst (q := 37) dX6_below_36 rfl (by decide) ?_
        refine V_goto (tgt := 41) dX6_below_37 (by decide) ?_
        exact V_iret dX6_below_41 (Nat.le_of_ble_eq_true rfl) (Nat.le_of_ble_eq_true rfl) ⟨_, rfl, rfl, SF.rf, D, by { unfold belowR; rw [if_neg (by omega)]; rw [if_pos ((told_rs w).mp (hz30.mp (by omega)))] }⟩
    · refine V_iconst (q := 23) dX6_below_22 rfl (by decide) ?_
      first | (exfalso; omega) | exact V_iret dX6_below_23 (Nat.le_of_ble_eq_true rfl) (Nat.le_of_ble_eq_true rfl) ⟨_, rfl, rfl, SF.rf, D, by { unfold belowR; (repeat' (first | rw [if_pos (by omega)] | rw [if_neg (by omega)])); try omega }⟩
theorem tX6_told {Γ : GC} {α : Sh} {μ : Mem} {t x : Int} {M : Mem} (w : WFD M) (D : DesR M α μ) (B : BenR M α μ)  : MT Γ yX6_told cX6_told 3 (some .int) 2 0 0 [(3, 100), (0, t), (0, x)] α μ (QI fun r α1 μ1 => α1 = α ∧ SF μ μ1 ∧ DesR M α μ1 ∧ r = toldR M t x) := by
  have hn := w.n
  have hw := w.w
  refine MT_of (k := 0) [(3, 100), (0, t), (0, x)] pn_X6_told rfl rfl (fun ad0 => ?_)
  refine V_iload_n (q := 1) dX6_told_0 rfl rfl rfl ?_
  refine V_if_lt (q := 4) (tgt := 10) dX6_told_1 (by decide) rfl (fun c1 => ?_) (fun c1 => ?_)
  · refine V_bipush (q := 12) dX6_told_10 rfl (by decide) ?_
    first | (exfalso; omega) | exact V_iret dX6_told_12 (Nat.le_of_ble_eq_true rfl) (Nat.le_of_ble_eq_true rfl) ⟨_, rfl, rfl, SF.rf, D, by { unfold toldR; (repeat' (first | rw [if_pos (by omega)] | rw [if_neg (by omega)])); try omega }⟩
  · refine V_iload_n (q := 5) dX6_told_4 rfl rfl rfl ?_
    refine V_bipush (q := 7) dX6_told_5 rfl (by decide) ?_
    refine V_icmp_le (q := 10) (tgt := 13) dX6_told_7 (by decide) rfl (fun c7 => ?_) (fun c7 => ?_)
    · refine V_iload_n (q := 14) dX6_told_13 rfl rfl rfl ?_
      refine V_if_ne (q := 17) (tgt := 25) dX6_told_14 (by decide) rfl (fun c14 => ?_) (fun c14 => ?_)
      · refine V_iload_n (q := 26) dX6_told_25 rfl rfl rfl ?_
        refine V_iconst (q := 27) dX6_told_26 rfl (by decide) ?_
        refine V_icmp_ne (q := 30) (tgt := 35) dX6_told_27 (by decide) rfl (fun c27 => ?_) (fun c27 => ?_)
        · refine V_aload_n (q := 36) dX6_told_35 rfl rfl rfl ?_
          refine V_getA (q := 39) 0 dX6_told_36 rfl flX6_10 (by decide) (congrArg Prod.fst (show _ = (7, 0) by rw [B.1.1.1])) rfl rfl (fun z36 ez36 rz36 => ?_)
          rw [B.1.2.1] at ez36
          obtain rfl : z36 = 110 := ez36
          refine V_iload_n (q := 40) dX6_told_39 rfl rfl rfl ?_
          refine V_rdV (q := 43) (As := [(0, t)]) (tX2_knows D.1.1.1) dX6_told_40 rfl mlX6_31 mw_X2_knows im_X2_knows sl_X2_knows md_X2_knows rfl (by decide) (by decide) (congrArg Prod.fst (show _ = (3, 0) by rw [D.1.1.1])) rfl rfl (by decide) (by decide) (Nat.le_of_ble_eq_true rfl) (Nat.le_of_ble_eq_true rfl) (Nat.le_of_ble_eq_true rfl) (fun z40 rz40 hz40 => ?_)
          obtain ⟨bz40, hz40⟩ := hz40
          rw [D.2.1] at hz40
          refine V_if_ne (q := 46) (tgt := 48) dX6_told_43 (by decide) rfl (fun c43 => ?_) (fun c43 => ?_)
          · refine V_iload_n (q := 49) dX6_told_48 rfl rfl rfl ?_
            refine V_bipush (q := 51) dX6_told_49 rfl (by decide) ?_
            refine V_icmp_ne (q := 54) (tgt := 65) dX6_told_51 (by decide) rfl (fun c51 => ?_) (fun c51 => ?_)
            · have ht : 0 ≤ t ∧ t < M 0 0 := by omega
              obtain ⟨T, hT⟩ : ∃ T : Int, T = tk t := ⟨_, rfl⟩
              have hT0 : T = tk t := hT
              obtain ⟨kT, yT⟩ := D.2.2.1 t ht.1 ht.2
              rw [← hT] at kT
              unfold TypR at yT
              rw [← hT] at yT
              replace hT : T = 1000 * (t + 1) := hT
              refine V_aload_n (q := 66) dX6_told_65 rfl rfl rfl ?_
              refine V_getA (q := 69) 0 dX6_told_66 rfl flX6_10 (by decide) (congrArg Prod.fst (show _ = (7, 0) by rw [B.1.1.1])) rfl rfl (fun z66 ez66 rz66 => ?_)
              rw [B.1.2.1] at ez66
              obtain rfl : z66 = 110 := ez66
              refine V_getA (q := 72) 0 dX6_told_69 rfl flX6_35 (by decide) (congrArg Prod.fst (show _ = (3, 0) by rw [D.1.1.1])) rfl rfl (fun z69 ez69 rz69 => ?_)
              rw [D.1.2.1] at ez69
              obtain rfl : z69 = 111 := ez69
              refine V_iload_n (q := 73) dX6_told_72 rfl rfl rfl ?_
              refine V_aald (q := 74) (n := 40) (ta := 23) (ci := 4) dX6_told_73 rfl (by decide) (by rw [D.1.1.2.1]) rfl (by decide) (by omega) (fun z73 ez73 rz73 => ?_)
              rw [kT] at ez73
              obtain rfl : T = z73 := ez73.symm
              refine V_iload_n (q := 75) dX6_told_74 rfl rfl rfl ?_
              refine V_rdV (q := 78) (As := [(0, x)]) (tX4_tell w D ht hT0) dX6_told_75 rfl mlX6_135 mw_X4_tell im_X4_tell sl_X4_tell md_X4_tell rfl (by decide) (by omega) (congrArg Prod.fst (show _ = (5, 0) by rw [yT.1.1.1])) rfl rfl (by decide) (by decide) (Nat.le_of_ble_eq_true rfl) (Nat.le_of_ble_eq_true rfl) (Nat.le_of_ble_eq_true rfl) (fun z75 rz75 hz75 => ?_)
              exact V_iret dX6_told_78 (Nat.le_of_ble_eq_true rfl) (Nat.le_of_ble_eq_true rfl) ⟨_, rfl, rfl, SF.rf, D, by { rw [hz75, told_tell (by omega) (by omega)] }⟩
            · refine V_aload_n (q := 55) dX6_told_54 rfl rfl rfl ?_
              refine V_getA (q := 58) 0 dX6_told_55 rfl flX6_10 (by decide) (congrArg Prod.fst (show _ = (7, 0) by rw [B.1.1.1])) rfl rfl (fun z55 ez55 rz55 => ?_)
              rw [B.1.2.1] at ez55
              obtain rfl : z55 = 110 := ez55
              refine V_iload_n (q := 59) dX6_told_58 rfl rfl rfl ?_
              refine V_rdV (q := 62) (As := [(0, t)]) (tX2_countLeading w D (by omega)) dX6_told_59 rfl mlX6_131 mw_X2_countLeading im_X2_countLeading sl_X2_countLeading md_X2_countLeading rfl (by decide) (by decide) (congrArg Prod.fst (show _ = (3, 0) by rw [D.1.1.1])) rfl rfl (by decide) (by decide) (Nat.le_of_ble_eq_true rfl) (Nat.le_of_ble_eq_true rfl) (Nat.le_of_ble_eq_true rfl) (fun z59 rz59 hz59 => ?_)
              rw [told_9 w] at hz59
              refine V_goto (tgt := 78) dX6_told_62 (by decide) ?_
              first | (exfalso; omega) | exact V_iret dX6_told_78 (Nat.le_of_ble_eq_true rfl) (Nat.le_of_ble_eq_true rfl) ⟨_, rfl, rfl, SF.rf, D, by { unfold toldR; (repeat' (first | rw [if_pos (by omega)] | rw [if_neg (by omega)])); try omega }⟩
          · refine V_iconst (q := 47) dX6_told_46 rfl (by decide) ?_
            first | (exfalso; omega) | exact V_iret dX6_told_47 (Nat.le_of_ble_eq_true rfl) (Nat.le_of_ble_eq_true rfl) ⟨_, rfl, rfl, SF.rf, D, by { unfold toldR; (repeat' (first | rw [if_pos (by omega)] | rw [if_neg (by omega)])); try omega }⟩
        · refine V_aload_n (q := 31) dX6_told_30 rfl rfl rfl ?_
          refine V_getI (q := 34) 2 dX6_told_31 rfl flX6_22 (by decide) (congrArg Prod.fst (show _ = (7, 0) by rw [B.1.1.1])) rfl rfl (fun z31 ez31 rz31 => ?_)
          rw [B.2] at ez31
          first | (exfalso; omega) | exact V_iret dX6_told_34 (Nat.le_of_ble_eq_true rfl) (Nat.le_of_ble_eq_true rfl) ⟨_, rfl, rfl, SF.rf, D, by { unfold toldR; (repeat' (first | rw [if_pos (by omega)] | rw [if_neg (by omega)])); try omega }⟩
      · refine V_aload_n (q := 18) dX6_told_17 rfl rfl rfl ?_
        refine V_getA (q := 21) 0 dX6_told_18 rfl flX6_10 (by decide) (congrArg Prod.fst (show _ = (7, 0) by rw [B.1.1.1])) rfl rfl (fun z18 ez18 rz18 => ?_)
        rw [B.1.2.1] at ez18
        obtain rfl : z18 = 110 := ez18
        refine V_getI (q := 24) 1 dX6_told_21 rfl flX6_49 (by decide) (congrArg Prod.fst (show _ = (3, 0) by rw [D.1.1.1])) rfl rfl (fun z21 ez21 rz21 => ?_)
        rw [D.2.1] at ez21
        first | (exfalso; omega) | exact V_iret dX6_told_24 (Nat.le_of_ble_eq_true rfl) (Nat.le_of_ble_eq_true rfl) ⟨_, rfl, rfl, SF.rf, D, by { unfold toldR; (repeat' (first | rw [if_pos (by omega)] | rw [if_neg (by omega)])); try omega }⟩
    · refine V_bipush (q := 12) dX6_told_10 rfl (by decide) ?_
      first | (exfalso; omega) | exact V_iret dX6_told_12 (Nat.le_of_ble_eq_true rfl) (Nat.le_of_ble_eq_true rfl) ⟨_, rfl, rfl, SF.rf, D, by { unfold toldR; (repeat' (first | rw [if_pos (by omega)] | rw [if_neg (by omega)])); try omega }⟩
theorem tX6_found {Γ : GC} {α : Sh} {μ : Mem} {t nm me : Int} {M : Mem} (w : WFD M) (D : DesR M α μ) (B : BenR M α μ)  : MT Γ yX6_found cX6_found 4 (some .int) 42 0 0 [(3, 100), (0, t), (0, nm), (0, me)] α μ (QI fun r α1 μ1 => α1 = α ∧ SF μ μ1 ∧ DesR M α μ1 ∧ r = foundR M t nm me) := by
  have hn := w.n
  have hw := w.w
  refine MT_of (k := 0) [(3, 100), (0, t), (0, nm), (0, me)] pn_X6_found rfl rfl (fun ad0 => ?_)
  refine V_aload_n (q := 1) dX6_found_0 rfl rfl rfl ?_
  refine V_getA (q := 4) 0 dX6_found_1 rfl flX6_10 (by decide) (congrArg Prod.fst (show _ = (7, 0) by rw [B.1.1.1])) rfl rfl (fun z1 ez1 rz1 => ?_)
  rw [B.1.2.1] at ez1
  obtain rfl : z1 = 110 := ez1
  refine V_iload_n (q := 5) dX6_found_4 rfl rfl rfl ?_
  refine V_rdV (q := 8) (As := [(0, t)]) (tX2_knows D.1.1.1) dX6_found_5 rfl mlX6_31 mw_X2_knows im_X2_knows sl_X2_knows md_X2_knows rfl (by decide) (by decide) (congrArg Prod.fst (show _ = (3, 0) by rw [D.1.1.1])) rfl rfl (by decide) (by decide) (Nat.le_of_ble_eq_true rfl) (Nat.le_of_ble_eq_true rfl) (Nat.le_of_ble_eq_true rfl) (fun z5 rz5 hz5 => ?_)
  obtain ⟨bz5, hz5⟩ := hz5
  rw [D.2.1] at hz5
  refine V_if_ne (q := 11) (tgt := 13) dX6_found_8 (by decide) rfl (fun c8 => ?_) (fun c8 => ?_)
  · refine V_iload_n (q := 14) dX6_found_13 rfl rfl rfl ?_
    refine V_rdS (q := 17) (As := [(0, nm)]) (tX6_isName ) dX6_found_14 rfl mlX6_102 mw_X6_isName sm_X6_isName md_X6_isName rfl rfl (by decide) (by decide) (Nat.le_of_ble_eq_true rfl) (Nat.le_of_ble_eq_true rfl) (Nat.le_of_ble_eq_true rfl) (fun z14 rz14 hz14 => ?_)
    obtain ⟨bz14, hz14⟩ := hz14
    refine V_if_ne (q := 20) (tgt := 23) dX6_found_17 (by decide) rfl (fun c17 => ?_) (fun c17 => ?_)
    · refine V_iload_n (q := 24) dX6_found_23 rfl rfl rfl ?_
      refine V_if_eq (q := 27) (tgt := 39) dX6_found_24 (by decide) rfl (fun c24 => ?_) (fun c24 => ?_)
      · refine V_aload_n (q := 40) dX6_found_39 rfl rfl rfl ?_
        refine V_getA (q := 43) 0 dX6_found_40 rfl flX6_10 (by decide) (congrArg Prod.fst (show _ = (7, 0) by rw [B.1.1.1])) rfl rfl (fun z40 ez40 rz40 => ?_)
        rw [B.1.2.1] at ez40
        obtain rfl : z40 = 110 := ez40
        refine V_iload_n (q := 44) dX6_found_43 rfl rfl rfl ?_
        refine V_iload_n (q := 45) dX6_found_44 rfl rfl rfl ?_
        refine V_chVi (q := 48) (As := [(0, t), (0, nm)]) (tX2_fieldOwner w D (by omega) (by omega)) dX6_found_45 rfl mlX6_141 mw_X2_fieldOwner im_X2_fieldOwner sl_X2_fieldOwner md_X2_fieldOwner rfl (by decide) (by decide) (congrArg Prod.fst (show _ = (3, 0) by rw [D.1.1.1])) rfl rfl (by decide) (by decide) (Nat.le_of_ble_eq_true rfl) (Nat.le_of_ble_eq_true rfl) (Nat.le_of_ble_eq_true rfl) (fun z45 rz45 A45 M45 xM45 hM45 => ?_)
        obtain ⟨hA, fM45, DM45, hz45⟩ := hM45
        replace hA := hA.symm
        subst hA
        exact V_iret dX6_found_48 (Nat.le_of_ble_eq_true rfl) (Nat.le_of_ble_eq_true rfl) ⟨_, rfl, rfl, fM45.sf, DM45, by { rw [hz45, foundR_f (by omega) (by omega) (by omega)] }⟩
      · refine V_aload_n (q := 28) dX6_found_27 rfl rfl rfl ?_
        refine V_getA (q := 31) 0 dX6_found_28 rfl flX6_10 (by decide) (congrArg Prod.fst (show _ = (7, 0) by rw [B.1.1.1])) rfl rfl (fun z28 ez28 rz28 => ?_)
        rw [B.1.2.1] at ez28
        obtain rfl : z28 = 110 := ez28
        refine V_iload_n (q := 32) dX6_found_31 rfl rfl rfl ?_
        refine V_iload_n (q := 33) dX6_found_32 rfl rfl rfl ?_
        refine V_rdV (q := 36) (As := [(0, t), (0, nm)]) (tX2_methodOwner w D (by omega) (by omega)) dX6_found_33 rfl mlX6_138 mw_X2_methodOwner im_X2_methodOwner sl_X2_methodOwner md_X2_methodOwner rfl (by decide) (by decide) (congrArg Prod.fst (show _ = (3, 0) by rw [D.1.1.1])) rfl rfl (by decide) (by decide) (Nat.le_of_ble_eq_true rfl) (Nat.le_of_ble_eq_true rfl) (Nat.le_of_ble_eq_true rfl) (fun z33 rz33 hz33 => ?_)
        refine V_goto (tgt := 48) dX6_found_36 (by decide) ?_
        exact V_iret dX6_found_48 (Nat.le_of_ble_eq_true rfl) (Nat.le_of_ble_eq_true rfl) ⟨_, rfl, rfl, SF.rf, D, by { rw [hz33, foundR_m (by omega) (by omega) (by omega)] }⟩
    · refine V_bipush (q := 22) dX6_found_20 rfl (by decide) ?_
      first | (exfalso; omega) | exact V_iret dX6_found_22 (Nat.le_of_ble_eq_true rfl) (Nat.le_of_ble_eq_true rfl) ⟨_, rfl, rfl, SF.rf, D, by { unfold foundR; (repeat' (first | rw [if_pos (by omega)] | rw [if_neg (by omega)])); try omega }⟩
  · refine V_iconst (q := 12) dX6_found_11 rfl (by decide) ?_
    first | (exfalso; omega) | exact V_iret dX6_found_12 (Nat.le_of_ble_eq_true rfl) (Nat.le_of_ble_eq_true rfl) ⟨_, rfl, rfl, SF.rf, D, by { unfold foundR; (repeat' (first | rw [if_pos (by omega)] | rw [if_neg (by omega)])); try omega }⟩
theorem tX6_asks {Γ : GC} {α : Sh} {μ : Mem} {t i : Int} {M : Mem} (w : WFD M) (D : DesR M α μ) (B : BenR M α μ)  : MT Γ yX6_asks cX6_asks 3 (some .int) 45 0 0 [(3, 100), (0, t), (0, i)] α μ (QI fun r α1 μ1 => α1 = α ∧ SF μ μ1 ∧ DesR M α μ1 ∧ r = asksS M t i) := by
  have hn := w.n
  have hw := w.w
  refine MT_of (k := 0) [(3, 100), (0, t), (0, i)] pn_X6_asks rfl rfl (fun ad0 => ?_)
  refine V_aload_n (q := 1) dX6_asks_0 rfl rfl rfl ?_
  refine V_getA (q := 4) 0 dX6_asks_1 rfl flX6_10 (by decide) (congrArg Prod.fst (show _ = (7, 0) by rw [B.1.1.1])) rfl rfl (fun z1 ez1 rz1 => ?_)
  rw [B.1.2.1] at ez1
  obtain rfl : z1 = 110 := ez1
  refine V_iload_n (q := 5) dX6_asks_4 rfl rfl rfl ?_
  refine V_rdV (q := 8) (As := [(0, t)]) (tX2_knows D.1.1.1) dX6_asks_5 rfl mlX6_31 mw_X2_knows im_X2_knows sl_X2_knows md_X2_knows rfl (by decide) (by decide) (congrArg Prod.fst (show _ = (3, 0) by rw [D.1.1.1])) rfl rfl (by decide) (by decide) (Nat.le_of_ble_eq_true rfl) (Nat.le_of_ble_eq_true rfl) (Nat.le_of_ble_eq_true rfl) (fun z5 rz5 hz5 => ?_)
  obtain ⟨bz5, hz5⟩ := hz5
  rw [D.2.1] at hz5
  refine V_if_ne (q := 11) (tgt := 13) dX6_asks_8 (by decide) rfl (fun c8 => ?_) (fun c8 => ?_)
  · refine V_aload_n (q := 14) dX6_asks_13 rfl rfl rfl ?_
    refine V_getA (q := 17) 0 dX6_asks_14 rfl flX6_10 (by decide) (congrArg Prod.fst (show _ = (7, 0) by rw [B.1.1.1])) rfl rfl (fun z14 ez14 rz14 => ?_)
    rw [B.1.2.1] at ez14
    obtain rfl : z14 = 110 := ez14
    refine V_iload_n (q := 18) dX6_asks_17 rfl rfl rfl ?_
    refine V_chV (q := 21) (As := [(0, t)]) (tX2_listAsked w D (by omega)) dX6_asks_18 rfl mlX6_144 mw_X2_listAsked im_X2_listAsked sl_X2_listAsked md_X2_listAsked rfl (by decide) (by decide) (congrArg Prod.fst (show _ = (3, 0) by rw [D.1.1.1])) rfl rfl (by decide) (by decide) (Nat.le_of_ble_eq_true rfl) (Nat.le_of_ble_eq_true rfl) (Nat.le_of_ble_eq_true rfl) (fun A18 M18 xM18 hM18 => ?_)
    obtain ⟨hAA, fM18, DM18, aM18, gM18⟩ := hM18
    replace hAA := hAA.symm
    subst hAA
    have hll := aM18.2.2.2
    refine V_iload_n (q := 22) dX6_asks_21 rfl rfl rfl ?_
    refine V_if_lt (q := 25) (tgt := 48) dX6_asks_22 (by decide) rfl (fun c22 => ?_) (fun c22 => ?_)
    · refine V_bipush (q := 50) dX6_asks_48 rfl (by decide) ?_
      exact V_iret dX6_asks_50 (Nat.le_of_ble_eq_true rfl) (Nat.le_of_ble_eq_true rfl) ⟨_, rfl, rfl, fM18, DM18, by { unfold asksS; rw [if_pos (by omega)]; rw [if_neg (by omega)] }⟩
    · refine V_iload_n (q := 26) dX6_asks_25 rfl rfl rfl ?_
      refine V_aload_n (q := 27) dX6_asks_26 rfl rfl rfl ?_
      refine V_getA (q := 30) 0 dX6_asks_27 rfl flX6_10 (by decide) (congrArg Prod.fst (show _ = (7, 0) by rw [B.1.1.1])) rfl rfl (fun z27 ez27 rz27 => ?_)
      rw [fM18 100 0 (by unfold scr; omega), B.1.2.1] at ez27
      obtain rfl : z27 = 110 := ez27
      refine V_getI (q := 33) 4 dX6_asks_30 rfl flX6_147 (by decide) (congrArg Prod.fst (show _ = (3, 0) by rw [D.1.1.1])) rfl rfl (fun z30 ez30 rz30 => ?_)
      rw [aM18.2.1] at ez30
      refine V_icmp_ge (q := 36) (tgt := 48) dX6_asks_33 (by decide) rfl (fun c33 => ?_) (fun c33 => ?_)
      · refine V_bipush (q := 50) dX6_asks_48 rfl (by decide) ?_
        exact V_iret dX6_asks_50 (Nat.le_of_ble_eq_true rfl) (Nat.le_of_ble_eq_true rfl) ⟨_, rfl, rfl, fM18, DM18, by { unfold asksS; rw [if_pos (by omega)]; rw [if_neg (by omega)] }⟩
      · refine V_aload_n (q := 37) dX6_asks_36 rfl rfl rfl ?_
        refine V_getA (q := 40) 0 dX6_asks_37 rfl flX6_10 (by decide) (congrArg Prod.fst (show _ = (7, 0) by rw [B.1.1.1])) rfl rfl (fun z37 ez37 rz37 => ?_)
        rw [fM18 100 0 (by unfold scr; omega), B.1.2.1] at ez37
        obtain rfl : z37 = 110 := ez37
        refine V_getA (q := 43) 3 dX6_asks_40 rfl flX6_150 (by decide) (congrArg Prod.fst (show _ = (3, 0) by rw [D.1.1.1])) rfl rfl (fun z40 ez40 rz40 => ?_)
        rw [fM18 110 3 (by unfold scr; omega), D.1.2.2.2.1] at ez40
        obtain rfl : z40 = 113 := ez40
        refine V_iload_n (q := 44) dX6_asks_43 rfl rfl rfl ?_
        refine V_iald (q := 45) (n := 40) dX6_asks_44 rfl (by decide) (by rw [D.1.1.2.2.2.1]) (by omega) (fun z44 ez44 rz44 => ?_)
        rw [aM18.2.2.1 i (by omega) (by omega)] at ez44
        refine V_goto (tgt := 50) dX6_asks_45 (by decide) ?_
        exact V_iret dX6_asks_50 (Nat.le_of_ble_eq_true rfl) (Nat.le_of_ble_eq_true rfl) ⟨_, rfl, rfl, fM18, DM18, by { unfold asksS; rw [if_pos (by omega)]; rw [if_pos (by omega), ez44] }⟩
  · refine V_iconst (q := 12) dX6_asks_11 rfl (by decide) ?_
    first | (exfalso; omega) | exact V_iret dX6_asks_12 (Nat.le_of_ble_eq_true rfl) (Nat.le_of_ble_eq_true rfl) ⟨_, rfl, rfl, SF.rf, D, by { unfold asksS; (repeat' (first | rw [if_pos (by omega)] | rw [if_neg (by omega)])); try omega }⟩
theorem tX6_round {Γ : GC} {α : Sh} {μ : Mem} {i : Int} {M : Mem} (w : WFD M) (D : DesR M α μ) (B : BenR M α μ)  : MT Γ yX6_round cX6_round 2 (some .int) 46 0 0 [(3, 100), (0, i)] α μ (QI fun r α1 μ1 => α1 = α ∧ SF μ μ1 ∧ DesR M α μ1 ∧ r = roundS M i) := by
  have hn := w.n
  have hw := w.w
  refine MT_of (k := 0) [(3, 100), (0, i)] pn_X6_round rfl rfl (fun ad0 => ?_)
  refine V_iload_n (q := 1) dX6_round_0 rfl rfl rfl ?_
  refine V_if_ge (q := 4) (tgt := 9) dX6_round_1 (by decide) rfl (fun c1 => ?_) (fun c1 => ?_)
  · refine V_aload_n (q := 10) dX6_round_9 rfl rfl rfl ?_
    refine V_getA (q := 13) 0 dX6_round_10 rfl flX6_10 (by decide) (congrArg Prod.fst (show _ = (7, 0) by rw [B.1.1.1])) rfl rfl (fun z10 ez10 rz10 => ?_)
    rw [B.1.2.1] at ez10
    obtain rfl : z10 = 110 := ez10
    refine V_iload_n (q := 14) dX6_round_13 rfl rfl rfl ?_
    refine V_chVi (q := 17) (As := [(0, i)]) (tX2_inRound w D (by omega)) dX6_round_14 rfl mlX6_153 mw_X2_inRound im_X2_inRound sl_X2_inRound md_X2_inRound rfl (by decide) (by decide) (congrArg Prod.fst (show _ = (3, 0) by rw [D.1.1.1])) rfl rfl (by decide) (by decide) (Nat.le_of_ble_eq_true rfl) (Nat.le_of_ble_eq_true rfl) (Nat.le_of_ble_eq_true rfl) (fun z14 rz14 A14 M14 xM14 hM14 => ?_)
    obtain ⟨hA, fM14, DM14, hz14⟩ := hM14
    replace hA := hA.symm
    subst hA
    exact V_iret dX6_round_17 (Nat.le_of_ble_eq_true rfl) (Nat.le_of_ble_eq_true rfl) ⟨_, rfl, rfl, fM14, DM14, hz14⟩
  · refine V_bipush (q := 6) dX6_round_4 rfl (by decide) ?_
    refine V_goto (tgt := 17) dX6_round_6 (by decide) ?_
    exact V_iret dX6_round_17 (Nat.le_of_ble_eq_true rfl) (Nat.le_of_ble_eq_true rfl) ⟨_, rfl, rfl, SF.rf, D, (nthP_none (by omega) _).symm⟩
