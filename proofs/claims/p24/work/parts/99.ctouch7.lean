/-! THE CLASS'S TOUCH: what the touch itself calls -/
theorem tX5_takeStateOf {Γ : GC} {α : Sh} {μ : Mem} {W U : Int} (hW0 : 0 ≤ W) (hU0 : 0 ≤ U) (hne : W + 6 ≤ U ∨ U + 6 ≤ W) (sW : WoS W α μ) (sU : WoS U α μ) : MT Γ yX5_takeStateOf cX5_takeStateOf 2 none 1 0 0 [(3, W), (3, U)] α μ (QN fun α1 μ1 => α1 = α ∧ (∀ i : Int, 0 ≤ i → i < 40 → μ1 (W + 1) i = μ (U + 1) i) ∧ (∀ i : Int, 0 ≤ i → i < 400 → μ1 (W + 2) i = μ (U + 2) i) ∧ μ1 W 3 = μ U 3 ∧ μ1 W 5 = μ U 5 ∧ ∀ u i : Int, ¬ (u = W ∧ (i = 3 ∨ i = 5)) → u ≠ W + 1 → u ≠ W + 2 → μ1 u i = μ u i) := by
  refine MT_of (k := 0) [(3, W), (3, U)] pn_X5_takeStateOf rfl rfl (fun ad0 => ?_)
  refine V_aload_n (q := 1) dX5_takeStateOf_0 rfl rfl rfl ?_
  refine V_getA (q := 4) 0 dX5_takeStateOf_1 rfl flX5_9 (by omega) (congrArg Prod.fst (show _ = (6, 0) by rw [sU.1.1])) rfl rfl (fun z1 ez1 rz1 => ?_)
  rw [sU.2.1] at ez1
  obtain rfl : z1 = (U + 1) := ez1
  refine V_iconst (q := 5) dX5_takeStateOf_4 rfl (by decide) ?_
  refine V_aload_n (q := 6) dX5_takeStateOf_5 rfl rfl rfl ?_
  refine V_getA (q := 9) 0 dX5_takeStateOf_6 rfl flX5_9 (by omega) (congrArg Prod.fst (show _ = (6, 0) by rw [sW.1.1])) rfl rfl (fun z6 ez6 rz6 => ?_)
  rw [sW.2.1] at ez6
  obtain rfl : z6 = (W + 1) := ez6
  refine V_iconst (q := 10) dX5_takeStateOf_9 rfl (by decide) ?_
  refine V_bipush (q := 12) dX5_takeStateOf_10 rfl (by decide) ?_
  refine V_acopy (q := 15) dX5_takeStateOf_12 rfl (by omega) (by omega) (by rw [sW.1.2.1]) (by rw [sU.1.2.1]) (by decide) (by decide) (by decide) (fun M12 eM12 => ?_)
  refine V_aload_n (q := 16) dX5_takeStateOf_15 rfl rfl rfl ?_
  refine V_getA (q := 19) 1 dX5_takeStateOf_16 rfl flX5_15 (by omega) (congrArg Prod.fst (show _ = (6, 0) by rw [sU.1.1])) rfl rfl (fun z16 ez16 rz16 => ?_)
  rw [(show M12 U 1 = μ U 1 by rw [eM12]; exact congrFun (mn_t _ _ _ (by omega)) _), sU.2.2.1] at ez16
  obtain rfl : z16 = (U + 2) := ez16
  refine V_iconst (q := 20) dX5_takeStateOf_19 rfl (by decide) ?_
  refine V_aload_n (q := 21) dX5_takeStateOf_20 rfl rfl rfl ?_
  refine V_getA (q := 24) 1 dX5_takeStateOf_21 rfl flX5_15 (by omega) (congrArg Prod.fst (show _ = (6, 0) by rw [sW.1.1])) rfl rfl (fun z21 ez21 rz21 => ?_)
  rw [(show M12 W 1 = μ W 1 by rw [eM12]; exact congrFun (mn_t _ _ _ (by omega)) _), sW.2.2.1] at ez21
  obtain rfl : z21 = (W + 2) := ez21
  refine V_iconst (q := 25) dX5_takeStateOf_24 rfl (by decide) ?_
  refine V_sipush (q := 28) dX5_takeStateOf_25 rfl (by decide) ?_
  refine V_acopy (q := 31) dX5_takeStateOf_28 rfl (by omega) (by omega) (by rw [sW.1.2.2.1]) (by rw [sU.1.2.2.1]) (by decide) (by decide) (by decide) (fun M28 eM28 => ?_)
  refine V_aload_n (q := 32) dX5_takeStateOf_31 rfl rfl rfl ?_
  refine V_aload_n (q := 33) dX5_takeStateOf_32 rfl rfl rfl ?_
  refine V_getI (q := 36) 3 dX5_takeStateOf_33 rfl flX5_40 (by omega) (congrArg Prod.fst (show _ = (6, 0) by rw [sU.1.1])) rfl rfl (fun z33 ez33 rz33 => ?_)
  rw [(show M28 U 3 = M12 U 3 by rw [eM28]; exact congrFun (mn_t _ _ _ (by omega)) _), (show M12 U 3 = μ U 3 by rw [eM12]; exact congrFun (mn_t _ _ _ (by omega)) _)] at ez33
  refine V_putI (q := 39) 3 dX5_takeStateOf_36 rfl flX5_40 (Or.inl rfl) (by omega) (congrArg Prod.fst (show _ = (6, 0) by rw [sW.1.1])) rfl rfl (fun M36 eM36 => ?_)
  refine V_aload_n (q := 40) dX5_takeStateOf_39 rfl rfl rfl ?_
  refine V_aload_n (q := 41) dX5_takeStateOf_40 rfl rfl rfl ?_
  refine V_getI (q := 44) 5 dX5_takeStateOf_41 rfl flX5_43 (by omega) (congrArg Prod.fst (show _ = (6, 0) by rw [sU.1.1])) rfl rfl (fun z41 ez41 rz41 => ?_)
  rw [eM36, mu_ne (by omega), (show M28 U 5 = M12 U 5 by rw [eM28]; exact congrFun (mn_t _ _ _ (by omega)) _), (show M12 U 5 = μ U 5 by rw [eM12]; exact congrFun (mn_t _ _ _ (by omega)) _)] at ez41
  refine V_putI (q := 47) 5 dX5_takeStateOf_44 rfl flX5_43 (Or.inl rfl) (by omega) (congrArg Prod.fst (show _ = (6, 0) by rw [sW.1.1])) rfl rfl (fun M44 eM44 => ?_)
  have fr : ∀ u i : Int, ¬ (u = W ∧ (i = 3 ∨ i = 5)) → u ≠ W + 1 → u ≠ W + 2 → M44 u i = μ u i := fun u i a b c => by { rw [eM44, mu_ne (by omega), eM36, mu_ne (by omega), eM28, cpR, mn_t _ _ _ c, eM12, cpR, mn_t _ _ _ b] }
  refine V_vret dX5_takeStateOf_47 (Nat.le_of_ble_eq_true rfl) (Nat.le_of_ble_eq_true rfl) ⟨rfl, rfl, fun i a b => ?_, fun i a b => ?_, ?_, ?_, fr⟩
  · { rw [eM44, mu_ne (by omega), eM36, mu_ne (by omega), eM28, cpR, mn_t _ _ _ (by omega), eM12, cpR, mn_s, if_pos ⟨a, by omega⟩] }
  · { rw [eM44, mu_ne (by omega), eM36, mu_ne (by omega), eM28, cpR, mn_s, if_pos ⟨a, by omega⟩, eM12, cpR, mn_t _ _ _ (by omega)] }
  · { rw [eM44, mu_ne (by omega), eM36, mu_s]; exact ez33 }
  · { rw [eM44, mu_s]; exact ez41 }
theorem tX6_refusalOfTouch {Γ : GC} {α : Sh} {μ : Mem} {x k t n : Int} {M : Mem} (w : WFD M) (D : DesR M α μ) (B : BenR M α μ)  : MT Γ yX6_refusalOfTouch cX6_refusalOfTouch 5 (some .int) 1 0 0 [(3, 100), (0, x), (0, k), (0, t), (0, n)] α μ (QI fun r α1 μ1 => α1 = α ∧ μ1 = μ ∧ r = refR M x k t n) := by
  refine MT_of (k := 0) [(3, 100), (0, x), (0, k), (0, t), (0, n)] pn_X6_refusalOfTouch rfl rfl (fun ad0 => ?_)
  refine V_aload_n (q := 1) dX6_refusalOfTouch_0 rfl rfl rfl ?_
  refine V_iload_n (q := 2) dX6_refusalOfTouch_1 rfl rfl rfl ?_
  refine V_rdV (q := 5) (As := [(0, x)]) (tX6_isWorld B.1.1.1) dX6_refusalOfTouch_2 rfl mlX6_182 mw_X6_isWorld im_X6_isWorld sl_X6_isWorld md_X6_isWorld rfl (by decide) (by decide) (congrArg Prod.fst (show _ = (7, 0) by rw [B.1.1.1])) rfl rfl (by decide) (by decide) (Nat.le_of_ble_eq_true rfl) (Nat.le_of_ble_eq_true rfl) (Nat.le_of_ble_eq_true rfl) (fun z2 rz2 hz2 => ?_)
  obtain ⟨bz2, hz2⟩ := hz2
  rw [B.2] at hz2
  refine V_if_eq (q := 8) (tgt := 19) dX6_refusalOfTouch_5 (by decide) rfl (fun c5 => ?_) (fun c5 => ?_)
  · refine V_iconst (q := 20) dX6_refusalOfTouch_19 rfl (by decide) ?_
    first | (exfalso; omega) | exact V_iret dX6_refusalOfTouch_20 (Nat.le_of_ble_eq_true rfl) (Nat.le_of_ble_eq_true rfl) ⟨_, rfl, rfl, rfl, by { unfold refR isW isTy; first | rw [if_pos (by omega)] | rw [if_neg (by omega), if_pos (by omega)] | rw [if_neg (by omega), if_neg (by omega)] }⟩
  · refine V_aload_n (q := 9) dX6_refusalOfTouch_8 rfl rfl rfl ?_
    refine V_getA (q := 12) 0 dX6_refusalOfTouch_9 rfl flX6_10 (by decide) (congrArg Prod.fst (show _ = (7, 0) by rw [B.1.1.1])) rfl rfl (fun z9 ez9 rz9 => ?_)
    rw [B.1.2.1] at ez9
    obtain rfl : z9 = 110 := ez9
    refine V_iload_n (q := 13) dX6_refusalOfTouch_12 rfl rfl rfl ?_
    refine V_rdV (q := 16) (As := [(0, t)]) (tX2_knows D.1.1.1) dX6_refusalOfTouch_13 rfl mlX6_31 mw_X2_knows im_X2_knows sl_X2_knows md_X2_knows rfl (by decide) (by decide) (congrArg Prod.fst (show _ = (3, 0) by rw [D.1.1.1])) rfl rfl (by decide) (by decide) (Nat.le_of_ble_eq_true rfl) (Nat.le_of_ble_eq_true rfl) (Nat.le_of_ble_eq_true rfl) (fun z13 rz13 hz13 => ?_)
    obtain ⟨bz13, hz13⟩ := hz13
    rw [D.2.1] at hz13
    refine V_if_ne (q := 19) (tgt := 21) dX6_refusalOfTouch_16 (by decide) rfl (fun c16 => ?_) (fun c16 => ?_)
    · refine V_iload_n (q := 22) dX6_refusalOfTouch_21 rfl rfl rfl ?_
      refine V_iconst (q := 23) dX6_refusalOfTouch_22 rfl (by decide) ?_
      refine V_icmp_lt (q := 26) (tgt := 47) dX6_refusalOfTouch_23 (by decide) rfl (fun c23 => ?_) (fun c23 => ?_)
      · refine V_bipush (q := 49) dX6_refusalOfTouch_47 rfl (by decide) ?_
        first | (exfalso; omega) | exact V_iret dX6_refusalOfTouch_49 (Nat.le_of_ble_eq_true rfl) (Nat.le_of_ble_eq_true rfl) ⟨_, rfl, rfl, rfl, by { unfold refR isW isTy; first | rw [if_pos (by omega)] | rw [if_neg (by omega), if_pos (by omega)] | rw [if_neg (by omega), if_neg (by omega)] }⟩
      · refine V_iload_n (q := 27) dX6_refusalOfTouch_26 rfl rfl rfl ?_
        refine V_bipush (q := 29) dX6_refusalOfTouch_27 rfl (by decide) ?_
        refine V_icmp_gt (q := 32) (tgt := 47) dX6_refusalOfTouch_29 (by decide) rfl (fun c29 => ?_) (fun c29 => ?_)
        · refine V_bipush (q := 49) dX6_refusalOfTouch_47 rfl (by decide) ?_
          first | (exfalso; omega) | exact V_iret dX6_refusalOfTouch_49 (Nat.le_of_ble_eq_true rfl) (Nat.le_of_ble_eq_true rfl) ⟨_, rfl, rfl, rfl, by { unfold refR isW isTy; first | rw [if_pos (by omega)] | rw [if_neg (by omega), if_pos (by omega)] | rw [if_neg (by omega), if_neg (by omega)] }⟩
        · refine V_iload_n (q := 33) dX6_refusalOfTouch_32 rfl rfl rfl ?_
          refine V_rdS (q := 36) (As := [(0, k)]) (tX6_usesName ) dX6_refusalOfTouch_33 rfl mlX6_108 mw_X6_usesName sm_X6_usesName md_X6_usesName rfl rfl (by decide) (by decide) (Nat.le_of_ble_eq_true rfl) (Nat.le_of_ble_eq_true rfl) (Nat.le_of_ble_eq_true rfl) (fun z33 rz33 hz33 => ?_)
          obtain ⟨bz33, hz33⟩ := hz33
          refine V_if_eq (q := 39) (tgt := 50) dX6_refusalOfTouch_36 (by decide) rfl (fun c36 => ?_) (fun c36 => ?_)
          · refine V_iconst (q := 51) dX6_refusalOfTouch_50 rfl (by decide) ?_
            first | (exfalso; omega) | exact V_iret dX6_refusalOfTouch_51 (Nat.le_of_ble_eq_true rfl) (Nat.le_of_ble_eq_true rfl) ⟨_, rfl, rfl, rfl, by { unfold refR isW isTy; first | rw [if_pos (by omega)] | rw [if_neg (by omega), if_pos (by omega)] | rw [if_neg (by omega), if_neg (by omega)] }⟩
          · refine V_iload (q := 41) dX6_refusalOfTouch_39 rfl rfl ?_
            refine V_rdS (q := 44) (As := [(0, n)]) (tX6_isName ) dX6_refusalOfTouch_41 rfl mlX6_102 mw_X6_isName sm_X6_isName md_X6_isName rfl rfl (by decide) (by decide) (Nat.le_of_ble_eq_true rfl) (Nat.le_of_ble_eq_true rfl) (Nat.le_of_ble_eq_true rfl) (fun z41 rz41 hz41 => ?_)
            obtain ⟨bz41, hz41⟩ := hz41
            refine V_if_ne (q := 47) (tgt := 50) dX6_refusalOfTouch_44 (by decide) rfl (fun c44 => ?_) (fun c44 => ?_)
            · refine V_iconst (q := 51) dX6_refusalOfTouch_50 rfl (by decide) ?_
              first | (exfalso; omega) | exact V_iret dX6_refusalOfTouch_51 (Nat.le_of_ble_eq_true rfl) (Nat.le_of_ble_eq_true rfl) ⟨_, rfl, rfl, rfl, by { unfold refR isW isTy; first | rw [if_pos (by omega)] | rw [if_neg (by omega), if_pos (by omega)] | rw [if_neg (by omega), if_neg (by omega)] }⟩
            · refine V_bipush (q := 49) dX6_refusalOfTouch_47 rfl (by decide) ?_
              first | (exfalso; omega) | exact V_iret dX6_refusalOfTouch_49 (Nat.le_of_ble_eq_true rfl) (Nat.le_of_ble_eq_true rfl) ⟨_, rfl, rfl, rfl, by { unfold refR isW isTy; first | rw [if_pos (by omega)] | rw [if_neg (by omega), if_pos (by omega)] | rw [if_neg (by omega), if_neg (by omega)] }⟩
    · refine V_iconst (q := 20) dX6_refusalOfTouch_19 rfl (by decide) ?_
      first | (exfalso; omega) | exact V_iret dX6_refusalOfTouch_20 (Nat.le_of_ble_eq_true rfl) (Nat.le_of_ble_eq_true rfl) ⟨_, rfl, rfl, rfl, by { unfold refR isW isTy; first | rw [if_pos (by omega)] | rw [if_neg (by omega), if_pos (by omega)] | rw [if_neg (by omega), if_neg (by omega)] }⟩
def cmR (f : Int) : Int := if f = -6 then 0 else if f = 20 then 1 else if f = 21 then 2 else if f = 22 then 3 else if f = 23 then 5 else 4
theorem tX6_comesTo {Γ : GC} {α : Sh} {μ : Mem} {f : Int} : MT Γ yX6_comesTo cX6_comesTo 1 (some .int) 0 0 0 [(0, f)] α μ (QI fun r α1 μ1 => α1 = α ∧ μ1 = μ ∧ r = cmR f) := by
  refine MT_of (k := 0) [(0, f)] pn_X6_comesTo rfl rfl (fun ad0 => ?_)
  refine V_iload_n (q := 1) dX6_comesTo_0 rfl rfl rfl ?_
  rcases (show f = (-6) ∨ f = 20 ∨ f = 21 ∨ f = 22 ∨ f = 23 ∨ (f ≠ (-6) ∧ f ≠ 20 ∧ f ≠ 21 ∧ f ≠ 22 ∧ f ≠ 23) by omega) with c1 | c1 | c1 | c1 | c1 | c1
  · subst c1
    refine V_lsw (tgt := 52) (off := 51) dX6_comesTo_1 rfl rfl (by decide) ?_
    refine V_iconst (q := 53) dX6_comesTo_52 rfl (by decide) ?_
    exact V_iret dX6_comesTo_53 (Nat.le_of_ble_eq_true rfl) (Nat.le_of_ble_eq_true rfl) ⟨_, rfl, rfl, rfl, by { unfold cmR; first | rfl | (rw [if_neg (by omega), if_neg (by omega), if_neg (by omega), if_neg (by omega), if_neg (by omega)]) }⟩
  · subst c1
    refine V_lsw (tgt := 54) (off := 53) dX6_comesTo_1 rfl rfl (by decide) ?_
    refine V_iconst (q := 55) dX6_comesTo_54 rfl (by decide) ?_
    exact V_iret dX6_comesTo_55 (Nat.le_of_ble_eq_true rfl) (Nat.le_of_ble_eq_true rfl) ⟨_, rfl, rfl, rfl, by { unfold cmR; first | rfl | (rw [if_neg (by omega), if_neg (by omega), if_neg (by omega), if_neg (by omega), if_neg (by omega)]) }⟩
  · subst c1
    refine V_lsw (tgt := 56) (off := 55) dX6_comesTo_1 rfl rfl (by decide) ?_
    refine V_iconst (q := 57) dX6_comesTo_56 rfl (by decide) ?_
    exact V_iret dX6_comesTo_57 (Nat.le_of_ble_eq_true rfl) (Nat.le_of_ble_eq_true rfl) ⟨_, rfl, rfl, rfl, by { unfold cmR; first | rfl | (rw [if_neg (by omega), if_neg (by omega), if_neg (by omega), if_neg (by omega), if_neg (by omega)]) }⟩
  · subst c1
    refine V_lsw (tgt := 58) (off := 57) dX6_comesTo_1 rfl rfl (by decide) ?_
    refine V_iconst (q := 59) dX6_comesTo_58 rfl (by decide) ?_
    exact V_iret dX6_comesTo_59 (Nat.le_of_ble_eq_true rfl) (Nat.le_of_ble_eq_true rfl) ⟨_, rfl, rfl, rfl, by { unfold cmR; first | rfl | (rw [if_neg (by omega), if_neg (by omega), if_neg (by omega), if_neg (by omega), if_neg (by omega)]) }⟩
  · subst c1
    refine V_lsw (tgt := 60) (off := 59) dX6_comesTo_1 rfl rfl (by decide) ?_
    refine V_iconst (q := 61) dX6_comesTo_60 rfl (by decide) ?_
    exact V_iret dX6_comesTo_61 (Nat.le_of_ble_eq_true rfl) (Nat.le_of_ble_eq_true rfl) ⟨_, rfl, rfl, rfl, by { unfold cmR; first | rfl | (rw [if_neg (by omega), if_neg (by omega), if_neg (by omega), if_neg (by omega), if_neg (by omega)]) }⟩
  · refine V_lsw (tgt := 62) (off := 61) dX6_comesTo_1 rfl (by simp [Op.lookupswitch.offset, c1.1, Ne.symm c1.1, c1.2.1, Ne.symm c1.2.1, c1.2.2.1, Ne.symm c1.2.2.1, c1.2.2.2.1, Ne.symm c1.2.2.2.1, c1.2.2.2.2, Ne.symm c1.2.2.2.2]) (by decide) ?_
    refine V_iconst (q := 63) dX6_comesTo_62 rfl (by decide) ?_
    exact V_iret dX6_comesTo_63 (Nat.le_of_ble_eq_true rfl) (Nat.le_of_ble_eq_true rfl) ⟨_, rfl, rfl, rfl, by { unfold cmR; first | rfl | (rw [if_neg (by omega), if_neg (by omega), if_neg (by omega), if_neg (by omega), if_neg (by omega)]) }⟩
theorem tX5_keepAccount {Γ : GC} {α : Sh} {μ : Mem} {W f : Int} {M σ : Mem} (sW : WoS W α μ) (hW : 200 ≤ W ∧ W ≤ 320) (T : DgT σ W α μ) : MT Γ yX5_keepAccount cX5_keepAccount 4 none 1 0 0 [(3, W), (3, 150), (0, f)] α μ (QN fun α1 μ1 => α1 = α ∧ (μ1 W 6 = (if f = -6 ∨ f = 23 then -6 else f) ∧ μ1 W 7 = (if f = -6 ∨ f = 23 then -6 else σ 52 0)) ∧ (μ1 (W + 5) 0 = σ 45 0 ∧ μ1 (W + 5) 1 = σ 46 0 ∧ μ1 (W + 5) 2 = σ 47 0 ∧ μ1 (W + 5) 3 = σ 48 0) ∧ ∀ u i : Int, ¬ (u = W ∧ (i = 6 ∨ i = 7)) → u ≠ W + 5 → μ1 u i = μ u i) := by
  refine MT_of (k := 1) [(3, W), (3, 150), (0, f), (9, 0)] pn_X5_keepAccount rfl rfl (fun ad0 => ?_)
  refine V_iload_n (q := 1) dX5_keepAccount_0 rfl rfl rfl ?_
  refine V_bipush (q := 3) dX5_keepAccount_1 rfl (by decide) ?_
  refine V_icmp_eq (q := 6) (tgt := 16) dX5_keepAccount_3 (by decide) rfl (fun c3 => ?_) (fun c3 => ?_)
  · refine V_iconst (q := 17) dX5_keepAccount_16 rfl (by decide) ?_
    refine V_istore_n (q := 18) (lv1 := [(3, W), (3, 150), (0, f), (0, 0)]) dX5_keepAccount_17 rfl rfl (by decide) rfl rfl ?_
    refine V_aload_n (q := 19) dX5_keepAccount_18 rfl rfl rfl ?_
    refine V_iload_n (q := 20) dX5_keepAccount_19 rfl rfl rfl ?_
    refine V_if_eq (q := 23) (tgt := 27) dX5_keepAccount_20 (by decide) rfl (fun c20 => ?_) (fun c20 => ?_)
    · refine V_bipush (q := 29) dX5_keepAccount_27 rfl (by decide) ?_
      refine V_putI (q := 32) 6 dX5_keepAccount_29 rfl flX5_24 (Or.inl rfl) (by omega) (congrArg Prod.fst (show _ = (6, 0) by rw [sW.1.1])) rfl rfl (fun M29 eM29 => ?_)
      refine V_aload_n (q := 33) dX5_keepAccount_32 rfl rfl rfl ?_
      refine V_iload_n (q := 34) dX5_keepAccount_33 rfl rfl rfl ?_
      refine V_if_eq (q := 37) (tgt := 44) dX5_keepAccount_34 (by decide) rfl (fun c34 => ?_) (fun c34 => ?_)
      · refine V_bipush (q := 46) dX5_keepAccount_44 rfl (by decide) ?_
        refine V_putI (q := 49) 7 dX5_keepAccount_46 rfl flX5_28 (Or.inl rfl) (by omega) (congrArg Prod.fst (show _ = (6, 0) by rw [sW.1.1])) rfl rfl (fun M46 eM46 => ?_)
        refine V_aload_n (q := 50) dX5_keepAccount_49 rfl rfl rfl ?_
        refine V_getA (q := 53) 8 dX5_keepAccount_50 rfl flX5_31 (by omega) (congrArg Prod.fst (show _ = (6, 0) by rw [sW.1.1])) rfl rfl (fun z50 ez50 rz50 => ?_)
        rw [eM46, mu_ne (by omega), eM29, mu_ne (by omega), sW.2.2.2.2.2] at ez50
        obtain rfl : z50 = (W + 5) := ez50
        refine V_iconst (q := 54) dX5_keepAccount_53 rfl (by decide) ?_
        refine V_aload_n (q := 55) dX5_keepAccount_54 rfl rfl rfl ?_
        refine V_getI (q := 58) 2 dX5_keepAccount_55 rfl flX5_55 (by decide) (congrArg Prod.fst (show _ = (4, 0) by rw [T.1.1])) rfl rfl (fun z55 ez55 rz55 => ?_)
        rw [eM46, mu_ne (by omega), eM29, mu_ne (by omega), T.2.1] at ez55
        refine V_iast (q := 59) (n := 4) dX5_keepAccount_58 rfl (by omega) (by rw [sW.1.2.2.2.2.2]) (by omega) (fun M58 eM58 => ?_)
        refine V_aload_n (q := 60) dX5_keepAccount_59 rfl rfl rfl ?_
        refine V_getA (q := 63) 8 dX5_keepAccount_60 rfl flX5_31 (by omega) (congrArg Prod.fst (show _ = (6, 0) by rw [sW.1.1])) rfl rfl (fun z60 ez60 rz60 => ?_)
        rw [eM58, mu_ne (by omega), eM46, mu_ne (by omega), eM29, mu_ne (by omega), sW.2.2.2.2.2] at ez60
        obtain rfl : z60 = (W + 5) := ez60
        refine V_iconst (q := 64) dX5_keepAccount_63 rfl (by decide) ?_
        refine V_aload_n (q := 65) dX5_keepAccount_64 rfl rfl rfl ?_
        refine V_getI (q := 68) 3 dX5_keepAccount_65 rfl flX5_58 (by decide) (congrArg Prod.fst (show _ = (4, 0) by rw [T.1.1])) rfl rfl (fun z65 ez65 rz65 => ?_)
        rw [eM58, mu_ne (by omega), eM46, mu_ne (by omega), eM29, mu_ne (by omega), T.2.2.1] at ez65
        refine V_iast (q := 69) (n := 4) dX5_keepAccount_68 rfl (by omega) (by rw [sW.1.2.2.2.2.2]) (by omega) (fun M68 eM68 => ?_)
        refine V_aload_n (q := 70) dX5_keepAccount_69 rfl rfl rfl ?_
        refine V_getA (q := 73) 8 dX5_keepAccount_70 rfl flX5_31 (by omega) (congrArg Prod.fst (show _ = (6, 0) by rw [sW.1.1])) rfl rfl (fun z70 ez70 rz70 => ?_)
        rw [eM68, mu_ne (by omega), eM58, mu_ne (by omega), eM46, mu_ne (by omega), eM29, mu_ne (by omega), sW.2.2.2.2.2] at ez70
        obtain rfl : z70 = (W + 5) := ez70
        refine V_iconst (q := 74) dX5_keepAccount_73 rfl (by decide) ?_
        refine V_aload_n (q := 75) dX5_keepAccount_74 rfl rfl rfl ?_
        refine V_getI (q := 78) 4 dX5_keepAccount_75 rfl flX5_61 (by decide) (congrArg Prod.fst (show _ = (4, 0) by rw [T.1.1])) rfl rfl (fun z75 ez75 rz75 => ?_)
        rw [eM68, mu_ne (by omega), eM58, mu_ne (by omega), eM46, mu_ne (by omega), eM29, mu_ne (by omega), T.2.2.2.1] at ez75
        refine V_iast (q := 79) (n := 4) dX5_keepAccount_78 rfl (by omega) (by rw [sW.1.2.2.2.2.2]) (by omega) (fun M78 eM78 => ?_)
        refine V_aload_n (q := 80) dX5_keepAccount_79 rfl rfl rfl ?_
        refine V_getA (q := 83) 8 dX5_keepAccount_80 rfl flX5_31 (by omega) (congrArg Prod.fst (show _ = (6, 0) by rw [sW.1.1])) rfl rfl (fun z80 ez80 rz80 => ?_)
        rw [eM78, mu_ne (by omega), eM68, mu_ne (by omega), eM58, mu_ne (by omega), eM46, mu_ne (by omega), eM29, mu_ne (by omega), sW.2.2.2.2.2] at ez80
        obtain rfl : z80 = (W + 5) := ez80
        refine V_iconst (q := 84) dX5_keepAccount_83 rfl (by decide) ?_
        refine V_aload_n (q := 85) dX5_keepAccount_84 rfl rfl rfl ?_
        refine V_getI (q := 88) 5 dX5_keepAccount_85 rfl flX5_64 (by decide) (congrArg Prod.fst (show _ = (4, 0) by rw [T.1.1])) rfl rfl (fun z85 ez85 rz85 => ?_)
        rw [eM78, mu_ne (by omega), eM68, mu_ne (by omega), eM58, mu_ne (by omega), eM46, mu_ne (by omega), eM29, mu_ne (by omega), T.2.2.2.2.1] at ez85
        refine V_iast (q := 89) (n := 4) dX5_keepAccount_88 rfl (by omega) (by rw [sW.1.2.2.2.2.2]) (by omega) (fun M88 eM88 => ?_)
        first
          | (exfalso; omega)
          | exact V_vret dX5_keepAccount_89 (Nat.le_of_ble_eq_true rfl) (Nat.le_of_ble_eq_true rfl) ⟨rfl, rfl, ⟨(by rw [eM88, mu_ne (by omega), eM78, mu_ne (by omega), eM68, mu_ne (by omega), eM58, mu_ne (by omega), eM46, mu_ne (by omega), eM29, mu_s]; first | rw [if_pos (by omega)] | rw [if_neg (by omega)]), (by rw [eM88, mu_ne (by omega), eM78, mu_ne (by omega), eM68, mu_ne (by omega), eM58, mu_ne (by omega), eM46, mu_s]; first | rw [if_pos (by omega)] | (rw [if_neg (by omega)]))⟩, ⟨(by rw [eM88, mu_ne (by omega), eM78, mu_ne (by omega), eM68, mu_ne (by omega), eM58, mu_s]; exact ez55), (by rw [eM88, mu_ne (by omega), eM78, mu_ne (by omega), eM68, mu_s]; exact ez65), (by rw [eM88, mu_ne (by omega), eM78, mu_s]; exact ez75), (by rw [eM88, mu_s]; exact ez85)⟩, fun u i a b => by rw [eM88, mu_ne (by omega), eM78, mu_ne (by omega), eM68, mu_ne (by omega), eM58, mu_ne (by omega), eM46, mu_ne (by omega), eM29, mu_ne (by omega)]⟩
      · refine V_aload_n (q := 38) dX5_keepAccount_37 rfl rfl rfl ?_
        refine V_getI (q := 41) 6 dX5_keepAccount_38 rfl flX5_52 (by decide) (congrArg Prod.fst (show _ = (4, 0) by rw [T.1.1])) rfl rfl (fun z38 ez38 rz38 => ?_)
        rw [eM29, mu_ne (by omega), T.2.2.2.2.2] at ez38
        refine V_goto (tgt := 46) dX5_keepAccount_41 (by decide) ?_
        refine V_putI (q := 49) 7 dX5_keepAccount_46 rfl flX5_28 (Or.inl rfl) (by omega) (congrArg Prod.fst (show _ = (6, 0) by rw [sW.1.1])) rfl rfl (fun M46_2 eM46_2 => ?_)
        refine V_aload_n (q := 50) dX5_keepAccount_49 rfl rfl rfl ?_
        refine V_getA (q := 53) 8 dX5_keepAccount_50 rfl flX5_31 (by omega) (congrArg Prod.fst (show _ = (6, 0) by rw [sW.1.1])) rfl rfl (fun z50_2 ez50_2 rz50_2 => ?_)
        rw [eM46_2, mu_ne (by omega), eM29, mu_ne (by omega), sW.2.2.2.2.2] at ez50_2
        obtain rfl : z50_2 = (W + 5) := ez50_2
        refine V_iconst (q := 54) dX5_keepAccount_53 rfl (by decide) ?_
        refine V_aload_n (q := 55) dX5_keepAccount_54 rfl rfl rfl ?_
        refine V_getI (q := 58) 2 dX5_keepAccount_55 rfl flX5_55 (by decide) (congrArg Prod.fst (show _ = (4, 0) by rw [T.1.1])) rfl rfl (fun z55_2 ez55_2 rz55_2 => ?_)
        rw [eM46_2, mu_ne (by omega), eM29, mu_ne (by omega), T.2.1] at ez55_2
        refine V_iast (q := 59) (n := 4) dX5_keepAccount_58 rfl (by omega) (by rw [sW.1.2.2.2.2.2]) (by omega) (fun M58_2 eM58_2 => ?_)
        refine V_aload_n (q := 60) dX5_keepAccount_59 rfl rfl rfl ?_
        refine V_getA (q := 63) 8 dX5_keepAccount_60 rfl flX5_31 (by omega) (congrArg Prod.fst (show _ = (6, 0) by rw [sW.1.1])) rfl rfl (fun z60_2 ez60_2 rz60_2 => ?_)
        rw [eM58_2, mu_ne (by omega), eM46_2, mu_ne (by omega), eM29, mu_ne (by omega), sW.2.2.2.2.2] at ez60_2
        obtain rfl : z60_2 = (W + 5) := ez60_2
        refine V_iconst (q := 64) dX5_keepAccount_63 rfl (by decide) ?_
        refine V_aload_n (q := 65) dX5_keepAccount_64 rfl rfl rfl ?_
        refine V_getI (q := 68) 3 dX5_keepAccount_65 rfl flX5_58 (by decide) (congrArg Prod.fst (show _ = (4, 0) by rw [T.1.1])) rfl rfl (fun z65_2 ez65_2 rz65_2 => ?_)
        rw [eM58_2, mu_ne (by omega), eM46_2, mu_ne (by omega), eM29, mu_ne (by omega), T.2.2.1] at ez65_2
        refine V_iast (q := 69) (n := 4) dX5_keepAccount_68 rfl (by omega) (by rw [sW.1.2.2.2.2.2]) (by omega) (fun M68_2 eM68_2 => ?_)
        refine V_aload_n (q := 70) dX5_keepAccount_69 rfl rfl rfl ?_
        refine V_getA (q := 73) 8 dX5_keepAccount_70 rfl flX5_31 (by omega) (congrArg Prod.fst (show _ = (6, 0) by rw [sW.1.1])) rfl rfl (fun z70_2 ez70_2 rz70_2 => ?_)
        rw [eM68_2, mu_ne (by omega), eM58_2, mu_ne (by omega), eM46_2, mu_ne (by omega), eM29, mu_ne (by omega), sW.2.2.2.2.2] at ez70_2
        obtain rfl : z70_2 = (W + 5) := ez70_2
        refine V_iconst (q := 74) dX5_keepAccount_73 rfl (by decide) ?_
        refine V_aload_n (q := 75) dX5_keepAccount_74 rfl rfl rfl ?_
        refine V_getI (q := 78) 4 dX5_keepAccount_75 rfl flX5_61 (by decide) (congrArg Prod.fst (show _ = (4, 0) by rw [T.1.1])) rfl rfl (fun z75_2 ez75_2 rz75_2 => ?_)
        rw [eM68_2, mu_ne (by omega), eM58_2, mu_ne (by omega), eM46_2, mu_ne (by omega), eM29, mu_ne (by omega), T.2.2.2.1] at ez75_2
        refine V_iast (q := 79) (n := 4) dX5_keepAccount_78 rfl (by omega) (by rw [sW.1.2.2.2.2.2]) (by omega) (fun M78_2 eM78_2 => ?_)
        refine V_aload_n (q := 80) dX5_keepAccount_79 rfl rfl rfl ?_
        refine V_getA (q := 83) 8 dX5_keepAccount_80 rfl flX5_31 (by omega) (congrArg Prod.fst (show _ = (6, 0) by rw [sW.1.1])) rfl rfl (fun z80_2 ez80_2 rz80_2 => ?_)
        rw [eM78_2, mu_ne (by omega), eM68_2, mu_ne (by omega), eM58_2, mu_ne (by omega), eM46_2, mu_ne (by omega), eM29, mu_ne (by omega), sW.2.2.2.2.2] at ez80_2
        obtain rfl : z80_2 = (W + 5) := ez80_2
        refine V_iconst (q := 84) dX5_keepAccount_83 rfl (by decide) ?_
        refine V_aload_n (q := 85) dX5_keepAccount_84 rfl rfl rfl ?_
        refine V_getI (q := 88) 5 dX5_keepAccount_85 rfl flX5_64 (by decide) (congrArg Prod.fst (show _ = (4, 0) by rw [T.1.1])) rfl rfl (fun z85_2 ez85_2 rz85_2 => ?_)
        rw [eM78_2, mu_ne (by omega), eM68_2, mu_ne (by omega), eM58_2, mu_ne (by omega), eM46_2, mu_ne (by omega), eM29, mu_ne (by omega), T.2.2.2.2.1] at ez85_2
        refine V_iast (q := 89) (n := 4) dX5_keepAccount_88 rfl (by omega) (by rw [sW.1.2.2.2.2.2]) (by omega) (fun M88_2 eM88_2 => ?_)
        first
          | (exfalso; omega)
          | exact V_vret dX5_keepAccount_89 (Nat.le_of_ble_eq_true rfl) (Nat.le_of_ble_eq_true rfl) ⟨rfl, rfl, ⟨(by rw [eM88_2, mu_ne (by omega), eM78_2, mu_ne (by omega), eM68_2, mu_ne (by omega), eM58_2, mu_ne (by omega), eM46_2, mu_ne (by omega), eM29, mu_s]; first | rw [if_pos (by omega)] | rw [if_neg (by omega)]), (by rw [eM88_2, mu_ne (by omega), eM78_2, mu_ne (by omega), eM68_2, mu_ne (by omega), eM58_2, mu_ne (by omega), eM46_2, mu_s]; first | rw [if_pos (by omega)] | (rw [if_neg (by omega)]; exact ez38))⟩, ⟨(by rw [eM88_2, mu_ne (by omega), eM78_2, mu_ne (by omega), eM68_2, mu_ne (by omega), eM58_2, mu_s]; exact ez55_2), (by rw [eM88_2, mu_ne (by omega), eM78_2, mu_ne (by omega), eM68_2, mu_s]; exact ez65_2), (by rw [eM88_2, mu_ne (by omega), eM78_2, mu_s]; exact ez75_2), (by rw [eM88_2, mu_s]; exact ez85_2)⟩, fun u i a b => by rw [eM88_2, mu_ne (by omega), eM78_2, mu_ne (by omega), eM68_2, mu_ne (by omega), eM58_2, mu_ne (by omega), eM46_2, mu_ne (by omega), eM29, mu_ne (by omega)]⟩
    · refine V_iload_n (q := 24) dX5_keepAccount_23 rfl rfl rfl ?_
      refine V_goto (tgt := 29) dX5_keepAccount_24 (by decide) ?_
      refine V_putI (q := 32) 6 dX5_keepAccount_29 rfl flX5_24 (Or.inl rfl) (by omega) (congrArg Prod.fst (show _ = (6, 0) by rw [sW.1.1])) rfl rfl (fun M29_2 eM29_2 => ?_)
      refine V_aload_n (q := 33) dX5_keepAccount_32 rfl rfl rfl ?_
      refine V_iload_n (q := 34) dX5_keepAccount_33 rfl rfl rfl ?_
      refine V_if_eq (q := 37) (tgt := 44) dX5_keepAccount_34 (by decide) rfl (fun c34_2 => ?_) (fun c34_2 => ?_)
      · refine V_bipush (q := 46) dX5_keepAccount_44 rfl (by decide) ?_
        refine V_putI (q := 49) 7 dX5_keepAccount_46 rfl flX5_28 (Or.inl rfl) (by omega) (congrArg Prod.fst (show _ = (6, 0) by rw [sW.1.1])) rfl rfl (fun M46_3 eM46_3 => ?_)
        refine V_aload_n (q := 50) dX5_keepAccount_49 rfl rfl rfl ?_
        refine V_getA (q := 53) 8 dX5_keepAccount_50 rfl flX5_31 (by omega) (congrArg Prod.fst (show _ = (6, 0) by rw [sW.1.1])) rfl rfl (fun z50_3 ez50_3 rz50_3 => ?_)
        rw [eM46_3, mu_ne (by omega), eM29_2, mu_ne (by omega), sW.2.2.2.2.2] at ez50_3
        obtain rfl : z50_3 = (W + 5) := ez50_3
        refine V_iconst (q := 54) dX5_keepAccount_53 rfl (by decide) ?_
        refine V_aload_n (q := 55) dX5_keepAccount_54 rfl rfl rfl ?_
        refine V_getI (q := 58) 2 dX5_keepAccount_55 rfl flX5_55 (by decide) (congrArg Prod.fst (show _ = (4, 0) by rw [T.1.1])) rfl rfl (fun z55_3 ez55_3 rz55_3 => ?_)
        rw [eM46_3, mu_ne (by omega), eM29_2, mu_ne (by omega), T.2.1] at ez55_3
        refine V_iast (q := 59) (n := 4) dX5_keepAccount_58 rfl (by omega) (by rw [sW.1.2.2.2.2.2]) (by omega) (fun M58_3 eM58_3 => ?_)
        refine V_aload_n (q := 60) dX5_keepAccount_59 rfl rfl rfl ?_
        refine V_getA (q := 63) 8 dX5_keepAccount_60 rfl flX5_31 (by omega) (congrArg Prod.fst (show _ = (6, 0) by rw [sW.1.1])) rfl rfl (fun z60_3 ez60_3 rz60_3 => ?_)
        rw [eM58_3, mu_ne (by omega), eM46_3, mu_ne (by omega), eM29_2, mu_ne (by omega), sW.2.2.2.2.2] at ez60_3
        obtain rfl : z60_3 = (W + 5) := ez60_3
        refine V_iconst (q := 64) dX5_keepAccount_63 rfl (by decide) ?_
        refine V_aload_n (q := 65) dX5_keepAccount_64 rfl rfl rfl ?_
        refine V_getI (q := 68) 3 dX5_keepAccount_65 rfl flX5_58 (by decide) (congrArg Prod.fst (show _ = (4, 0) by rw [T.1.1])) rfl rfl (fun z65_3 ez65_3 rz65_3 => ?_)
        rw [eM58_3, mu_ne (by omega), eM46_3, mu_ne (by omega), eM29_2, mu_ne (by omega), T.2.2.1] at ez65_3
        refine V_iast (q := 69) (n := 4) dX5_keepAccount_68 rfl (by omega) (by rw [sW.1.2.2.2.2.2]) (by omega) (fun M68_3 eM68_3 => ?_)
        refine V_aload_n (q := 70) dX5_keepAccount_69 rfl rfl rfl ?_
        refine V_getA (q := 73) 8 dX5_keepAccount_70 rfl flX5_31 (by omega) (congrArg Prod.fst (show _ = (6, 0) by rw [sW.1.1])) rfl rfl (fun z70_3 ez70_3 rz70_3 => ?_)
        rw [eM68_3, mu_ne (by omega), eM58_3, mu_ne (by omega), eM46_3, mu_ne (by omega), eM29_2, mu_ne (by omega), sW.2.2.2.2.2] at ez70_3
        obtain rfl : z70_3 = (W + 5) := ez70_3
        refine V_iconst (q := 74) dX5_keepAccount_73 rfl (by decide) ?_
        refine V_aload_n (q := 75) dX5_keepAccount_74 rfl rfl rfl ?_
        refine V_getI (q := 78) 4 dX5_keepAccount_75 rfl flX5_61 (by decide) (congrArg Prod.fst (show _ = (4, 0) by rw [T.1.1])) rfl rfl (fun z75_3 ez75_3 rz75_3 => ?_)
        rw [eM68_3, mu_ne (by omega), eM58_3, mu_ne (by omega), eM46_3, mu_ne (by omega), eM29_2, mu_ne (by omega), T.2.2.2.1] at ez75_3
        refine V_iast (q := 79) (n := 4) dX5_keepAccount_78 rfl (by omega) (by rw [sW.1.2.2.2.2.2]) (by omega) (fun M78_3 eM78_3 => ?_)
        refine V_aload_n (q := 80) dX5_keepAccount_79 rfl rfl rfl ?_
        refine V_getA (q := 83) 8 dX5_keepAccount_80 rfl flX5_31 (by omega) (congrArg Prod.fst (show _ = (6, 0) by rw [sW.1.1])) rfl rfl (fun z80_3 ez80_3 rz80_3 => ?_)
        rw [eM78_3, mu_ne (by omega), eM68_3, mu_ne (by omega), eM58_3, mu_ne (by omega), eM46_3, mu_ne (by omega), eM29_2, mu_ne (by omega), sW.2.2.2.2.2] at ez80_3
        obtain rfl : z80_3 = (W + 5) := ez80_3
        refine V_iconst (q := 84) dX5_keepAccount_83 rfl (by decide) ?_
        refine V_aload_n (q := 85) dX5_keepAccount_84 rfl rfl rfl ?_
        refine V_getI (q := 88) 5 dX5_keepAccount_85 rfl flX5_64 (by decide) (congrArg Prod.fst (show _ = (4, 0) by rw [T.1.1])) rfl rfl (fun z85_3 ez85_3 rz85_3 => ?_)
        rw [eM78_3, mu_ne (by omega), eM68_3, mu_ne (by omega), eM58_3, mu_ne (by omega), eM46_3, mu_ne (by omega), eM29_2, mu_ne (by omega), T.2.2.2.2.1] at ez85_3
        refine V_iast (q := 89) (n := 4) dX5_keepAccount_88 rfl (by omega) (by rw [sW.1.2.2.2.2.2]) (by omega) (fun M88_3 eM88_3 => ?_)
        first
          | (exfalso; omega)
          | exact V_vret dX5_keepAccount_89 (Nat.le_of_ble_eq_true rfl) (Nat.le_of_ble_eq_true rfl) ⟨rfl, rfl, ⟨(by rw [eM88_3, mu_ne (by omega), eM78_3, mu_ne (by omega), eM68_3, mu_ne (by omega), eM58_3, mu_ne (by omega), eM46_3, mu_ne (by omega), eM29_2, mu_s]; first | rw [if_pos (by omega)] | rw [if_neg (by omega)]), (by rw [eM88_3, mu_ne (by omega), eM78_3, mu_ne (by omega), eM68_3, mu_ne (by omega), eM58_3, mu_ne (by omega), eM46_3, mu_s]; first | rw [if_pos (by omega)] | (rw [if_neg (by omega)]))⟩, ⟨(by rw [eM88_3, mu_ne (by omega), eM78_3, mu_ne (by omega), eM68_3, mu_ne (by omega), eM58_3, mu_s]; exact ez55_3), (by rw [eM88_3, mu_ne (by omega), eM78_3, mu_ne (by omega), eM68_3, mu_s]; exact ez65_3), (by rw [eM88_3, mu_ne (by omega), eM78_3, mu_s]; exact ez75_3), (by rw [eM88_3, mu_s]; exact ez85_3)⟩, fun u i a b => by rw [eM88_3, mu_ne (by omega), eM78_3, mu_ne (by omega), eM68_3, mu_ne (by omega), eM58_3, mu_ne (by omega), eM46_3, mu_ne (by omega), eM29_2, mu_ne (by omega)]⟩
      · refine V_aload_n (q := 38) dX5_keepAccount_37 rfl rfl rfl ?_
        refine V_getI (q := 41) 6 dX5_keepAccount_38 rfl flX5_52 (by decide) (congrArg Prod.fst (show _ = (4, 0) by rw [T.1.1])) rfl rfl (fun z38_2 ez38_2 rz38_2 => ?_)
        rw [eM29_2, mu_ne (by omega), T.2.2.2.2.2] at ez38_2
        refine V_goto (tgt := 46) dX5_keepAccount_41 (by decide) ?_
        refine V_putI (q := 49) 7 dX5_keepAccount_46 rfl flX5_28 (Or.inl rfl) (by omega) (congrArg Prod.fst (show _ = (6, 0) by rw [sW.1.1])) rfl rfl (fun M46_4 eM46_4 => ?_)
        refine V_aload_n (q := 50) dX5_keepAccount_49 rfl rfl rfl ?_
        refine V_getA (q := 53) 8 dX5_keepAccount_50 rfl flX5_31 (by omega) (congrArg Prod.fst (show _ = (6, 0) by rw [sW.1.1])) rfl rfl (fun z50_4 ez50_4 rz50_4 => ?_)
        rw [eM46_4, mu_ne (by omega), eM29_2, mu_ne (by omega), sW.2.2.2.2.2] at ez50_4
        obtain rfl : z50_4 = (W + 5) := ez50_4
        refine V_iconst (q := 54) dX5_keepAccount_53 rfl (by decide) ?_
        refine V_aload_n (q := 55) dX5_keepAccount_54 rfl rfl rfl ?_
        refine V_getI (q := 58) 2 dX5_keepAccount_55 rfl flX5_55 (by decide) (congrArg Prod.fst (show _ = (4, 0) by rw [T.1.1])) rfl rfl (fun z55_4 ez55_4 rz55_4 => ?_)
        rw [eM46_4, mu_ne (by omega), eM29_2, mu_ne (by omega), T.2.1] at ez55_4
        refine V_iast (q := 59) (n := 4) dX5_keepAccount_58 rfl (by omega) (by rw [sW.1.2.2.2.2.2]) (by omega) (fun M58_4 eM58_4 => ?_)
        refine V_aload_n (q := 60) dX5_keepAccount_59 rfl rfl rfl ?_
        refine V_getA (q := 63) 8 dX5_keepAccount_60 rfl flX5_31 (by omega) (congrArg Prod.fst (show _ = (6, 0) by rw [sW.1.1])) rfl rfl (fun z60_4 ez60_4 rz60_4 => ?_)
        rw [eM58_4, mu_ne (by omega), eM46_4, mu_ne (by omega), eM29_2, mu_ne (by omega), sW.2.2.2.2.2] at ez60_4
        obtain rfl : z60_4 = (W + 5) := ez60_4
        refine V_iconst (q := 64) dX5_keepAccount_63 rfl (by decide) ?_
        refine V_aload_n (q := 65) dX5_keepAccount_64 rfl rfl rfl ?_
        refine V_getI (q := 68) 3 dX5_keepAccount_65 rfl flX5_58 (by decide) (congrArg Prod.fst (show _ = (4, 0) by rw [T.1.1])) rfl rfl (fun z65_4 ez65_4 rz65_4 => ?_)
        rw [eM58_4, mu_ne (by omega), eM46_4, mu_ne (by omega), eM29_2, mu_ne (by omega), T.2.2.1] at ez65_4
        refine V_iast (q := 69) (n := 4) dX5_keepAccount_68 rfl (by omega) (by rw [sW.1.2.2.2.2.2]) (by omega) (fun M68_4 eM68_4 => ?_)
        refine V_aload_n (q := 70) dX5_keepAccount_69 rfl rfl rfl ?_
        refine V_getA (q := 73) 8 dX5_keepAccount_70 rfl flX5_31 (by omega) (congrArg Prod.fst (show _ = (6, 0) by rw [sW.1.1])) rfl rfl (fun z70_4 ez70_4 rz70_4 => ?_)
        rw [eM68_4, mu_ne (by omega), eM58_4, mu_ne (by omega), eM46_4, mu_ne (by omega), eM29_2, mu_ne (by omega), sW.2.2.2.2.2] at ez70_4
        obtain rfl : z70_4 = (W + 5) := ez70_4
        refine V_iconst (q := 74) dX5_keepAccount_73 rfl (by decide) ?_
        refine V_aload_n (q := 75) dX5_keepAccount_74 rfl rfl rfl ?_
        refine V_getI (q := 78) 4 dX5_keepAccount_75 rfl flX5_61 (by decide) (congrArg Prod.fst (show _ = (4, 0) by rw [T.1.1])) rfl rfl (fun z75_4 ez75_4 rz75_4 => ?_)
        rw [eM68_4, mu_ne (by omega), eM58_4, mu_ne (by omega), eM46_4, mu_ne (by omega), eM29_2, mu_ne (by omega), T.2.2.2.1] at ez75_4
        refine V_iast (q := 79) (n := 4) dX5_keepAccount_78 rfl (by omega) (by rw [sW.1.2.2.2.2.2]) (by omega) (fun M78_4 eM78_4 => ?_)
        refine V_aload_n (q := 80) dX5_keepAccount_79 rfl rfl rfl ?_
        refine V_getA (q := 83) 8 dX5_keepAccount_80 rfl flX5_31 (by omega) (congrArg Prod.fst (show _ = (6, 0) by rw [sW.1.1])) rfl rfl (fun z80_4 ez80_4 rz80_4 => ?_)
        rw [eM78_4, mu_ne (by omega), eM68_4, mu_ne (by omega), eM58_4, mu_ne (by omega), eM46_4, mu_ne (by omega), eM29_2, mu_ne (by omega), sW.2.2.2.2.2] at ez80_4
        obtain rfl : z80_4 = (W + 5) := ez80_4
        refine V_iconst (q := 84) dX5_keepAccount_83 rfl (by decide) ?_
        refine V_aload_n (q := 85) dX5_keepAccount_84 rfl rfl rfl ?_
        refine V_getI (q := 88) 5 dX5_keepAccount_85 rfl flX5_64 (by decide) (congrArg Prod.fst (show _ = (4, 0) by rw [T.1.1])) rfl rfl (fun z85_4 ez85_4 rz85_4 => ?_)
        rw [eM78_4, mu_ne (by omega), eM68_4, mu_ne (by omega), eM58_4, mu_ne (by omega), eM46_4, mu_ne (by omega), eM29_2, mu_ne (by omega), T.2.2.2.2.1] at ez85_4
        refine V_iast (q := 89) (n := 4) dX5_keepAccount_88 rfl (by omega) (by rw [sW.1.2.2.2.2.2]) (by omega) (fun M88_4 eM88_4 => ?_)
        first
          | (exfalso; omega)
          | exact V_vret dX5_keepAccount_89 (Nat.le_of_ble_eq_true rfl) (Nat.le_of_ble_eq_true rfl) ⟨rfl, rfl, ⟨(by rw [eM88_4, mu_ne (by omega), eM78_4, mu_ne (by omega), eM68_4, mu_ne (by omega), eM58_4, mu_ne (by omega), eM46_4, mu_ne (by omega), eM29_2, mu_s]; first | rw [if_pos (by omega)] | rw [if_neg (by omega)]), (by rw [eM88_4, mu_ne (by omega), eM78_4, mu_ne (by omega), eM68_4, mu_ne (by omega), eM58_4, mu_ne (by omega), eM46_4, mu_s]; first | rw [if_pos (by omega)] | (rw [if_neg (by omega)]; exact ez38_2))⟩, ⟨(by rw [eM88_4, mu_ne (by omega), eM78_4, mu_ne (by omega), eM68_4, mu_ne (by omega), eM58_4, mu_s]; exact ez55_4), (by rw [eM88_4, mu_ne (by omega), eM78_4, mu_ne (by omega), eM68_4, mu_s]; exact ez65_4), (by rw [eM88_4, mu_ne (by omega), eM78_4, mu_s]; exact ez75_4), (by rw [eM88_4, mu_s]; exact ez85_4)⟩, fun u i a b => by rw [eM88_4, mu_ne (by omega), eM78_4, mu_ne (by omega), eM68_4, mu_ne (by omega), eM58_4, mu_ne (by omega), eM46_4, mu_ne (by omega), eM29_2, mu_ne (by omega)]⟩
  · refine V_iload_n (q := 7) dX5_keepAccount_6 rfl rfl rfl ?_
    refine V_bipush (q := 9) dX5_keepAccount_7 rfl (by decide) ?_
    refine V_icmp_eq (q := 12) (tgt := 16) dX5_keepAccount_9 (by decide) rfl (fun c9 => ?_) (fun c9 => ?_)
    · refine V_iconst (q := 17) dX5_keepAccount_16 rfl (by decide) ?_
      refine V_istore_n (q := 18) (lv1 := [(3, W), (3, 150), (0, f), (0, 0)]) dX5_keepAccount_17 rfl rfl (by decide) rfl rfl ?_
      refine V_aload_n (q := 19) dX5_keepAccount_18 rfl rfl rfl ?_
      refine V_iload_n (q := 20) dX5_keepAccount_19 rfl rfl rfl ?_
      refine V_if_eq (q := 23) (tgt := 27) dX5_keepAccount_20 (by decide) rfl (fun c20_2 => ?_) (fun c20_2 => ?_)
      · refine V_bipush (q := 29) dX5_keepAccount_27 rfl (by decide) ?_
        refine V_putI (q := 32) 6 dX5_keepAccount_29 rfl flX5_24 (Or.inl rfl) (by omega) (congrArg Prod.fst (show _ = (6, 0) by rw [sW.1.1])) rfl rfl (fun M29_3 eM29_3 => ?_)
        refine V_aload_n (q := 33) dX5_keepAccount_32 rfl rfl rfl ?_
        refine V_iload_n (q := 34) dX5_keepAccount_33 rfl rfl rfl ?_
        refine V_if_eq (q := 37) (tgt := 44) dX5_keepAccount_34 (by decide) rfl (fun c34_3 => ?_) (fun c34_3 => ?_)
        · refine V_bipush (q := 46) dX5_keepAccount_44 rfl (by decide) ?_
          refine V_putI (q := 49) 7 dX5_keepAccount_46 rfl flX5_28 (Or.inl rfl) (by omega) (congrArg Prod.fst (show _ = (6, 0) by rw [sW.1.1])) rfl rfl (fun M46_5 eM46_5 => ?_)
          refine V_aload_n (q := 50) dX5_keepAccount_49 rfl rfl rfl ?_
          refine V_getA (q := 53) 8 dX5_keepAccount_50 rfl flX5_31 (by omega) (congrArg Prod.fst (show _ = (6, 0) by rw [sW.1.1])) rfl rfl (fun z50_5 ez50_5 rz50_5 => ?_)
          rw [eM46_5, mu_ne (by omega), eM29_3, mu_ne (by omega), sW.2.2.2.2.2] at ez50_5
          obtain rfl : z50_5 = (W + 5) := ez50_5
          refine V_iconst (q := 54) dX5_keepAccount_53 rfl (by decide) ?_
          refine V_aload_n (q := 55) dX5_keepAccount_54 rfl rfl rfl ?_
          refine V_getI (q := 58) 2 dX5_keepAccount_55 rfl flX5_55 (by decide) (congrArg Prod.fst (show _ = (4, 0) by rw [T.1.1])) rfl rfl (fun z55_5 ez55_5 rz55_5 => ?_)
          rw [eM46_5, mu_ne (by omega), eM29_3, mu_ne (by omega), T.2.1] at ez55_5
          refine V_iast (q := 59) (n := 4) dX5_keepAccount_58 rfl (by omega) (by rw [sW.1.2.2.2.2.2]) (by omega) (fun M58_5 eM58_5 => ?_)
          refine V_aload_n (q := 60) dX5_keepAccount_59 rfl rfl rfl ?_
          refine V_getA (q := 63) 8 dX5_keepAccount_60 rfl flX5_31 (by omega) (congrArg Prod.fst (show _ = (6, 0) by rw [sW.1.1])) rfl rfl (fun z60_5 ez60_5 rz60_5 => ?_)
          rw [eM58_5, mu_ne (by omega), eM46_5, mu_ne (by omega), eM29_3, mu_ne (by omega), sW.2.2.2.2.2] at ez60_5
          obtain rfl : z60_5 = (W + 5) := ez60_5
          refine V_iconst (q := 64) dX5_keepAccount_63 rfl (by decide) ?_
          refine V_aload_n (q := 65) dX5_keepAccount_64 rfl rfl rfl ?_
          refine V_getI (q := 68) 3 dX5_keepAccount_65 rfl flX5_58 (by decide) (congrArg Prod.fst (show _ = (4, 0) by rw [T.1.1])) rfl rfl (fun z65_5 ez65_5 rz65_5 => ?_)
          rw [eM58_5, mu_ne (by omega), eM46_5, mu_ne (by omega), eM29_3, mu_ne (by omega), T.2.2.1] at ez65_5
          refine V_iast (q := 69) (n := 4) dX5_keepAccount_68 rfl (by omega) (by rw [sW.1.2.2.2.2.2]) (by omega) (fun M68_5 eM68_5 => ?_)
          refine V_aload_n (q := 70) dX5_keepAccount_69 rfl rfl rfl ?_
          refine V_getA (q := 73) 8 dX5_keepAccount_70 rfl flX5_31 (by omega) (congrArg Prod.fst (show _ = (6, 0) by rw [sW.1.1])) rfl rfl (fun z70_5 ez70_5 rz70_5 => ?_)
          rw [eM68_5, mu_ne (by omega), eM58_5, mu_ne (by omega), eM46_5, mu_ne (by omega), eM29_3, mu_ne (by omega), sW.2.2.2.2.2] at ez70_5
          obtain rfl : z70_5 = (W + 5) := ez70_5
          refine V_iconst (q := 74) dX5_keepAccount_73 rfl (by decide) ?_
          refine V_aload_n (q := 75) dX5_keepAccount_74 rfl rfl rfl ?_
          refine V_getI (q := 78) 4 dX5_keepAccount_75 rfl flX5_61 (by decide) (congrArg Prod.fst (show _ = (4, 0) by rw [T.1.1])) rfl rfl (fun z75_5 ez75_5 rz75_5 => ?_)
          rw [eM68_5, mu_ne (by omega), eM58_5, mu_ne (by omega), eM46_5, mu_ne (by omega), eM29_3, mu_ne (by omega), T.2.2.2.1] at ez75_5
          refine V_iast (q := 79) (n := 4) dX5_keepAccount_78 rfl (by omega) (by rw [sW.1.2.2.2.2.2]) (by omega) (fun M78_5 eM78_5 => ?_)
          refine V_aload_n (q := 80) dX5_keepAccount_79 rfl rfl rfl ?_
          refine V_getA (q := 83) 8 dX5_keepAccount_80 rfl flX5_31 (by omega) (congrArg Prod.fst (show _ = (6, 0) by rw [sW.1.1])) rfl rfl (fun z80_5 ez80_5 rz80_5 => ?_)
          rw [eM78_5, mu_ne (by omega), eM68_5, mu_ne (by omega), eM58_5, mu_ne (by omega), eM46_5, mu_ne (by omega), eM29_3, mu_ne (by omega), sW.2.2.2.2.2] at ez80_5
          obtain rfl : z80_5 = (W + 5) := ez80_5
          refine V_iconst (q := 84) dX5_keepAccount_83 rfl (by decide) ?_
          refine V_aload_n (q := 85) dX5_keepAccount_84 rfl rfl rfl ?_
          refine V_getI (q := 88) 5 dX5_keepAccount_85 rfl flX5_64 (by decide) (congrArg Prod.fst (show _ = (4, 0) by rw [T.1.1])) rfl rfl (fun z85_5 ez85_5 rz85_5 => ?_)
          rw [eM78_5, mu_ne (by omega), eM68_5, mu_ne (by omega), eM58_5, mu_ne (by omega), eM46_5, mu_ne (by omega), eM29_3, mu_ne (by omega), T.2.2.2.2.1] at ez85_5
          refine V_iast (q := 89) (n := 4) dX5_keepAccount_88 rfl (by omega) (by rw [sW.1.2.2.2.2.2]) (by omega) (fun M88_5 eM88_5 => ?_)
          first
            | (exfalso; omega)
            | exact V_vret dX5_keepAccount_89 (Nat.le_of_ble_eq_true rfl) (Nat.le_of_ble_eq_true rfl) ⟨rfl, rfl, ⟨(by rw [eM88_5, mu_ne (by omega), eM78_5, mu_ne (by omega), eM68_5, mu_ne (by omega), eM58_5, mu_ne (by omega), eM46_5, mu_ne (by omega), eM29_3, mu_s]; first | rw [if_pos (by omega)] | rw [if_neg (by omega)]), (by rw [eM88_5, mu_ne (by omega), eM78_5, mu_ne (by omega), eM68_5, mu_ne (by omega), eM58_5, mu_ne (by omega), eM46_5, mu_s]; first | rw [if_pos (by omega)] | (rw [if_neg (by omega)]))⟩, ⟨(by rw [eM88_5, mu_ne (by omega), eM78_5, mu_ne (by omega), eM68_5, mu_ne (by omega), eM58_5, mu_s]; exact ez55_5), (by rw [eM88_5, mu_ne (by omega), eM78_5, mu_ne (by omega), eM68_5, mu_s]; exact ez65_5), (by rw [eM88_5, mu_ne (by omega), eM78_5, mu_s]; exact ez75_5), (by rw [eM88_5, mu_s]; exact ez85_5)⟩, fun u i a b => by rw [eM88_5, mu_ne (by omega), eM78_5, mu_ne (by omega), eM68_5, mu_ne (by omega), eM58_5, mu_ne (by omega), eM46_5, mu_ne (by omega), eM29_3, mu_ne (by omega)]⟩
        · refine V_aload_n (q := 38) dX5_keepAccount_37 rfl rfl rfl ?_
          refine V_getI (q := 41) 6 dX5_keepAccount_38 rfl flX5_52 (by decide) (congrArg Prod.fst (show _ = (4, 0) by rw [T.1.1])) rfl rfl (fun z38_3 ez38_3 rz38_3 => ?_)
          rw [eM29_3, mu_ne (by omega), T.2.2.2.2.2] at ez38_3
          refine V_goto (tgt := 46) dX5_keepAccount_41 (by decide) ?_
          refine V_putI (q := 49) 7 dX5_keepAccount_46 rfl flX5_28 (Or.inl rfl) (by omega) (congrArg Prod.fst (show _ = (6, 0) by rw [sW.1.1])) rfl rfl (fun M46_6 eM46_6 => ?_)
          refine V_aload_n (q := 50) dX5_keepAccount_49 rfl rfl rfl ?_
          refine V_getA (q := 53) 8 dX5_keepAccount_50 rfl flX5_31 (by omega) (congrArg Prod.fst (show _ = (6, 0) by rw [sW.1.1])) rfl rfl (fun z50_6 ez50_6 rz50_6 => ?_)
          rw [eM46_6, mu_ne (by omega), eM29_3, mu_ne (by omega), sW.2.2.2.2.2] at ez50_6
          obtain rfl : z50_6 = (W + 5) := ez50_6
          refine V_iconst (q := 54) dX5_keepAccount_53 rfl (by decide) ?_
          refine V_aload_n (q := 55) dX5_keepAccount_54 rfl rfl rfl ?_
          refine V_getI (q := 58) 2 dX5_keepAccount_55 rfl flX5_55 (by decide) (congrArg Prod.fst (show _ = (4, 0) by rw [T.1.1])) rfl rfl (fun z55_6 ez55_6 rz55_6 => ?_)
          rw [eM46_6, mu_ne (by omega), eM29_3, mu_ne (by omega), T.2.1] at ez55_6
          refine V_iast (q := 59) (n := 4) dX5_keepAccount_58 rfl (by omega) (by rw [sW.1.2.2.2.2.2]) (by omega) (fun M58_6 eM58_6 => ?_)
          refine V_aload_n (q := 60) dX5_keepAccount_59 rfl rfl rfl ?_
          refine V_getA (q := 63) 8 dX5_keepAccount_60 rfl flX5_31 (by omega) (congrArg Prod.fst (show _ = (6, 0) by rw [sW.1.1])) rfl rfl (fun z60_6 ez60_6 rz60_6 => ?_)
          rw [eM58_6, mu_ne (by omega), eM46_6, mu_ne (by omega), eM29_3, mu_ne (by omega), sW.2.2.2.2.2] at ez60_6
          obtain rfl : z60_6 = (W + 5) := ez60_6
          refine V_iconst (q := 64) dX5_keepAccount_63 rfl (by decide) ?_
          refine V_aload_n (q := 65) dX5_keepAccount_64 rfl rfl rfl ?_
          refine V_getI (q := 68) 3 dX5_keepAccount_65 rfl flX5_58 (by decide) (congrArg Prod.fst (show _ = (4, 0) by rw [T.1.1])) rfl rfl (fun z65_6 ez65_6 rz65_6 => ?_)
          rw [eM58_6, mu_ne (by omega), eM46_6, mu_ne (by omega), eM29_3, mu_ne (by omega), T.2.2.1] at ez65_6
          refine V_iast (q := 69) (n := 4) dX5_keepAccount_68 rfl (by omega) (by rw [sW.1.2.2.2.2.2]) (by omega) (fun M68_6 eM68_6 => ?_)
          refine V_aload_n (q := 70) dX5_keepAccount_69 rfl rfl rfl ?_
          refine V_getA (q := 73) 8 dX5_keepAccount_70 rfl flX5_31 (by omega) (congrArg Prod.fst (show _ = (6, 0) by rw [sW.1.1])) rfl rfl (fun z70_6 ez70_6 rz70_6 => ?_)
          rw [eM68_6, mu_ne (by omega), eM58_6, mu_ne (by omega), eM46_6, mu_ne (by omega), eM29_3, mu_ne (by omega), sW.2.2.2.2.2] at ez70_6
          obtain rfl : z70_6 = (W + 5) := ez70_6
          refine V_iconst (q := 74) dX5_keepAccount_73 rfl (by decide) ?_
          refine V_aload_n (q := 75) dX5_keepAccount_74 rfl rfl rfl ?_
          refine V_getI (q := 78) 4 dX5_keepAccount_75 rfl flX5_61 (by decide) (congrArg Prod.fst (show _ = (4, 0) by rw [T.1.1])) rfl rfl (fun z75_6 ez75_6 rz75_6 => ?_)
          rw [eM68_6, mu_ne (by omega), eM58_6, mu_ne (by omega), eM46_6, mu_ne (by omega), eM29_3, mu_ne (by omega), T.2.2.2.1] at ez75_6
          refine V_iast (q := 79) (n := 4) dX5_keepAccount_78 rfl (by omega) (by rw [sW.1.2.2.2.2.2]) (by omega) (fun M78_6 eM78_6 => ?_)
          refine V_aload_n (q := 80) dX5_keepAccount_79 rfl rfl rfl ?_
          refine V_getA (q := 83) 8 dX5_keepAccount_80 rfl flX5_31 (by omega) (congrArg Prod.fst (show _ = (6, 0) by rw [sW.1.1])) rfl rfl (fun z80_6 ez80_6 rz80_6 => ?_)
          rw [eM78_6, mu_ne (by omega), eM68_6, mu_ne (by omega), eM58_6, mu_ne (by omega), eM46_6, mu_ne (by omega), eM29_3, mu_ne (by omega), sW.2.2.2.2.2] at ez80_6
          obtain rfl : z80_6 = (W + 5) := ez80_6
          refine V_iconst (q := 84) dX5_keepAccount_83 rfl (by decide) ?_
          refine V_aload_n (q := 85) dX5_keepAccount_84 rfl rfl rfl ?_
          refine V_getI (q := 88) 5 dX5_keepAccount_85 rfl flX5_64 (by decide) (congrArg Prod.fst (show _ = (4, 0) by rw [T.1.1])) rfl rfl (fun z85_6 ez85_6 rz85_6 => ?_)
          rw [eM78_6, mu_ne (by omega), eM68_6, mu_ne (by omega), eM58_6, mu_ne (by omega), eM46_6, mu_ne (by omega), eM29_3, mu_ne (by omega), T.2.2.2.2.1] at ez85_6
          refine V_iast (q := 89) (n := 4) dX5_keepAccount_88 rfl (by omega) (by rw [sW.1.2.2.2.2.2]) (by omega) (fun M88_6 eM88_6 => ?_)
          first
            | (exfalso; omega)
            | exact V_vret dX5_keepAccount_89 (Nat.le_of_ble_eq_true rfl) (Nat.le_of_ble_eq_true rfl) ⟨rfl, rfl, ⟨(by rw [eM88_6, mu_ne (by omega), eM78_6, mu_ne (by omega), eM68_6, mu_ne (by omega), eM58_6, mu_ne (by omega), eM46_6, mu_ne (by omega), eM29_3, mu_s]; first | rw [if_pos (by omega)] | rw [if_neg (by omega)]), (by rw [eM88_6, mu_ne (by omega), eM78_6, mu_ne (by omega), eM68_6, mu_ne (by omega), eM58_6, mu_ne (by omega), eM46_6, mu_s]; first | rw [if_pos (by omega)] | (rw [if_neg (by omega)]; exact ez38_3))⟩, ⟨(by rw [eM88_6, mu_ne (by omega), eM78_6, mu_ne (by omega), eM68_6, mu_ne (by omega), eM58_6, mu_s]; exact ez55_6), (by rw [eM88_6, mu_ne (by omega), eM78_6, mu_ne (by omega), eM68_6, mu_s]; exact ez65_6), (by rw [eM88_6, mu_ne (by omega), eM78_6, mu_s]; exact ez75_6), (by rw [eM88_6, mu_s]; exact ez85_6)⟩, fun u i a b => by rw [eM88_6, mu_ne (by omega), eM78_6, mu_ne (by omega), eM68_6, mu_ne (by omega), eM58_6, mu_ne (by omega), eM46_6, mu_ne (by omega), eM29_3, mu_ne (by omega)]⟩
      · refine V_iload_n (q := 24) dX5_keepAccount_23 rfl rfl rfl ?_
        refine V_goto (tgt := 29) dX5_keepAccount_24 (by decide) ?_
        refine V_putI (q := 32) 6 dX5_keepAccount_29 rfl flX5_24 (Or.inl rfl) (by omega) (congrArg Prod.fst (show _ = (6, 0) by rw [sW.1.1])) rfl rfl (fun M29_4 eM29_4 => ?_)
        refine V_aload_n (q := 33) dX5_keepAccount_32 rfl rfl rfl ?_
        refine V_iload_n (q := 34) dX5_keepAccount_33 rfl rfl rfl ?_
        refine V_if_eq (q := 37) (tgt := 44) dX5_keepAccount_34 (by decide) rfl (fun c34_4 => ?_) (fun c34_4 => ?_)
        · refine V_bipush (q := 46) dX5_keepAccount_44 rfl (by decide) ?_
          refine V_putI (q := 49) 7 dX5_keepAccount_46 rfl flX5_28 (Or.inl rfl) (by omega) (congrArg Prod.fst (show _ = (6, 0) by rw [sW.1.1])) rfl rfl (fun M46_7 eM46_7 => ?_)
          refine V_aload_n (q := 50) dX5_keepAccount_49 rfl rfl rfl ?_
          refine V_getA (q := 53) 8 dX5_keepAccount_50 rfl flX5_31 (by omega) (congrArg Prod.fst (show _ = (6, 0) by rw [sW.1.1])) rfl rfl (fun z50_7 ez50_7 rz50_7 => ?_)
          rw [eM46_7, mu_ne (by omega), eM29_4, mu_ne (by omega), sW.2.2.2.2.2] at ez50_7
          obtain rfl : z50_7 = (W + 5) := ez50_7
          refine V_iconst (q := 54) dX5_keepAccount_53 rfl (by decide) ?_
          refine V_aload_n (q := 55) dX5_keepAccount_54 rfl rfl rfl ?_
          refine V_getI (q := 58) 2 dX5_keepAccount_55 rfl flX5_55 (by decide) (congrArg Prod.fst (show _ = (4, 0) by rw [T.1.1])) rfl rfl (fun z55_7 ez55_7 rz55_7 => ?_)
          rw [eM46_7, mu_ne (by omega), eM29_4, mu_ne (by omega), T.2.1] at ez55_7
          refine V_iast (q := 59) (n := 4) dX5_keepAccount_58 rfl (by omega) (by rw [sW.1.2.2.2.2.2]) (by omega) (fun M58_7 eM58_7 => ?_)
          refine V_aload_n (q := 60) dX5_keepAccount_59 rfl rfl rfl ?_
          refine V_getA (q := 63) 8 dX5_keepAccount_60 rfl flX5_31 (by omega) (congrArg Prod.fst (show _ = (6, 0) by rw [sW.1.1])) rfl rfl (fun z60_7 ez60_7 rz60_7 => ?_)
          rw [eM58_7, mu_ne (by omega), eM46_7, mu_ne (by omega), eM29_4, mu_ne (by omega), sW.2.2.2.2.2] at ez60_7
          obtain rfl : z60_7 = (W + 5) := ez60_7
          refine V_iconst (q := 64) dX5_keepAccount_63 rfl (by decide) ?_
          refine V_aload_n (q := 65) dX5_keepAccount_64 rfl rfl rfl ?_
          refine V_getI (q := 68) 3 dX5_keepAccount_65 rfl flX5_58 (by decide) (congrArg Prod.fst (show _ = (4, 0) by rw [T.1.1])) rfl rfl (fun z65_7 ez65_7 rz65_7 => ?_)
          rw [eM58_7, mu_ne (by omega), eM46_7, mu_ne (by omega), eM29_4, mu_ne (by omega), T.2.2.1] at ez65_7
          refine V_iast (q := 69) (n := 4) dX5_keepAccount_68 rfl (by omega) (by rw [sW.1.2.2.2.2.2]) (by omega) (fun M68_7 eM68_7 => ?_)
          refine V_aload_n (q := 70) dX5_keepAccount_69 rfl rfl rfl ?_
          refine V_getA (q := 73) 8 dX5_keepAccount_70 rfl flX5_31 (by omega) (congrArg Prod.fst (show _ = (6, 0) by rw [sW.1.1])) rfl rfl (fun z70_7 ez70_7 rz70_7 => ?_)
          rw [eM68_7, mu_ne (by omega), eM58_7, mu_ne (by omega), eM46_7, mu_ne (by omega), eM29_4, mu_ne (by omega), sW.2.2.2.2.2] at ez70_7
          obtain rfl : z70_7 = (W + 5) := ez70_7
          refine V_iconst (q := 74) dX5_keepAccount_73 rfl (by decide) ?_
          refine V_aload_n (q := 75) dX5_keepAccount_74 rfl rfl rfl ?_
          refine V_getI (q := 78) 4 dX5_keepAccount_75 rfl flX5_61 (by decide) (congrArg Prod.fst (show _ = (4, 0) by rw [T.1.1])) rfl rfl (fun z75_7 ez75_7 rz75_7 => ?_)
          rw [eM68_7, mu_ne (by omega), eM58_7, mu_ne (by omega), eM46_7, mu_ne (by omega), eM29_4, mu_ne (by omega), T.2.2.2.1] at ez75_7
          refine V_iast (q := 79) (n := 4) dX5_keepAccount_78 rfl (by omega) (by rw [sW.1.2.2.2.2.2]) (by omega) (fun M78_7 eM78_7 => ?_)
          refine V_aload_n (q := 80) dX5_keepAccount_79 rfl rfl rfl ?_
          refine V_getA (q := 83) 8 dX5_keepAccount_80 rfl flX5_31 (by omega) (congrArg Prod.fst (show _ = (6, 0) by rw [sW.1.1])) rfl rfl (fun z80_7 ez80_7 rz80_7 => ?_)
          rw [eM78_7, mu_ne (by omega), eM68_7, mu_ne (by omega), eM58_7, mu_ne (by omega), eM46_7, mu_ne (by omega), eM29_4, mu_ne (by omega), sW.2.2.2.2.2] at ez80_7
          obtain rfl : z80_7 = (W + 5) := ez80_7
          refine V_iconst (q := 84) dX5_keepAccount_83 rfl (by decide) ?_
          refine V_aload_n (q := 85) dX5_keepAccount_84 rfl rfl rfl ?_
          refine V_getI (q := 88) 5 dX5_keepAccount_85 rfl flX5_64 (by decide) (congrArg Prod.fst (show _ = (4, 0) by rw [T.1.1])) rfl rfl (fun z85_7 ez85_7 rz85_7 => ?_)
          rw [eM78_7, mu_ne (by omega), eM68_7, mu_ne (by omega), eM58_7, mu_ne (by omega), eM46_7, mu_ne (by omega), eM29_4, mu_ne (by omega), T.2.2.2.2.1] at ez85_7
          refine V_iast (q := 89) (n := 4) dX5_keepAccount_88 rfl (by omega) (by rw [sW.1.2.2.2.2.2]) (by omega) (fun M88_7 eM88_7 => ?_)
          first
            | (exfalso; omega)
            | exact V_vret dX5_keepAccount_89 (Nat.le_of_ble_eq_true rfl) (Nat.le_of_ble_eq_true rfl) ⟨rfl, rfl, ⟨(by rw [eM88_7, mu_ne (by omega), eM78_7, mu_ne (by omega), eM68_7, mu_ne (by omega), eM58_7, mu_ne (by omega), eM46_7, mu_ne (by omega), eM29_4, mu_s]; first | rw [if_pos (by omega)] | rw [if_neg (by omega)]), (by rw [eM88_7, mu_ne (by omega), eM78_7, mu_ne (by omega), eM68_7, mu_ne (by omega), eM58_7, mu_ne (by omega), eM46_7, mu_s]; first | rw [if_pos (by omega)] | (rw [if_neg (by omega)]))⟩, ⟨(by rw [eM88_7, mu_ne (by omega), eM78_7, mu_ne (by omega), eM68_7, mu_ne (by omega), eM58_7, mu_s]; exact ez55_7), (by rw [eM88_7, mu_ne (by omega), eM78_7, mu_ne (by omega), eM68_7, mu_s]; exact ez65_7), (by rw [eM88_7, mu_ne (by omega), eM78_7, mu_s]; exact ez75_7), (by rw [eM88_7, mu_s]; exact ez85_7)⟩, fun u i a b => by rw [eM88_7, mu_ne (by omega), eM78_7, mu_ne (by omega), eM68_7, mu_ne (by omega), eM58_7, mu_ne (by omega), eM46_7, mu_ne (by omega), eM29_4, mu_ne (by omega)]⟩
        · refine V_aload_n (q := 38) dX5_keepAccount_37 rfl rfl rfl ?_
          refine V_getI (q := 41) 6 dX5_keepAccount_38 rfl flX5_52 (by decide) (congrArg Prod.fst (show _ = (4, 0) by rw [T.1.1])) rfl rfl (fun z38_4 ez38_4 rz38_4 => ?_)
          rw [eM29_4, mu_ne (by omega), T.2.2.2.2.2] at ez38_4
          refine V_goto (tgt := 46) dX5_keepAccount_41 (by decide) ?_
          refine V_putI (q := 49) 7 dX5_keepAccount_46 rfl flX5_28 (Or.inl rfl) (by omega) (congrArg Prod.fst (show _ = (6, 0) by rw [sW.1.1])) rfl rfl (fun M46_8 eM46_8 => ?_)
          refine V_aload_n (q := 50) dX5_keepAccount_49 rfl rfl rfl ?_
          refine V_getA (q := 53) 8 dX5_keepAccount_50 rfl flX5_31 (by omega) (congrArg Prod.fst (show _ = (6, 0) by rw [sW.1.1])) rfl rfl (fun z50_8 ez50_8 rz50_8 => ?_)
          rw [eM46_8, mu_ne (by omega), eM29_4, mu_ne (by omega), sW.2.2.2.2.2] at ez50_8
          obtain rfl : z50_8 = (W + 5) := ez50_8
          refine V_iconst (q := 54) dX5_keepAccount_53 rfl (by decide) ?_
          refine V_aload_n (q := 55) dX5_keepAccount_54 rfl rfl rfl ?_
          refine V_getI (q := 58) 2 dX5_keepAccount_55 rfl flX5_55 (by decide) (congrArg Prod.fst (show _ = (4, 0) by rw [T.1.1])) rfl rfl (fun z55_8 ez55_8 rz55_8 => ?_)
          rw [eM46_8, mu_ne (by omega), eM29_4, mu_ne (by omega), T.2.1] at ez55_8
          refine V_iast (q := 59) (n := 4) dX5_keepAccount_58 rfl (by omega) (by rw [sW.1.2.2.2.2.2]) (by omega) (fun M58_8 eM58_8 => ?_)
          refine V_aload_n (q := 60) dX5_keepAccount_59 rfl rfl rfl ?_
          refine V_getA (q := 63) 8 dX5_keepAccount_60 rfl flX5_31 (by omega) (congrArg Prod.fst (show _ = (6, 0) by rw [sW.1.1])) rfl rfl (fun z60_8 ez60_8 rz60_8 => ?_)
          rw [eM58_8, mu_ne (by omega), eM46_8, mu_ne (by omega), eM29_4, mu_ne (by omega), sW.2.2.2.2.2] at ez60_8
          obtain rfl : z60_8 = (W + 5) := ez60_8
          refine V_iconst (q := 64) dX5_keepAccount_63 rfl (by decide) ?_
          refine V_aload_n (q := 65) dX5_keepAccount_64 rfl rfl rfl ?_
          refine V_getI (q := 68) 3 dX5_keepAccount_65 rfl flX5_58 (by decide) (congrArg Prod.fst (show _ = (4, 0) by rw [T.1.1])) rfl rfl (fun z65_8 ez65_8 rz65_8 => ?_)
          rw [eM58_8, mu_ne (by omega), eM46_8, mu_ne (by omega), eM29_4, mu_ne (by omega), T.2.2.1] at ez65_8
          refine V_iast (q := 69) (n := 4) dX5_keepAccount_68 rfl (by omega) (by rw [sW.1.2.2.2.2.2]) (by omega) (fun M68_8 eM68_8 => ?_)
          refine V_aload_n (q := 70) dX5_keepAccount_69 rfl rfl rfl ?_
          refine V_getA (q := 73) 8 dX5_keepAccount_70 rfl flX5_31 (by omega) (congrArg Prod.fst (show _ = (6, 0) by rw [sW.1.1])) rfl rfl (fun z70_8 ez70_8 rz70_8 => ?_)
          rw [eM68_8, mu_ne (by omega), eM58_8, mu_ne (by omega), eM46_8, mu_ne (by omega), eM29_4, mu_ne (by omega), sW.2.2.2.2.2] at ez70_8
          obtain rfl : z70_8 = (W + 5) := ez70_8
          refine V_iconst (q := 74) dX5_keepAccount_73 rfl (by decide) ?_
          refine V_aload_n (q := 75) dX5_keepAccount_74 rfl rfl rfl ?_
          refine V_getI (q := 78) 4 dX5_keepAccount_75 rfl flX5_61 (by decide) (congrArg Prod.fst (show _ = (4, 0) by rw [T.1.1])) rfl rfl (fun z75_8 ez75_8 rz75_8 => ?_)
          rw [eM68_8, mu_ne (by omega), eM58_8, mu_ne (by omega), eM46_8, mu_ne (by omega), eM29_4, mu_ne (by omega), T.2.2.2.1] at ez75_8
          refine V_iast (q := 79) (n := 4) dX5_keepAccount_78 rfl (by omega) (by rw [sW.1.2.2.2.2.2]) (by omega) (fun M78_8 eM78_8 => ?_)
          refine V_aload_n (q := 80) dX5_keepAccount_79 rfl rfl rfl ?_
          refine V_getA (q := 83) 8 dX5_keepAccount_80 rfl flX5_31 (by omega) (congrArg Prod.fst (show _ = (6, 0) by rw [sW.1.1])) rfl rfl (fun z80_8 ez80_8 rz80_8 => ?_)
          rw [eM78_8, mu_ne (by omega), eM68_8, mu_ne (by omega), eM58_8, mu_ne (by omega), eM46_8, mu_ne (by omega), eM29_4, mu_ne (by omega), sW.2.2.2.2.2] at ez80_8
          obtain rfl : z80_8 = (W + 5) := ez80_8
          refine V_iconst (q := 84) dX5_keepAccount_83 rfl (by decide) ?_
          refine V_aload_n (q := 85) dX5_keepAccount_84 rfl rfl rfl ?_
          refine V_getI (q := 88) 5 dX5_keepAccount_85 rfl flX5_64 (by decide) (congrArg Prod.fst (show _ = (4, 0) by rw [T.1.1])) rfl rfl (fun z85_8 ez85_8 rz85_8 => ?_)
          rw [eM78_8, mu_ne (by omega), eM68_8, mu_ne (by omega), eM58_8, mu_ne (by omega), eM46_8, mu_ne (by omega), eM29_4, mu_ne (by omega), T.2.2.2.2.1] at ez85_8
          refine V_iast (q := 89) (n := 4) dX5_keepAccount_88 rfl (by omega) (by rw [sW.1.2.2.2.2.2]) (by omega) (fun M88_8 eM88_8 => ?_)
          first
            | (exfalso; omega)
            | exact V_vret dX5_keepAccount_89 (Nat.le_of_ble_eq_true rfl) (Nat.le_of_ble_eq_true rfl) ⟨rfl, rfl, ⟨(by rw [eM88_8, mu_ne (by omega), eM78_8, mu_ne (by omega), eM68_8, mu_ne (by omega), eM58_8, mu_ne (by omega), eM46_8, mu_ne (by omega), eM29_4, mu_s]; first | rw [if_pos (by omega)] | rw [if_neg (by omega)]), (by rw [eM88_8, mu_ne (by omega), eM78_8, mu_ne (by omega), eM68_8, mu_ne (by omega), eM58_8, mu_ne (by omega), eM46_8, mu_s]; first | rw [if_pos (by omega)] | (rw [if_neg (by omega)]; exact ez38_4))⟩, ⟨(by rw [eM88_8, mu_ne (by omega), eM78_8, mu_ne (by omega), eM68_8, mu_ne (by omega), eM58_8, mu_s]; exact ez55_8), (by rw [eM88_8, mu_ne (by omega), eM78_8, mu_ne (by omega), eM68_8, mu_s]; exact ez65_8), (by rw [eM88_8, mu_ne (by omega), eM78_8, mu_s]; exact ez75_8), (by rw [eM88_8, mu_s]; exact ez85_8)⟩, fun u i a b => by rw [eM88_8, mu_ne (by omega), eM78_8, mu_ne (by omega), eM68_8, mu_ne (by omega), eM58_8, mu_ne (by omega), eM46_8, mu_ne (by omega), eM29_4, mu_ne (by omega)]⟩
    · refine V_iconst (q := 13) dX5_keepAccount_12 rfl (by decide) ?_
      refine V_goto (tgt := 17) dX5_keepAccount_13 (by decide) ?_
      refine V_istore_n (q := 18) (lv1 := [(3, W), (3, 150), (0, f), (0, 1)]) dX5_keepAccount_17 rfl rfl (by decide) rfl rfl ?_
      refine V_aload_n (q := 19) dX5_keepAccount_18 rfl rfl rfl ?_
      refine V_iload_n (q := 20) dX5_keepAccount_19 rfl rfl rfl ?_
      refine V_if_eq (q := 23) (tgt := 27) dX5_keepAccount_20 (by decide) rfl (fun c20_3 => ?_) (fun c20_3 => ?_)
      · refine V_bipush (q := 29) dX5_keepAccount_27 rfl (by decide) ?_
        refine V_putI (q := 32) 6 dX5_keepAccount_29 rfl flX5_24 (Or.inl rfl) (by omega) (congrArg Prod.fst (show _ = (6, 0) by rw [sW.1.1])) rfl rfl (fun M29_5 eM29_5 => ?_)
        refine V_aload_n (q := 33) dX5_keepAccount_32 rfl rfl rfl ?_
        refine V_iload_n (q := 34) dX5_keepAccount_33 rfl rfl rfl ?_
        refine V_if_eq (q := 37) (tgt := 44) dX5_keepAccount_34 (by decide) rfl (fun c34_5 => ?_) (fun c34_5 => ?_)
        · refine V_bipush (q := 46) dX5_keepAccount_44 rfl (by decide) ?_
          refine V_putI (q := 49) 7 dX5_keepAccount_46 rfl flX5_28 (Or.inl rfl) (by omega) (congrArg Prod.fst (show _ = (6, 0) by rw [sW.1.1])) rfl rfl (fun M46_9 eM46_9 => ?_)
          refine V_aload_n (q := 50) dX5_keepAccount_49 rfl rfl rfl ?_
          refine V_getA (q := 53) 8 dX5_keepAccount_50 rfl flX5_31 (by omega) (congrArg Prod.fst (show _ = (6, 0) by rw [sW.1.1])) rfl rfl (fun z50_9 ez50_9 rz50_9 => ?_)
          rw [eM46_9, mu_ne (by omega), eM29_5, mu_ne (by omega), sW.2.2.2.2.2] at ez50_9
          obtain rfl : z50_9 = (W + 5) := ez50_9
          refine V_iconst (q := 54) dX5_keepAccount_53 rfl (by decide) ?_
          refine V_aload_n (q := 55) dX5_keepAccount_54 rfl rfl rfl ?_
          refine V_getI (q := 58) 2 dX5_keepAccount_55 rfl flX5_55 (by decide) (congrArg Prod.fst (show _ = (4, 0) by rw [T.1.1])) rfl rfl (fun z55_9 ez55_9 rz55_9 => ?_)
          rw [eM46_9, mu_ne (by omega), eM29_5, mu_ne (by omega), T.2.1] at ez55_9
          refine V_iast (q := 59) (n := 4) dX5_keepAccount_58 rfl (by omega) (by rw [sW.1.2.2.2.2.2]) (by omega) (fun M58_9 eM58_9 => ?_)
          refine V_aload_n (q := 60) dX5_keepAccount_59 rfl rfl rfl ?_
          refine V_getA (q := 63) 8 dX5_keepAccount_60 rfl flX5_31 (by omega) (congrArg Prod.fst (show _ = (6, 0) by rw [sW.1.1])) rfl rfl (fun z60_9 ez60_9 rz60_9 => ?_)
          rw [eM58_9, mu_ne (by omega), eM46_9, mu_ne (by omega), eM29_5, mu_ne (by omega), sW.2.2.2.2.2] at ez60_9
          obtain rfl : z60_9 = (W + 5) := ez60_9
          refine V_iconst (q := 64) dX5_keepAccount_63 rfl (by decide) ?_
          refine V_aload_n (q := 65) dX5_keepAccount_64 rfl rfl rfl ?_
          refine V_getI (q := 68) 3 dX5_keepAccount_65 rfl flX5_58 (by decide) (congrArg Prod.fst (show _ = (4, 0) by rw [T.1.1])) rfl rfl (fun z65_9 ez65_9 rz65_9 => ?_)
          rw [eM58_9, mu_ne (by omega), eM46_9, mu_ne (by omega), eM29_5, mu_ne (by omega), T.2.2.1] at ez65_9
          refine V_iast (q := 69) (n := 4) dX5_keepAccount_68 rfl (by omega) (by rw [sW.1.2.2.2.2.2]) (by omega) (fun M68_9 eM68_9 => ?_)
          refine V_aload_n (q := 70) dX5_keepAccount_69 rfl rfl rfl ?_
          refine V_getA (q := 73) 8 dX5_keepAccount_70 rfl flX5_31 (by omega) (congrArg Prod.fst (show _ = (6, 0) by rw [sW.1.1])) rfl rfl (fun z70_9 ez70_9 rz70_9 => ?_)
          rw [eM68_9, mu_ne (by omega), eM58_9, mu_ne (by omega), eM46_9, mu_ne (by omega), eM29_5, mu_ne (by omega), sW.2.2.2.2.2] at ez70_9
          obtain rfl : z70_9 = (W + 5) := ez70_9
          refine V_iconst (q := 74) dX5_keepAccount_73 rfl (by decide) ?_
          refine V_aload_n (q := 75) dX5_keepAccount_74 rfl rfl rfl ?_
          refine V_getI (q := 78) 4 dX5_keepAccount_75 rfl flX5_61 (by decide) (congrArg Prod.fst (show _ = (4, 0) by rw [T.1.1])) rfl rfl (fun z75_9 ez75_9 rz75_9 => ?_)
          rw [eM68_9, mu_ne (by omega), eM58_9, mu_ne (by omega), eM46_9, mu_ne (by omega), eM29_5, mu_ne (by omega), T.2.2.2.1] at ez75_9
          refine V_iast (q := 79) (n := 4) dX5_keepAccount_78 rfl (by omega) (by rw [sW.1.2.2.2.2.2]) (by omega) (fun M78_9 eM78_9 => ?_)
          refine V_aload_n (q := 80) dX5_keepAccount_79 rfl rfl rfl ?_
          refine V_getA (q := 83) 8 dX5_keepAccount_80 rfl flX5_31 (by omega) (congrArg Prod.fst (show _ = (6, 0) by rw [sW.1.1])) rfl rfl (fun z80_9 ez80_9 rz80_9 => ?_)
          rw [eM78_9, mu_ne (by omega), eM68_9, mu_ne (by omega), eM58_9, mu_ne (by omega), eM46_9, mu_ne (by omega), eM29_5, mu_ne (by omega), sW.2.2.2.2.2] at ez80_9
          obtain rfl : z80_9 = (W + 5) := ez80_9
          refine V_iconst (q := 84) dX5_keepAccount_83 rfl (by decide) ?_
          refine V_aload_n (q := 85) dX5_keepAccount_84 rfl rfl rfl ?_
          refine V_getI (q := 88) 5 dX5_keepAccount_85 rfl flX5_64 (by decide) (congrArg Prod.fst (show _ = (4, 0) by rw [T.1.1])) rfl rfl (fun z85_9 ez85_9 rz85_9 => ?_)
          rw [eM78_9, mu_ne (by omega), eM68_9, mu_ne (by omega), eM58_9, mu_ne (by omega), eM46_9, mu_ne (by omega), eM29_5, mu_ne (by omega), T.2.2.2.2.1] at ez85_9
          refine V_iast (q := 89) (n := 4) dX5_keepAccount_88 rfl (by omega) (by rw [sW.1.2.2.2.2.2]) (by omega) (fun M88_9 eM88_9 => ?_)
          first
            | (exfalso; omega)
            | exact V_vret dX5_keepAccount_89 (Nat.le_of_ble_eq_true rfl) (Nat.le_of_ble_eq_true rfl) ⟨rfl, rfl, ⟨(by rw [eM88_9, mu_ne (by omega), eM78_9, mu_ne (by omega), eM68_9, mu_ne (by omega), eM58_9, mu_ne (by omega), eM46_9, mu_ne (by omega), eM29_5, mu_s]; first | rw [if_pos (by omega)] | rw [if_neg (by omega)]), (by rw [eM88_9, mu_ne (by omega), eM78_9, mu_ne (by omega), eM68_9, mu_ne (by omega), eM58_9, mu_ne (by omega), eM46_9, mu_s]; first | rw [if_pos (by omega)] | (rw [if_neg (by omega)]))⟩, ⟨(by rw [eM88_9, mu_ne (by omega), eM78_9, mu_ne (by omega), eM68_9, mu_ne (by omega), eM58_9, mu_s]; exact ez55_9), (by rw [eM88_9, mu_ne (by omega), eM78_9, mu_ne (by omega), eM68_9, mu_s]; exact ez65_9), (by rw [eM88_9, mu_ne (by omega), eM78_9, mu_s]; exact ez75_9), (by rw [eM88_9, mu_s]; exact ez85_9)⟩, fun u i a b => by rw [eM88_9, mu_ne (by omega), eM78_9, mu_ne (by omega), eM68_9, mu_ne (by omega), eM58_9, mu_ne (by omega), eM46_9, mu_ne (by omega), eM29_5, mu_ne (by omega)]⟩
        · refine V_aload_n (q := 38) dX5_keepAccount_37 rfl rfl rfl ?_
          refine V_getI (q := 41) 6 dX5_keepAccount_38 rfl flX5_52 (by decide) (congrArg Prod.fst (show _ = (4, 0) by rw [T.1.1])) rfl rfl (fun z38_5 ez38_5 rz38_5 => ?_)
          rw [eM29_5, mu_ne (by omega), T.2.2.2.2.2] at ez38_5
          refine V_goto (tgt := 46) dX5_keepAccount_41 (by decide) ?_
          refine V_putI (q := 49) 7 dX5_keepAccount_46 rfl flX5_28 (Or.inl rfl) (by omega) (congrArg Prod.fst (show _ = (6, 0) by rw [sW.1.1])) rfl rfl (fun M46_10 eM46_10 => ?_)
          refine V_aload_n (q := 50) dX5_keepAccount_49 rfl rfl rfl ?_
          refine V_getA (q := 53) 8 dX5_keepAccount_50 rfl flX5_31 (by omega) (congrArg Prod.fst (show _ = (6, 0) by rw [sW.1.1])) rfl rfl (fun z50_10 ez50_10 rz50_10 => ?_)
          rw [eM46_10, mu_ne (by omega), eM29_5, mu_ne (by omega), sW.2.2.2.2.2] at ez50_10
          obtain rfl : z50_10 = (W + 5) := ez50_10
          refine V_iconst (q := 54) dX5_keepAccount_53 rfl (by decide) ?_
          refine V_aload_n (q := 55) dX5_keepAccount_54 rfl rfl rfl ?_
          refine V_getI (q := 58) 2 dX5_keepAccount_55 rfl flX5_55 (by decide) (congrArg Prod.fst (show _ = (4, 0) by rw [T.1.1])) rfl rfl (fun z55_10 ez55_10 rz55_10 => ?_)
          rw [eM46_10, mu_ne (by omega), eM29_5, mu_ne (by omega), T.2.1] at ez55_10
          refine V_iast (q := 59) (n := 4) dX5_keepAccount_58 rfl (by omega) (by rw [sW.1.2.2.2.2.2]) (by omega) (fun M58_10 eM58_10 => ?_)
          refine V_aload_n (q := 60) dX5_keepAccount_59 rfl rfl rfl ?_
          refine V_getA (q := 63) 8 dX5_keepAccount_60 rfl flX5_31 (by omega) (congrArg Prod.fst (show _ = (6, 0) by rw [sW.1.1])) rfl rfl (fun z60_10 ez60_10 rz60_10 => ?_)
          rw [eM58_10, mu_ne (by omega), eM46_10, mu_ne (by omega), eM29_5, mu_ne (by omega), sW.2.2.2.2.2] at ez60_10
          obtain rfl : z60_10 = (W + 5) := ez60_10
          refine V_iconst (q := 64) dX5_keepAccount_63 rfl (by decide) ?_
          refine V_aload_n (q := 65) dX5_keepAccount_64 rfl rfl rfl ?_
          refine V_getI (q := 68) 3 dX5_keepAccount_65 rfl flX5_58 (by decide) (congrArg Prod.fst (show _ = (4, 0) by rw [T.1.1])) rfl rfl (fun z65_10 ez65_10 rz65_10 => ?_)
          rw [eM58_10, mu_ne (by omega), eM46_10, mu_ne (by omega), eM29_5, mu_ne (by omega), T.2.2.1] at ez65_10
          refine V_iast (q := 69) (n := 4) dX5_keepAccount_68 rfl (by omega) (by rw [sW.1.2.2.2.2.2]) (by omega) (fun M68_10 eM68_10 => ?_)
          refine V_aload_n (q := 70) dX5_keepAccount_69 rfl rfl rfl ?_
          refine V_getA (q := 73) 8 dX5_keepAccount_70 rfl flX5_31 (by omega) (congrArg Prod.fst (show _ = (6, 0) by rw [sW.1.1])) rfl rfl (fun z70_10 ez70_10 rz70_10 => ?_)
          rw [eM68_10, mu_ne (by omega), eM58_10, mu_ne (by omega), eM46_10, mu_ne (by omega), eM29_5, mu_ne (by omega), sW.2.2.2.2.2] at ez70_10
          obtain rfl : z70_10 = (W + 5) := ez70_10
          refine V_iconst (q := 74) dX5_keepAccount_73 rfl (by decide) ?_
          refine V_aload_n (q := 75) dX5_keepAccount_74 rfl rfl rfl ?_
          refine V_getI (q := 78) 4 dX5_keepAccount_75 rfl flX5_61 (by decide) (congrArg Prod.fst (show _ = (4, 0) by rw [T.1.1])) rfl rfl (fun z75_10 ez75_10 rz75_10 => ?_)
          rw [eM68_10, mu_ne (by omega), eM58_10, mu_ne (by omega), eM46_10, mu_ne (by omega), eM29_5, mu_ne (by omega), T.2.2.2.1] at ez75_10
          refine V_iast (q := 79) (n := 4) dX5_keepAccount_78 rfl (by omega) (by rw [sW.1.2.2.2.2.2]) (by omega) (fun M78_10 eM78_10 => ?_)
          refine V_aload_n (q := 80) dX5_keepAccount_79 rfl rfl rfl ?_
          refine V_getA (q := 83) 8 dX5_keepAccount_80 rfl flX5_31 (by omega) (congrArg Prod.fst (show _ = (6, 0) by rw [sW.1.1])) rfl rfl (fun z80_10 ez80_10 rz80_10 => ?_)
          rw [eM78_10, mu_ne (by omega), eM68_10, mu_ne (by omega), eM58_10, mu_ne (by omega), eM46_10, mu_ne (by omega), eM29_5, mu_ne (by omega), sW.2.2.2.2.2] at ez80_10
          obtain rfl : z80_10 = (W + 5) := ez80_10
          refine V_iconst (q := 84) dX5_keepAccount_83 rfl (by decide) ?_
          refine V_aload_n (q := 85) dX5_keepAccount_84 rfl rfl rfl ?_
          refine V_getI (q := 88) 5 dX5_keepAccount_85 rfl flX5_64 (by decide) (congrArg Prod.fst (show _ = (4, 0) by rw [T.1.1])) rfl rfl (fun z85_10 ez85_10 rz85_10 => ?_)
          rw [eM78_10, mu_ne (by omega), eM68_10, mu_ne (by omega), eM58_10, mu_ne (by omega), eM46_10, mu_ne (by omega), eM29_5, mu_ne (by omega), T.2.2.2.2.1] at ez85_10
          refine V_iast (q := 89) (n := 4) dX5_keepAccount_88 rfl (by omega) (by rw [sW.1.2.2.2.2.2]) (by omega) (fun M88_10 eM88_10 => ?_)
          first
            | (exfalso; omega)
            | exact V_vret dX5_keepAccount_89 (Nat.le_of_ble_eq_true rfl) (Nat.le_of_ble_eq_true rfl) ⟨rfl, rfl, ⟨(by rw [eM88_10, mu_ne (by omega), eM78_10, mu_ne (by omega), eM68_10, mu_ne (by omega), eM58_10, mu_ne (by omega), eM46_10, mu_ne (by omega), eM29_5, mu_s]; first | rw [if_pos (by omega)] | rw [if_neg (by omega)]), (by rw [eM88_10, mu_ne (by omega), eM78_10, mu_ne (by omega), eM68_10, mu_ne (by omega), eM58_10, mu_ne (by omega), eM46_10, mu_s]; first | rw [if_pos (by omega)] | (rw [if_neg (by omega)]; exact ez38_5))⟩, ⟨(by rw [eM88_10, mu_ne (by omega), eM78_10, mu_ne (by omega), eM68_10, mu_ne (by omega), eM58_10, mu_s]; exact ez55_10), (by rw [eM88_10, mu_ne (by omega), eM78_10, mu_ne (by omega), eM68_10, mu_s]; exact ez65_10), (by rw [eM88_10, mu_ne (by omega), eM78_10, mu_s]; exact ez75_10), (by rw [eM88_10, mu_s]; exact ez85_10)⟩, fun u i a b => by rw [eM88_10, mu_ne (by omega), eM78_10, mu_ne (by omega), eM68_10, mu_ne (by omega), eM58_10, mu_ne (by omega), eM46_10, mu_ne (by omega), eM29_5, mu_ne (by omega)]⟩
      · refine V_iload_n (q := 24) dX5_keepAccount_23 rfl rfl rfl ?_
        refine V_goto (tgt := 29) dX5_keepAccount_24 (by decide) ?_
        refine V_putI (q := 32) 6 dX5_keepAccount_29 rfl flX5_24 (Or.inl rfl) (by omega) (congrArg Prod.fst (show _ = (6, 0) by rw [sW.1.1])) rfl rfl (fun M29_6 eM29_6 => ?_)
        refine V_aload_n (q := 33) dX5_keepAccount_32 rfl rfl rfl ?_
        refine V_iload_n (q := 34) dX5_keepAccount_33 rfl rfl rfl ?_
        refine V_if_eq (q := 37) (tgt := 44) dX5_keepAccount_34 (by decide) rfl (fun c34_6 => ?_) (fun c34_6 => ?_)
        · refine V_bipush (q := 46) dX5_keepAccount_44 rfl (by decide) ?_
          refine V_putI (q := 49) 7 dX5_keepAccount_46 rfl flX5_28 (Or.inl rfl) (by omega) (congrArg Prod.fst (show _ = (6, 0) by rw [sW.1.1])) rfl rfl (fun M46_11 eM46_11 => ?_)
          refine V_aload_n (q := 50) dX5_keepAccount_49 rfl rfl rfl ?_
          refine V_getA (q := 53) 8 dX5_keepAccount_50 rfl flX5_31 (by omega) (congrArg Prod.fst (show _ = (6, 0) by rw [sW.1.1])) rfl rfl (fun z50_11 ez50_11 rz50_11 => ?_)
          rw [eM46_11, mu_ne (by omega), eM29_6, mu_ne (by omega), sW.2.2.2.2.2] at ez50_11
          obtain rfl : z50_11 = (W + 5) := ez50_11
          refine V_iconst (q := 54) dX5_keepAccount_53 rfl (by decide) ?_
          refine V_aload_n (q := 55) dX5_keepAccount_54 rfl rfl rfl ?_
          refine V_getI (q := 58) 2 dX5_keepAccount_55 rfl flX5_55 (by decide) (congrArg Prod.fst (show _ = (4, 0) by rw [T.1.1])) rfl rfl (fun z55_11 ez55_11 rz55_11 => ?_)
          rw [eM46_11, mu_ne (by omega), eM29_6, mu_ne (by omega), T.2.1] at ez55_11
          refine V_iast (q := 59) (n := 4) dX5_keepAccount_58 rfl (by omega) (by rw [sW.1.2.2.2.2.2]) (by omega) (fun M58_11 eM58_11 => ?_)
          refine V_aload_n (q := 60) dX5_keepAccount_59 rfl rfl rfl ?_
          refine V_getA (q := 63) 8 dX5_keepAccount_60 rfl flX5_31 (by omega) (congrArg Prod.fst (show _ = (6, 0) by rw [sW.1.1])) rfl rfl (fun z60_11 ez60_11 rz60_11 => ?_)
          rw [eM58_11, mu_ne (by omega), eM46_11, mu_ne (by omega), eM29_6, mu_ne (by omega), sW.2.2.2.2.2] at ez60_11
          obtain rfl : z60_11 = (W + 5) := ez60_11
          refine V_iconst (q := 64) dX5_keepAccount_63 rfl (by decide) ?_
          refine V_aload_n (q := 65) dX5_keepAccount_64 rfl rfl rfl ?_
          refine V_getI (q := 68) 3 dX5_keepAccount_65 rfl flX5_58 (by decide) (congrArg Prod.fst (show _ = (4, 0) by rw [T.1.1])) rfl rfl (fun z65_11 ez65_11 rz65_11 => ?_)
          rw [eM58_11, mu_ne (by omega), eM46_11, mu_ne (by omega), eM29_6, mu_ne (by omega), T.2.2.1] at ez65_11
          refine V_iast (q := 69) (n := 4) dX5_keepAccount_68 rfl (by omega) (by rw [sW.1.2.2.2.2.2]) (by omega) (fun M68_11 eM68_11 => ?_)
          refine V_aload_n (q := 70) dX5_keepAccount_69 rfl rfl rfl ?_
          refine V_getA (q := 73) 8 dX5_keepAccount_70 rfl flX5_31 (by omega) (congrArg Prod.fst (show _ = (6, 0) by rw [sW.1.1])) rfl rfl (fun z70_11 ez70_11 rz70_11 => ?_)
          rw [eM68_11, mu_ne (by omega), eM58_11, mu_ne (by omega), eM46_11, mu_ne (by omega), eM29_6, mu_ne (by omega), sW.2.2.2.2.2] at ez70_11
          obtain rfl : z70_11 = (W + 5) := ez70_11
          refine V_iconst (q := 74) dX5_keepAccount_73 rfl (by decide) ?_
          refine V_aload_n (q := 75) dX5_keepAccount_74 rfl rfl rfl ?_
          refine V_getI (q := 78) 4 dX5_keepAccount_75 rfl flX5_61 (by decide) (congrArg Prod.fst (show _ = (4, 0) by rw [T.1.1])) rfl rfl (fun z75_11 ez75_11 rz75_11 => ?_)
          rw [eM68_11, mu_ne (by omega), eM58_11, mu_ne (by omega), eM46_11, mu_ne (by omega), eM29_6, mu_ne (by omega), T.2.2.2.1] at ez75_11
          refine V_iast (q := 79) (n := 4) dX5_keepAccount_78 rfl (by omega) (by rw [sW.1.2.2.2.2.2]) (by omega) (fun M78_11 eM78_11 => ?_)
          refine V_aload_n (q := 80) dX5_keepAccount_79 rfl rfl rfl ?_
          refine V_getA (q := 83) 8 dX5_keepAccount_80 rfl flX5_31 (by omega) (congrArg Prod.fst (show _ = (6, 0) by rw [sW.1.1])) rfl rfl (fun z80_11 ez80_11 rz80_11 => ?_)
          rw [eM78_11, mu_ne (by omega), eM68_11, mu_ne (by omega), eM58_11, mu_ne (by omega), eM46_11, mu_ne (by omega), eM29_6, mu_ne (by omega), sW.2.2.2.2.2] at ez80_11
          obtain rfl : z80_11 = (W + 5) := ez80_11
          refine V_iconst (q := 84) dX5_keepAccount_83 rfl (by decide) ?_
          refine V_aload_n (q := 85) dX5_keepAccount_84 rfl rfl rfl ?_
          refine V_getI (q := 88) 5 dX5_keepAccount_85 rfl flX5_64 (by decide) (congrArg Prod.fst (show _ = (4, 0) by rw [T.1.1])) rfl rfl (fun z85_11 ez85_11 rz85_11 => ?_)
          rw [eM78_11, mu_ne (by omega), eM68_11, mu_ne (by omega), eM58_11, mu_ne (by omega), eM46_11, mu_ne (by omega), eM29_6, mu_ne (by omega), T.2.2.2.2.1] at ez85_11
          refine V_iast (q := 89) (n := 4) dX5_keepAccount_88 rfl (by omega) (by rw [sW.1.2.2.2.2.2]) (by omega) (fun M88_11 eM88_11 => ?_)
          first
            | (exfalso; omega)
            | exact V_vret dX5_keepAccount_89 (Nat.le_of_ble_eq_true rfl) (Nat.le_of_ble_eq_true rfl) ⟨rfl, rfl, ⟨(by rw [eM88_11, mu_ne (by omega), eM78_11, mu_ne (by omega), eM68_11, mu_ne (by omega), eM58_11, mu_ne (by omega), eM46_11, mu_ne (by omega), eM29_6, mu_s]; first | rw [if_pos (by omega)] | rw [if_neg (by omega)]), (by rw [eM88_11, mu_ne (by omega), eM78_11, mu_ne (by omega), eM68_11, mu_ne (by omega), eM58_11, mu_ne (by omega), eM46_11, mu_s]; first | rw [if_pos (by omega)] | (rw [if_neg (by omega)]))⟩, ⟨(by rw [eM88_11, mu_ne (by omega), eM78_11, mu_ne (by omega), eM68_11, mu_ne (by omega), eM58_11, mu_s]; exact ez55_11), (by rw [eM88_11, mu_ne (by omega), eM78_11, mu_ne (by omega), eM68_11, mu_s]; exact ez65_11), (by rw [eM88_11, mu_ne (by omega), eM78_11, mu_s]; exact ez75_11), (by rw [eM88_11, mu_s]; exact ez85_11)⟩, fun u i a b => by rw [eM88_11, mu_ne (by omega), eM78_11, mu_ne (by omega), eM68_11, mu_ne (by omega), eM58_11, mu_ne (by omega), eM46_11, mu_ne (by omega), eM29_6, mu_ne (by omega)]⟩
        · refine V_aload_n (q := 38) dX5_keepAccount_37 rfl rfl rfl ?_
          refine V_getI (q := 41) 6 dX5_keepAccount_38 rfl flX5_52 (by decide) (congrArg Prod.fst (show _ = (4, 0) by rw [T.1.1])) rfl rfl (fun z38_6 ez38_6 rz38_6 => ?_)
          rw [eM29_6, mu_ne (by omega), T.2.2.2.2.2] at ez38_6
          refine V_goto (tgt := 46) dX5_keepAccount_41 (by decide) ?_
          refine V_putI (q := 49) 7 dX5_keepAccount_46 rfl flX5_28 (Or.inl rfl) (by omega) (congrArg Prod.fst (show _ = (6, 0) by rw [sW.1.1])) rfl rfl (fun M46_12 eM46_12 => ?_)
          refine V_aload_n (q := 50) dX5_keepAccount_49 rfl rfl rfl ?_
          refine V_getA (q := 53) 8 dX5_keepAccount_50 rfl flX5_31 (by omega) (congrArg Prod.fst (show _ = (6, 0) by rw [sW.1.1])) rfl rfl (fun z50_12 ez50_12 rz50_12 => ?_)
          rw [eM46_12, mu_ne (by omega), eM29_6, mu_ne (by omega), sW.2.2.2.2.2] at ez50_12
          obtain rfl : z50_12 = (W + 5) := ez50_12
          refine V_iconst (q := 54) dX5_keepAccount_53 rfl (by decide) ?_
          refine V_aload_n (q := 55) dX5_keepAccount_54 rfl rfl rfl ?_
          refine V_getI (q := 58) 2 dX5_keepAccount_55 rfl flX5_55 (by decide) (congrArg Prod.fst (show _ = (4, 0) by rw [T.1.1])) rfl rfl (fun z55_12 ez55_12 rz55_12 => ?_)
          rw [eM46_12, mu_ne (by omega), eM29_6, mu_ne (by omega), T.2.1] at ez55_12
          refine V_iast (q := 59) (n := 4) dX5_keepAccount_58 rfl (by omega) (by rw [sW.1.2.2.2.2.2]) (by omega) (fun M58_12 eM58_12 => ?_)
          refine V_aload_n (q := 60) dX5_keepAccount_59 rfl rfl rfl ?_
          refine V_getA (q := 63) 8 dX5_keepAccount_60 rfl flX5_31 (by omega) (congrArg Prod.fst (show _ = (6, 0) by rw [sW.1.1])) rfl rfl (fun z60_12 ez60_12 rz60_12 => ?_)
          rw [eM58_12, mu_ne (by omega), eM46_12, mu_ne (by omega), eM29_6, mu_ne (by omega), sW.2.2.2.2.2] at ez60_12
          obtain rfl : z60_12 = (W + 5) := ez60_12
          refine V_iconst (q := 64) dX5_keepAccount_63 rfl (by decide) ?_
          refine V_aload_n (q := 65) dX5_keepAccount_64 rfl rfl rfl ?_
          refine V_getI (q := 68) 3 dX5_keepAccount_65 rfl flX5_58 (by decide) (congrArg Prod.fst (show _ = (4, 0) by rw [T.1.1])) rfl rfl (fun z65_12 ez65_12 rz65_12 => ?_)
          rw [eM58_12, mu_ne (by omega), eM46_12, mu_ne (by omega), eM29_6, mu_ne (by omega), T.2.2.1] at ez65_12
          refine V_iast (q := 69) (n := 4) dX5_keepAccount_68 rfl (by omega) (by rw [sW.1.2.2.2.2.2]) (by omega) (fun M68_12 eM68_12 => ?_)
          refine V_aload_n (q := 70) dX5_keepAccount_69 rfl rfl rfl ?_
          refine V_getA (q := 73) 8 dX5_keepAccount_70 rfl flX5_31 (by omega) (congrArg Prod.fst (show _ = (6, 0) by rw [sW.1.1])) rfl rfl (fun z70_12 ez70_12 rz70_12 => ?_)
          rw [eM68_12, mu_ne (by omega), eM58_12, mu_ne (by omega), eM46_12, mu_ne (by omega), eM29_6, mu_ne (by omega), sW.2.2.2.2.2] at ez70_12
          obtain rfl : z70_12 = (W + 5) := ez70_12
          refine V_iconst (q := 74) dX5_keepAccount_73 rfl (by decide) ?_
          refine V_aload_n (q := 75) dX5_keepAccount_74 rfl rfl rfl ?_
          refine V_getI (q := 78) 4 dX5_keepAccount_75 rfl flX5_61 (by decide) (congrArg Prod.fst (show _ = (4, 0) by rw [T.1.1])) rfl rfl (fun z75_12 ez75_12 rz75_12 => ?_)
          rw [eM68_12, mu_ne (by omega), eM58_12, mu_ne (by omega), eM46_12, mu_ne (by omega), eM29_6, mu_ne (by omega), T.2.2.2.1] at ez75_12
          refine V_iast (q := 79) (n := 4) dX5_keepAccount_78 rfl (by omega) (by rw [sW.1.2.2.2.2.2]) (by omega) (fun M78_12 eM78_12 => ?_)
          refine V_aload_n (q := 80) dX5_keepAccount_79 rfl rfl rfl ?_
          refine V_getA (q := 83) 8 dX5_keepAccount_80 rfl flX5_31 (by omega) (congrArg Prod.fst (show _ = (6, 0) by rw [sW.1.1])) rfl rfl (fun z80_12 ez80_12 rz80_12 => ?_)
          rw [eM78_12, mu_ne (by omega), eM68_12, mu_ne (by omega), eM58_12, mu_ne (by omega), eM46_12, mu_ne (by omega), eM29_6, mu_ne (by omega), sW.2.2.2.2.2] at ez80_12
          obtain rfl : z80_12 = (W + 5) := ez80_12
          refine V_iconst (q := 84) dX5_keepAccount_83 rfl (by decide) ?_
          refine V_aload_n (q := 85) dX5_keepAccount_84 rfl rfl rfl ?_
          refine V_getI (q := 88) 5 dX5_keepAccount_85 rfl flX5_64 (by decide) (congrArg Prod.fst (show _ = (4, 0) by rw [T.1.1])) rfl rfl (fun z85_12 ez85_12 rz85_12 => ?_)
          rw [eM78_12, mu_ne (by omega), eM68_12, mu_ne (by omega), eM58_12, mu_ne (by omega), eM46_12, mu_ne (by omega), eM29_6, mu_ne (by omega), T.2.2.2.2.1] at ez85_12
          refine V_iast (q := 89) (n := 4) dX5_keepAccount_88 rfl (by omega) (by rw [sW.1.2.2.2.2.2]) (by omega) (fun M88_12 eM88_12 => ?_)
          first
            | (exfalso; omega)
            | exact V_vret dX5_keepAccount_89 (Nat.le_of_ble_eq_true rfl) (Nat.le_of_ble_eq_true rfl) ⟨rfl, rfl, ⟨(by rw [eM88_12, mu_ne (by omega), eM78_12, mu_ne (by omega), eM68_12, mu_ne (by omega), eM58_12, mu_ne (by omega), eM46_12, mu_ne (by omega), eM29_6, mu_s]; first | rw [if_pos (by omega)] | rw [if_neg (by omega)]), (by rw [eM88_12, mu_ne (by omega), eM78_12, mu_ne (by omega), eM68_12, mu_ne (by omega), eM58_12, mu_ne (by omega), eM46_12, mu_s]; first | rw [if_pos (by omega)] | (rw [if_neg (by omega)]; exact ez38_6))⟩, ⟨(by rw [eM88_12, mu_ne (by omega), eM78_12, mu_ne (by omega), eM68_12, mu_ne (by omega), eM58_12, mu_s]; exact ez55_12), (by rw [eM88_12, mu_ne (by omega), eM78_12, mu_ne (by omega), eM68_12, mu_s]; exact ez65_12), (by rw [eM88_12, mu_ne (by omega), eM78_12, mu_s]; exact ez75_12), (by rw [eM88_12, mu_s]; exact ez85_12)⟩, fun u i a b => by rw [eM88_12, mu_ne (by omega), eM78_12, mu_ne (by omega), eM68_12, mu_ne (by omega), eM58_12, mu_ne (by omega), eM46_12, mu_ne (by omega), eM29_6, mu_ne (by omega)]⟩
