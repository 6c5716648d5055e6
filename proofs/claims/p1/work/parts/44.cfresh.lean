/-! THE CLASS: the first call on a new bench -/
/-- a new bench, nothing else from 100 on -/
def FrN (α : Sh) (μ : Mem) : Prop := SbN α μ ∧ ∀ t, 1000 ≤ t → (α t).1 = 0
/-- what lies below 100 is the same -/
def Lo (α : Sh) (μ : Mem) (α1 : Sh) (μ1 : Mem) : Prop := ∀ t, t < 100 → α1 t = α t ∧ μ1 t = μ t
theorem Lo.rf {α : Sh} {μ : Mem} : Lo α μ α μ := fun _ _ => ⟨rfl, rfl⟩
theorem fX6_refusalOfMember {Γ : GC} {α : Sh} {μ : Mem} {x n : Int} (N : FrN α μ) : MT Γ yX6_refusalOfMember cX6_refusalOfMember 3 (some .int) 1 0 0 [(3, 100), (0, x), (0, n)] α μ (QI fun r α1 μ1 => α1 = α ∧ μ1 = μ ∧ r = -1) := by
  obtain ⟨⟨⟨⟨a100, a101⟩, m1000, m1001, m1003⟩, m1002, ⟨⟨⟨a110, a111, a112, a113, a114⟩, m1100, m1102, m1103, m1106⟩, ⟨m1101, m1104, m1105⟩, -⟩, -⟩, hf⟩ := id N
  refine MT_of (k := 0) [(3, 100), (0, x), (0, n)] pn_X6_refusalOfMember rfl rfl (fun ad0 => ?_)
  refine V_aload_n (q := 1) dX6_refusalOfMember_0 rfl rfl rfl ?_
  refine V_getA (q := 4) 0 dX6_refusalOfMember_1 rfl flX6_10 (by decide) (congrArg Prod.fst (show _ = (7, 0) by rw [a100])) rfl rfl (fun z1 ez1 rz1 => ?_)
  rw [m1000] at ez1
  obtain rfl : z1 = 110 := ez1
  refine V_iload_n (q := 5) dX6_refusalOfMember_4 rfl rfl rfl ?_
  refine V_rdV (q := 8) (As := [(0, x)]) (tX2_knows a110) dX6_refusalOfMember_5 rfl mlX6_31 mw_X2_knows im_X2_knows sl_X2_knows md_X2_knows rfl (by decide) (by decide) (congrArg Prod.fst (show _ = (3, 0) by rw [a110])) rfl rfl (by decide) (by decide) (Nat.le_of_ble_eq_true rfl) (Nat.le_of_ble_eq_true rfl) (Nat.le_of_ble_eq_true rfl) (fun z5 rz5 hz5 => ?_)
  obtain ⟨bz5, hz5⟩ := hz5
  rw [m1101] at hz5
  refine V_if_ne (q := 11) (tgt := 13) dX6_refusalOfMember_8 (by decide) rfl (fun c8 => ?_) (fun c8 => ?_)
  · refine V_iload_n (q := 14) dX6_refusalOfMember_13 rfl rfl rfl ?_
    refine V_rdS (q := 17) (As := [(0, n)]) (tX6_isName ) dX6_refusalOfMember_14 rfl mlX6_102 mw_X6_isName sm_X6_isName md_X6_isName rfl rfl (by decide) (by decide) (Nat.le_of_ble_eq_true rfl) (Nat.le_of_ble_eq_true rfl) (Nat.le_of_ble_eq_true rfl) (fun z14 rz14 hz14 => ?_)
    obtain ⟨bz14, hz14⟩ := hz14
    refine V_if_ne (q := 20) (tgt := 23) dX6_refusalOfMember_17 (by decide) rfl (fun c17 => ?_) (fun c17 => ?_)
    · refine V_aload_n (q := 24) dX6_refusalOfMember_23 rfl rfl rfl ?_
      refine V_getI (q := 27) 2 dX6_refusalOfMember_24 rfl flX6_22 (by decide) (congrArg Prod.fst (show _ = (7, 0) by rw [a100])) rfl rfl (fun z24 ez24 rz24 => ?_)
      rw [m1002] at ez24
      obtain rfl : z24 = 0 := ez24
      refine V_if_le (q := 30) (tgt := 35) dX6_refusalOfMember_27 (by decide) rfl (fun c27 => ?_) (fun c27 => ?_)
      · refine V_iconst (q := 36) dX6_refusalOfMember_35 rfl (by decide) ?_
        first | (exfalso; omega) | exact V_iret dX6_refusalOfMember_36 (Nat.le_of_ble_eq_true rfl) (Nat.le_of_ble_eq_true rfl) ⟨_, rfl, rfl, rfl, by first | omega | (repeat' (first | rw [if_pos (by omega)] | rw [if_neg (by omega)])) <;> omega | rfl⟩
      · refine V_bipush (q := 32) dX6_refusalOfMember_30 rfl (by decide) ?_
        refine V_goto (tgt := 36) dX6_refusalOfMember_32 (by decide) ?_
        first | (exfalso; omega) | exact V_iret dX6_refusalOfMember_36 (Nat.le_of_ble_eq_true rfl) (Nat.le_of_ble_eq_true rfl) ⟨_, rfl, rfl, rfl, by first | omega | (repeat' (first | rw [if_pos (by omega)] | rw [if_neg (by omega)])) <;> omega | rfl⟩
    · refine V_bipush (q := 22) dX6_refusalOfMember_20 rfl (by decide) ?_
      first | (exfalso; omega) | exact V_iret dX6_refusalOfMember_22 (Nat.le_of_ble_eq_true rfl) (Nat.le_of_ble_eq_true rfl) ⟨_, rfl, rfl, rfl, by first | omega | (repeat' (first | rw [if_pos (by omega)] | rw [if_neg (by omega)])) <;> omega | rfl⟩
  · refine V_iconst (q := 12) dX6_refusalOfMember_11 rfl (by decide) ?_
    first | (exfalso; omega) | exact V_iret dX6_refusalOfMember_12 (Nat.le_of_ble_eq_true rfl) (Nat.le_of_ble_eq_true rfl) ⟨_, rfl, rfl, rfl, by first | omega | (repeat' (first | rw [if_pos (by omega)] | rw [if_neg (by omega)])) <;> omega | rfl⟩
theorem fX6_refusalOfTouch {Γ : GC} {α : Sh} {μ : Mem} {w k t n : Int} (N : FrN α μ) : MT Γ yX6_refusalOfTouch cX6_refusalOfTouch 5 (some .int) 1 0 0 [(3, 100), (0, w), (0, k), (0, t), (0, n)] α μ (QI fun r α1 μ1 => α1 = α ∧ μ1 = μ ∧ r = -1) := by
  obtain ⟨⟨⟨⟨a100, a101⟩, m1000, m1001, m1003⟩, m1002, ⟨⟨⟨a110, a111, a112, a113, a114⟩, m1100, m1102, m1103, m1106⟩, ⟨m1101, m1104, m1105⟩, -⟩, -⟩, hf⟩ := id N
  refine MT_of (k := 0) [(3, 100), (0, w), (0, k), (0, t), (0, n)] pn_X6_refusalOfTouch rfl rfl (fun ad0 => ?_)
  refine V_aload_n (q := 1) dX6_refusalOfTouch_0 rfl rfl rfl ?_
  refine V_iload_n (q := 2) dX6_refusalOfTouch_1 rfl rfl rfl ?_
  refine V_rdV (q := 5) (As := [(0, w)]) (tX6_isWorld a100) dX6_refusalOfTouch_2 rfl mlX6_182 mw_X6_isWorld im_X6_isWorld sl_X6_isWorld md_X6_isWorld rfl (by decide) (by decide) (congrArg Prod.fst (show _ = (7, 0) by rw [a100])) rfl rfl (by decide) (by decide) (Nat.le_of_ble_eq_true rfl) (Nat.le_of_ble_eq_true rfl) (Nat.le_of_ble_eq_true rfl) (fun z2 rz2 hz2 => ?_)
  obtain ⟨bz2, hz2⟩ := hz2
  rw [m1002] at hz2
  refine V_if_eq (q := 8) (tgt := 19) dX6_refusalOfTouch_5 (by decide) rfl (fun c5 => ?_) (fun c5 => ?_)
  · refine V_iconst (q := 20) dX6_refusalOfTouch_19 rfl (by decide) ?_
    first | (exfalso; omega) | exact V_iret dX6_refusalOfTouch_20 (Nat.le_of_ble_eq_true rfl) (Nat.le_of_ble_eq_true rfl) ⟨_, rfl, rfl, rfl, by first | omega | (repeat' (first | rw [if_pos (by omega)] | rw [if_neg (by omega)])) <;> omega | rfl⟩
  · refine V_aload_n (q := 9) dX6_refusalOfTouch_8 rfl rfl rfl ?_
    refine V_getA (q := 12) 0 dX6_refusalOfTouch_9 rfl flX6_10 (by decide) (congrArg Prod.fst (show _ = (7, 0) by rw [a100])) rfl rfl (fun z9 ez9 rz9 => ?_)
    rw [m1000] at ez9
    obtain rfl : z9 = 110 := ez9
    refine V_iload_n (q := 13) dX6_refusalOfTouch_12 rfl rfl rfl ?_
    refine V_rdV (q := 16) (As := [(0, t)]) (tX2_knows a110) dX6_refusalOfTouch_13 rfl mlX6_31 mw_X2_knows im_X2_knows sl_X2_knows md_X2_knows rfl (by decide) (by decide) (congrArg Prod.fst (show _ = (3, 0) by rw [a110])) rfl rfl (by decide) (by decide) (Nat.le_of_ble_eq_true rfl) (Nat.le_of_ble_eq_true rfl) (Nat.le_of_ble_eq_true rfl) (fun z13 rz13 hz13 => ?_)
    obtain ⟨bz13, hz13⟩ := hz13
    rw [m1101] at hz13
    refine V_if_ne (q := 19) (tgt := 21) dX6_refusalOfTouch_16 (by decide) rfl (fun c16 => ?_) (fun c16 => ?_)
    · refine V_iload_n (q := 22) dX6_refusalOfTouch_21 rfl rfl rfl ?_
      refine V_iconst (q := 23) dX6_refusalOfTouch_22 rfl (by decide) ?_
      refine V_icmp_lt (q := 26) (tgt := 47) dX6_refusalOfTouch_23 (by decide) rfl (fun c23 => ?_) (fun c23 => ?_)
      · refine V_bipush (q := 49) dX6_refusalOfTouch_47 rfl (by decide) ?_
        first | (exfalso; omega) | exact V_iret dX6_refusalOfTouch_49 (Nat.le_of_ble_eq_true rfl) (Nat.le_of_ble_eq_true rfl) ⟨_, rfl, rfl, rfl, by first | omega | (repeat' (first | rw [if_pos (by omega)] | rw [if_neg (by omega)])) <;> omega | rfl⟩
      · refine V_iload_n (q := 27) dX6_refusalOfTouch_26 rfl rfl rfl ?_
        refine V_bipush (q := 29) dX6_refusalOfTouch_27 rfl (by decide) ?_
        refine V_icmp_gt (q := 32) (tgt := 47) dX6_refusalOfTouch_29 (by decide) rfl (fun c29 => ?_) (fun c29 => ?_)
        · refine V_bipush (q := 49) dX6_refusalOfTouch_47 rfl (by decide) ?_
          first | (exfalso; omega) | exact V_iret dX6_refusalOfTouch_49 (Nat.le_of_ble_eq_true rfl) (Nat.le_of_ble_eq_true rfl) ⟨_, rfl, rfl, rfl, by first | omega | (repeat' (first | rw [if_pos (by omega)] | rw [if_neg (by omega)])) <;> omega | rfl⟩
        · refine V_iload_n (q := 33) dX6_refusalOfTouch_32 rfl rfl rfl ?_
          refine V_rdS (q := 36) (As := [(0, k)]) (tX6_usesName ) dX6_refusalOfTouch_33 rfl mlX6_108 mw_X6_usesName sm_X6_usesName md_X6_usesName rfl rfl (by decide) (by decide) (Nat.le_of_ble_eq_true rfl) (Nat.le_of_ble_eq_true rfl) (Nat.le_of_ble_eq_true rfl) (fun z33 rz33 hz33 => ?_)
          obtain ⟨bz33, hz33⟩ := hz33
          refine V_if_eq (q := 39) (tgt := 50) dX6_refusalOfTouch_36 (by decide) rfl (fun c36 => ?_) (fun c36 => ?_)
          · refine V_iconst (q := 51) dX6_refusalOfTouch_50 rfl (by decide) ?_
            first | (exfalso; omega) | exact V_iret dX6_refusalOfTouch_51 (Nat.le_of_ble_eq_true rfl) (Nat.le_of_ble_eq_true rfl) ⟨_, rfl, rfl, rfl, by first | omega | (repeat' (first | rw [if_pos (by omega)] | rw [if_neg (by omega)])) <;> omega | rfl⟩
          · refine V_iload (q := 41) dX6_refusalOfTouch_39 rfl rfl ?_
            refine V_rdS (q := 44) (As := [(0, n)]) (tX6_isName ) dX6_refusalOfTouch_41 rfl mlX6_102 mw_X6_isName sm_X6_isName md_X6_isName rfl rfl (by decide) (by decide) (Nat.le_of_ble_eq_true rfl) (Nat.le_of_ble_eq_true rfl) (Nat.le_of_ble_eq_true rfl) (fun z41 rz41 hz41 => ?_)
            obtain ⟨bz41, hz41⟩ := hz41
            refine V_if_ne (q := 47) (tgt := 50) dX6_refusalOfTouch_44 (by decide) rfl (fun c44 => ?_) (fun c44 => ?_)
            · refine V_iconst (q := 51) dX6_refusalOfTouch_50 rfl (by decide) ?_
              first | (exfalso; omega) | exact V_iret dX6_refusalOfTouch_51 (Nat.le_of_ble_eq_true rfl) (Nat.le_of_ble_eq_true rfl) ⟨_, rfl, rfl, rfl, by first | omega | (repeat' (first | rw [if_pos (by omega)] | rw [if_neg (by omega)])) <;> omega | rfl⟩
            · refine V_bipush (q := 49) dX6_refusalOfTouch_47 rfl (by decide) ?_
              first | (exfalso; omega) | exact V_iret dX6_refusalOfTouch_49 (Nat.le_of_ble_eq_true rfl) (Nat.le_of_ble_eq_true rfl) ⟨_, rfl, rfl, rfl, by first | omega | (repeat' (first | rw [if_pos (by omega)] | rw [if_neg (by omega)])) <;> omega | rfl⟩
    · refine V_iconst (q := 20) dX6_refusalOfTouch_19 rfl (by decide) ?_
      first | (exfalso; omega) | exact V_iret dX6_refusalOfTouch_20 (Nat.le_of_ble_eq_true rfl) (Nat.le_of_ble_eq_true rfl) ⟨_, rfl, rfl, rfl, by first | omega | (repeat' (first | rw [if_pos (by omega)] | rw [if_neg (by omega)])) <;> omega | rfl⟩
theorem fX2_inRound {Γ : GC} {α : Sh} {μ : Mem} {i : Int} (N : FrN α μ) : MT Γ yX2_inRound cX2_inRound 4 (some .int) 0 0 0 [(3, 110), (0, i)] α μ (QI fun r α1 μ1 => α1 = α ∧ μ1 = μ ∧ r = -6) := by
  obtain ⟨⟨⟨⟨a100, a101⟩, m1000, m1001, m1003⟩, m1002, ⟨⟨⟨a110, a111, a112, a113, a114⟩, m1100, m1102, m1103, m1106⟩, ⟨m1101, m1104, m1105⟩, -⟩, -⟩, hf⟩ := id N
  refine MT_of (k := 2) [(3, 110), (0, i), (9, 0), (9, 0)] pn_X2_inRound rfl rfl (fun ad0 => ?_)
  refine V_iconst (q := 1) dX2_inRound_0 rfl (by decide) ?_
  refine V_istore_n (q := 2) (lv1 := [(3, 110), (0, i), (0, 0), (9, 0)]) dX2_inRound_1 rfl rfl (by decide) rfl rfl ?_
  refine V_iload_n (q := 3) dX2_inRound_2 rfl rfl rfl ?_
  refine V_aload_n (q := 4) dX2_inRound_3 rfl rfl rfl ?_
  refine V_getI (q := 7) 1 dX2_inRound_4 rfl flX2_34 (by decide) (congrArg Prod.fst (show _ = (3, 0) by rw [a110])) rfl rfl (fun z4 ez4 rz4 => ?_)
  rw [m1101] at ez4
  obtain rfl : z4 = 0 := ez4
  refine V_icmp_ge (q := 10) (tgt := 39) dX2_inRound_7 (by decide) rfl (fun c7 => ?_) (fun c7 => ?_)
  · refine V_iconst (q := 40) dX2_inRound_39 rfl (by decide) ?_
    refine V_istore_n (q := 41) (lv1 := [(3, 110), (0, i), (0, 0), (9, 0)]) dX2_inRound_40 rfl rfl (by decide) rfl rfl ?_
    refine V_iload_n (q := 42) dX2_inRound_41 rfl rfl rfl ?_
    refine V_aload_n (q := 43) dX2_inRound_42 rfl rfl rfl ?_
    refine V_getI (q := 46) 1 dX2_inRound_43 rfl flX2_34 (by decide) (congrArg Prod.fst (show _ = (3, 0) by rw [a110])) rfl rfl (fun z43 ez43 rz43 => ?_)
    rw [m1101] at ez43
    obtain rfl : z43 = 0 := ez43
    refine V_icmp_ge (q := 49) (tgt := 101) dX2_inRound_46 (by decide) rfl (fun c46 => ?_) (fun c46 => ?_)
    · refine V_iconst (q := 102) dX2_inRound_101 rfl (by decide) ?_
      refine V_istore_n (q := 103) (lv1 := [(3, 110), (0, i), (0, 0), (9, 0)]) dX2_inRound_102 rfl rfl (by decide) rfl rfl ?_
      refine V_iconst (q := 104) dX2_inRound_103 rfl (by decide) ?_
      refine V_istore_n (q := 105) (lv1 := [(3, 110), (0, i), (0, 0), (0, 0)]) dX2_inRound_104 rfl rfl (by decide) rfl rfl ?_
      refine V_iload_n (q := 106) dX2_inRound_105 rfl rfl rfl ?_
      refine V_aload_n (q := 107) dX2_inRound_106 rfl rfl rfl ?_
      refine V_getI (q := 110) 1 dX2_inRound_107 rfl flX2_34 (by decide) (congrArg Prod.fst (show _ = (3, 0) by rw [a110])) rfl rfl (fun z107 ez107 rz107 => ?_)
      rw [m1101] at ez107
      obtain rfl : z107 = 0 := ez107
      refine V_icmp_ge (q := 113) (tgt := 144) dX2_inRound_110 (by decide) rfl (fun c110 => ?_) (fun c110 => ?_)
      · refine V_bipush (q := 146) dX2_inRound_144 rfl (by decide) ?_
        first | (exfalso; omega) | exact V_iret dX2_inRound_146 (Nat.le_of_ble_eq_true rfl) (Nat.le_of_ble_eq_true rfl) ⟨_, rfl, rfl, rfl, by first | omega | (repeat' (first | rw [if_pos (by omega)] | rw [if_neg (by omega)])) <;> omega | rfl⟩
      · exfalso; omega
    · refine V_iconst (q := 50) dX2_inRound_49 rfl (by decide) ?_
      refine V_istore_n (q := 51) (lv1 := [(3, 110), (0, i), (0, 0), (0, 0)]) dX2_inRound_50 rfl rfl (by decide) rfl rfl ?_
      refine V_iload_n (q := 52) dX2_inRound_51 rfl rfl rfl ?_
      refine V_aload_n (q := 53) dX2_inRound_52 rfl rfl rfl ?_
      refine V_getI (q := 56) 1 dX2_inRound_53 rfl flX2_34 (by decide) (congrArg Prod.fst (show _ = (3, 0) by rw [a110])) rfl rfl (fun z53 ez53 rz53 => ?_)
      rw [m1101] at ez53
      obtain rfl : z53 = 0 := ez53
      refine V_icmp_ge (q := 59) (tgt := 95) dX2_inRound_56 (by decide) rfl (fun c56 => ?_) (fun c56 => ?_)
      · exfalso; omega
      · exfalso; omega
  · exfalso; omega
theorem fX6_under {Γ : GC} {α : Sh} {μ : Mem} {x y : Int} (N : FrN α μ) : MT Γ yX6_under cX6_under 4 (some .int) 1 0 0 [(3, 100), (0, x), (0, y)] α μ (QI fun r α1 μ1 => α1 = α ∧ μ1 = μ ∧ r = -1) := by
  obtain ⟨⟨⟨⟨a100, a101⟩, m1000, m1001, m1003⟩, m1002, ⟨⟨⟨a110, a111, a112, a113, a114⟩, m1100, m1102, m1103, m1106⟩, ⟨m1101, m1104, m1105⟩, -⟩, -⟩, hf⟩ := id N
  refine MT_of (k := 1) [(3, 100), (0, x), (0, y), (9, 0)] pn_X6_under rfl rfl (fun ad0 => ?_)
  refine V_aload_n (q := 1) dX6_under_0 rfl rfl rfl ?_
  refine V_getA (q := 4) 0 dX6_under_1 rfl flX6_10 (by decide) (congrArg Prod.fst (show _ = (7, 0) by rw [a100])) rfl rfl (fun z1 ez1 rz1 => ?_)
  rw [m1000] at ez1
  obtain rfl : z1 = 110 := ez1
  refine V_iload_n (q := 5) dX6_under_4 rfl rfl rfl ?_
  refine V_rdV (q := 8) (As := [(0, x)]) (tX2_knows a110) dX6_under_5 rfl mlX6_31 mw_X2_knows im_X2_knows sl_X2_knows md_X2_knows rfl (by decide) (by decide) (congrArg Prod.fst (show _ = (3, 0) by rw [a110])) rfl rfl (by decide) (by decide) (Nat.le_of_ble_eq_true rfl) (Nat.le_of_ble_eq_true rfl) (Nat.le_of_ble_eq_true rfl) (fun z5 rz5 hz5 => ?_)
  obtain ⟨bz5, hz5⟩ := hz5
  rw [m1101] at hz5
  refine V_if_eq (q := 11) (tgt := 22) dX6_under_8 (by decide) rfl (fun c8 => ?_) (fun c8 => ?_)
  · refine V_iconst (q := 23) dX6_under_22 rfl (by decide) ?_
    first | (exfalso; omega) | exact V_iret dX6_under_23 (Nat.le_of_ble_eq_true rfl) (Nat.le_of_ble_eq_true rfl) ⟨_, rfl, rfl, rfl, by first | omega | (repeat' (first | rw [if_pos (by omega)] | rw [if_neg (by omega)])) <;> omega | rfl⟩
  · refine V_aload_n (q := 12) dX6_under_11 rfl rfl rfl ?_
    refine V_getA (q := 15) 0 dX6_under_12 rfl flX6_10 (by decide) (congrArg Prod.fst (show _ = (7, 0) by rw [a100])) rfl rfl (fun z12 ez12 rz12 => ?_)
    rw [m1000] at ez12
    obtain rfl : z12 = 110 := ez12
    refine V_iload_n (q := 16) dX6_under_15 rfl rfl rfl ?_
    refine V_rdV (q := 19) (As := [(0, y)]) (tX2_knows a110) dX6_under_16 rfl mlX6_31 mw_X2_knows im_X2_knows sl_X2_knows md_X2_knows rfl (by decide) (by decide) (congrArg Prod.fst (show _ = (3, 0) by rw [a110])) rfl rfl (by decide) (by decide) (Nat.le_of_ble_eq_true rfl) (Nat.le_of_ble_eq_true rfl) (Nat.le_of_ble_eq_true rfl) (fun z16 rz16 hz16 => ?_)
    obtain ⟨bz16, hz16⟩ := hz16
    rw [m1101] at hz16
    refine V_if_ne (q := 22) (tgt := 24) dX6_under_19 (by decide) rfl (fun c19 => ?_) (fun c19 => ?_)
    · exfalso; omega
    · refine V_iconst (q := 23) dX6_under_22 rfl (by decide) ?_
      first | (exfalso; omega) | exact V_iret dX6_under_23 (Nat.le_of_ble_eq_true rfl) (Nat.le_of_ble_eq_true rfl) ⟨_, rfl, rfl, rfl, by first | omega | (repeat' (first | rw [if_pos (by omega)] | rw [if_neg (by omega)])) <;> omega | rfl⟩
theorem fX6_field {Γ : GC} {α : Sh} {μ : Mem} {x n c v : Int} (N : FrN α μ) : MT Γ yX6_field cX6_field 7 (some .int) 2 0 0 [(3, 100), (0, x), (0, n), (0, c), (0, v)] α μ (QI fun r α1 μ1 => α1 = α ∧ μ1 = μ ∧ r = -1) := by
  obtain ⟨⟨⟨⟨a100, a101⟩, m1000, m1001, m1003⟩, m1002, ⟨⟨⟨a110, a111, a112, a113, a114⟩, m1100, m1102, m1103, m1106⟩, ⟨m1101, m1104, m1105⟩, -⟩, -⟩, hf⟩ := id N
  refine MT_of (k := 2) [(3, 100), (0, x), (0, n), (0, c), (0, v), (9, 0), (9, 0)] pn_X6_field rfl rfl (fun ad0 => ?_)
  refine V_aload_n (q := 1) dX6_field_0 rfl rfl rfl ?_
  refine V_iload_n (q := 2) dX6_field_1 rfl rfl rfl ?_
  refine V_iload_n (q := 3) dX6_field_2 rfl rfl rfl ?_
  refine V_rdV (q := 6) (As := [(0, x), (0, n)]) (fX6_refusalOfMember N) dX6_field_3 rfl mlX6_73 mw_X6_refusalOfMember im_X6_refusalOfMember sl_X6_refusalOfMember md_X6_refusalOfMember rfl (by decide) (by decide) (congrArg Prod.fst (show _ = (7, 0) by rw [a100])) rfl rfl (by decide) (by decide) (Nat.le_of_ble_eq_true rfl) (Nat.le_of_ble_eq_true rfl) (Nat.le_of_ble_eq_true rfl) (fun z3 rz3 hz3 => ?_)
  refine V_istore (q := 8) (lv1 := [(3, 100), (0, x), (0, n), (0, c), (0, v), (0, z3), (9, 0)]) dX6_field_6 rfl (by decide) rfl rfl ?_
  refine V_iload (q := 10) dX6_field_8 rfl rfl ?_
  refine V_if_eq (q := 13) (tgt := 16) dX6_field_10 (by decide) rfl (fun c10 => ?_) (fun c10 => ?_)
  · exfalso; omega
  · refine V_iload (q := 15) dX6_field_13 rfl rfl ?_
    first | (exfalso; omega) | exact V_iret dX6_field_15 (Nat.le_of_ble_eq_true rfl) (Nat.le_of_ble_eq_true rfl) ⟨_, rfl, rfl, rfl, by first | omega | (repeat' (first | rw [if_pos (by omega)] | rw [if_neg (by omega)])) <;> omega | rfl⟩
theorem fX6_method {Γ : GC} {α : Sh} {μ : Mem} {x n : Int} (N : FrN α μ) : MT Γ yX6_method cX6_method 5 (some .int) 2 0 0 [(3, 100), (0, x), (0, n)] α μ (QI fun r α1 μ1 => α1 = α ∧ μ1 = μ ∧ r = -1) := by
  obtain ⟨⟨⟨⟨a100, a101⟩, m1000, m1001, m1003⟩, m1002, ⟨⟨⟨a110, a111, a112, a113, a114⟩, m1100, m1102, m1103, m1106⟩, ⟨m1101, m1104, m1105⟩, -⟩, -⟩, hf⟩ := id N
  refine MT_of (k := 2) [(3, 100), (0, x), (0, n), (9, 0), (9, 0)] pn_X6_method rfl rfl (fun ad0 => ?_)
  refine V_aload_n (q := 1) dX6_method_0 rfl rfl rfl ?_
  refine V_iload_n (q := 2) dX6_method_1 rfl rfl rfl ?_
  refine V_iload_n (q := 3) dX6_method_2 rfl rfl rfl ?_
  refine V_rdV (q := 6) (As := [(0, x), (0, n)]) (fX6_refusalOfMember N) dX6_method_3 rfl mlX6_73 mw_X6_refusalOfMember im_X6_refusalOfMember sl_X6_refusalOfMember md_X6_refusalOfMember rfl (by decide) (by decide) (congrArg Prod.fst (show _ = (7, 0) by rw [a100])) rfl rfl (by decide) (by decide) (Nat.le_of_ble_eq_true rfl) (Nat.le_of_ble_eq_true rfl) (Nat.le_of_ble_eq_true rfl) (fun z3 rz3 hz3 => ?_)
  refine V_istore_n (q := 7) (lv1 := [(3, 100), (0, x), (0, n), (0, z3), (9, 0)]) dX6_method_6 rfl rfl (by decide) rfl rfl ?_
  refine V_iload_n (q := 8) dX6_method_7 rfl rfl rfl ?_
  refine V_if_eq (q := 11) (tgt := 13) dX6_method_8 (by decide) rfl (fun c8 => ?_) (fun c8 => ?_)
  · exfalso; omega
  · refine V_iload_n (q := 12) dX6_method_11 rfl rfl rfl ?_
    first | (exfalso; omega) | exact V_iret dX6_method_12 (Nat.le_of_ble_eq_true rfl) (Nat.le_of_ble_eq_true rfl) ⟨_, rfl, rfl, rfl, by first | omega | (repeat' (first | rw [if_pos (by omega)] | rw [if_neg (by omega)])) <;> omega | rfl⟩
theorem fX6_act {Γ : GC} {α : Sh} {μ : Mem} {x n k u w v : Int} (N : FrN α μ) : MT Γ yX6_act cX6_act 8 (some .int) 1 0 0 [(3, 100), (0, x), (0, n), (0, k), (0, u), (0, w), (0, v)] α μ (QI fun r α1 μ1 => α1 = α ∧ μ1 = μ ∧ r = -1) := by
  obtain ⟨⟨⟨⟨a100, a101⟩, m1000, m1001, m1003⟩, m1002, ⟨⟨⟨a110, a111, a112, a113, a114⟩, m1100, m1102, m1103, m1106⟩, ⟨m1101, m1104, m1105⟩, -⟩, -⟩, hf⟩ := id N
  refine MT_of (k := 1) [(3, 100), (0, x), (0, n), (0, k), (0, u), (0, w), (0, v), (9, 0)] pn_X6_act rfl rfl (fun ad0 => ?_)
  refine V_aload_n (q := 1) dX6_act_0 rfl rfl rfl ?_
  refine V_getA (q := 4) 0 dX6_act_1 rfl flX6_10 (by decide) (congrArg Prod.fst (show _ = (7, 0) by rw [a100])) rfl rfl (fun z1 ez1 rz1 => ?_)
  rw [m1000] at ez1
  obtain rfl : z1 = 110 := ez1
  refine V_iload_n (q := 5) dX6_act_4 rfl rfl rfl ?_
  refine V_rdV (q := 8) (As := [(0, x)]) (tX2_knows a110) dX6_act_5 rfl mlX6_31 mw_X2_knows im_X2_knows sl_X2_knows md_X2_knows rfl (by decide) (by decide) (congrArg Prod.fst (show _ = (3, 0) by rw [a110])) rfl rfl (by decide) (by decide) (Nat.le_of_ble_eq_true rfl) (Nat.le_of_ble_eq_true rfl) (Nat.le_of_ble_eq_true rfl) (fun z5 rz5 hz5 => ?_)
  obtain ⟨bz5, hz5⟩ := hz5
  rw [m1101] at hz5
  refine V_if_eq (q := 11) (tgt := 30) dX6_act_8 (by decide) rfl (fun c8 => ?_) (fun c8 => ?_)
  · refine V_iconst (q := 31) dX6_act_30 rfl (by decide) ?_
    first | (exfalso; omega) | exact V_iret dX6_act_31 (Nat.le_of_ble_eq_true rfl) (Nat.le_of_ble_eq_true rfl) ⟨_, rfl, rfl, rfl, by first | omega | (repeat' (first | rw [if_pos (by omega)] | rw [if_neg (by omega)])) <;> omega | rfl⟩
  · refine V_iload_n (q := 12) dX6_act_11 rfl rfl rfl ?_
    refine V_rdS (q := 15) (As := [(0, k)]) (tX6_usesType ) dX6_act_12 rfl mlX6_105 mw_X6_usesType sm_X6_usesType md_X6_usesType rfl rfl (by decide) (by decide) (Nat.le_of_ble_eq_true rfl) (Nat.le_of_ble_eq_true rfl) (Nat.le_of_ble_eq_true rfl) (fun z12 rz12 hz12 => ?_)
    obtain ⟨bz12, hz12⟩ := hz12
    refine V_if_eq (q := 18) (tgt := 32) dX6_act_15 (by decide) rfl (fun c15 => ?_) (fun c15 => ?_)
    · refine V_iload_n (q := 33) dX6_act_32 rfl rfl rfl ?_
      refine V_if_lt (q := 36) (tgt := 66) dX6_act_33 (by decide) rfl (fun c33 => ?_) (fun c33 => ?_)
      · refine V_bipush (q := 68) dX6_act_66 rfl (by decide) ?_
        first | (exfalso; omega) | exact V_iret dX6_act_68 (Nat.le_of_ble_eq_true rfl) (Nat.le_of_ble_eq_true rfl) ⟨_, rfl, rfl, rfl, by first | omega | (repeat' (first | rw [if_pos (by omega)] | rw [if_neg (by omega)])) <;> omega | rfl⟩
      · refine V_iload_n (q := 37) dX6_act_36 rfl rfl rfl ?_
        refine V_bipush (q := 39) dX6_act_37 rfl (by decide) ?_
        refine V_icmp_gt (q := 42) (tgt := 66) dX6_act_39 (by decide) rfl (fun c39 => ?_) (fun c39 => ?_)
        · refine V_bipush (q := 68) dX6_act_66 rfl (by decide) ?_
          first | (exfalso; omega) | exact V_iret dX6_act_68 (Nat.le_of_ble_eq_true rfl) (Nat.le_of_ble_eq_true rfl) ⟨_, rfl, rfl, rfl, by first | omega | (repeat' (first | rw [if_pos (by omega)] | rw [if_neg (by omega)])) <;> omega | rfl⟩
        · refine V_iload_n (q := 43) dX6_act_42 rfl rfl rfl ?_
          refine V_rdS (q := 46) (As := [(0, k)]) (tX6_usesName ) dX6_act_43 rfl mlX6_108 mw_X6_usesName sm_X6_usesName md_X6_usesName rfl rfl (by decide) (by decide) (Nat.le_of_ble_eq_true rfl) (Nat.le_of_ble_eq_true rfl) (Nat.le_of_ble_eq_true rfl) (fun z43 rz43 hz43 => ?_)
          obtain ⟨bz43, hz43⟩ := hz43
          refine V_if_eq (q := 49) (tgt := 57) dX6_act_46 (by decide) rfl (fun c46 => ?_) (fun c46 => ?_)
          · refine V_iload_n (q := 58) dX6_act_57 rfl rfl rfl ?_
            refine V_iload (q := 60) dX6_act_58 rfl rfl ?_
            refine V_rdS (q := 63) (As := [(0, k), (0, v)]) (tX6_fitsValue ) dX6_act_60 rfl mlX6_111 mw_X6_fitsValue sm_X6_fitsValue md_X6_fitsValue rfl rfl (by decide) (by decide) (Nat.le_of_ble_eq_true rfl) (Nat.le_of_ble_eq_true rfl) (Nat.le_of_ble_eq_true rfl) (fun z60 rz60 hz60 => ?_)
            obtain ⟨bz60, hz60⟩ := hz60
            refine V_if_ne (q := 66) (tgt := 69) dX6_act_63 (by decide) rfl (fun c63 => ?_) (fun c63 => ?_)
            · refine V_aload_n (q := 70) dX6_act_69 rfl rfl rfl ?_
              refine V_getI (q := 73) 2 dX6_act_70 rfl flX6_22 (by decide) (congrArg Prod.fst (show _ = (7, 0) by rw [a100])) rfl rfl (fun z70 ez70 rz70 => ?_)
              rw [m1002] at ez70
              obtain rfl : z70 = 0 := ez70
              refine V_if_le (q := 76) (tgt := 79) dX6_act_73 (by decide) rfl (fun c73 => ?_) (fun c73 => ?_)
              · exfalso; omega
              · refine V_bipush (q := 78) dX6_act_76 rfl (by decide) ?_
                first | (exfalso; omega) | exact V_iret dX6_act_78 (Nat.le_of_ble_eq_true rfl) (Nat.le_of_ble_eq_true rfl) ⟨_, rfl, rfl, rfl, by first | omega | (repeat' (first | rw [if_pos (by omega)] | rw [if_neg (by omega)])) <;> omega | rfl⟩
            · refine V_bipush (q := 68) dX6_act_66 rfl (by decide) ?_
              first | (exfalso; omega) | exact V_iret dX6_act_68 (Nat.le_of_ble_eq_true rfl) (Nat.le_of_ble_eq_true rfl) ⟨_, rfl, rfl, rfl, by first | omega | (repeat' (first | rw [if_pos (by omega)] | rw [if_neg (by omega)])) <;> omega | rfl⟩
          · refine V_iload (q := 51) dX6_act_49 rfl rfl ?_
            refine V_rdS (q := 54) (As := [(0, w)]) (tX6_isName ) dX6_act_51 rfl mlX6_102 mw_X6_isName sm_X6_isName md_X6_isName rfl rfl (by decide) (by decide) (Nat.le_of_ble_eq_true rfl) (Nat.le_of_ble_eq_true rfl) (Nat.le_of_ble_eq_true rfl) (fun z51 rz51 hz51 => ?_)
            obtain ⟨bz51, hz51⟩ := hz51
            refine V_if_eq (q := 57) (tgt := 66) dX6_act_54 (by decide) rfl (fun c54 => ?_) (fun c54 => ?_)
            · refine V_bipush (q := 68) dX6_act_66 rfl (by decide) ?_
              first | (exfalso; omega) | exact V_iret dX6_act_68 (Nat.le_of_ble_eq_true rfl) (Nat.le_of_ble_eq_true rfl) ⟨_, rfl, rfl, rfl, by first | omega | (repeat' (first | rw [if_pos (by omega)] | rw [if_neg (by omega)])) <;> omega | rfl⟩
            · refine V_iload_n (q := 58) dX6_act_57 rfl rfl rfl ?_
              refine V_iload (q := 60) dX6_act_58 rfl rfl ?_
              refine V_rdS (q := 63) (As := [(0, k), (0, v)]) (tX6_fitsValue ) dX6_act_60 rfl mlX6_111 mw_X6_fitsValue sm_X6_fitsValue md_X6_fitsValue rfl rfl (by decide) (by decide) (Nat.le_of_ble_eq_true rfl) (Nat.le_of_ble_eq_true rfl) (Nat.le_of_ble_eq_true rfl) (fun z60_2 rz60_2 hz60_2 => ?_)
              obtain ⟨bz60_2, hz60_2⟩ := hz60_2
              refine V_if_ne (q := 66) (tgt := 69) dX6_act_63 (by decide) rfl (fun c63_2 => ?_) (fun c63_2 => ?_)
              · refine V_aload_n (q := 70) dX6_act_69 rfl rfl rfl ?_
                refine V_getI (q := 73) 2 dX6_act_70 rfl flX6_22 (by decide) (congrArg Prod.fst (show _ = (7, 0) by rw [a100])) rfl rfl (fun z70_2 ez70_2 rz70_2 => ?_)
                rw [m1002] at ez70_2
                obtain rfl : z70_2 = 0 := ez70_2
                refine V_if_le (q := 76) (tgt := 79) dX6_act_73 (by decide) rfl (fun c73_2 => ?_) (fun c73_2 => ?_)
                · exfalso; omega
                · refine V_bipush (q := 78) dX6_act_76 rfl (by decide) ?_
                  first | (exfalso; omega) | exact V_iret dX6_act_78 (Nat.le_of_ble_eq_true rfl) (Nat.le_of_ble_eq_true rfl) ⟨_, rfl, rfl, rfl, by first | omega | (repeat' (first | rw [if_pos (by omega)] | rw [if_neg (by omega)])) <;> omega | rfl⟩
              · refine V_bipush (q := 68) dX6_act_66 rfl (by decide) ?_
                first | (exfalso; omega) | exact V_iret dX6_act_68 (Nat.le_of_ble_eq_true rfl) (Nat.le_of_ble_eq_true rfl) ⟨_, rfl, rfl, rfl, by first | omega | (repeat' (first | rw [if_pos (by omega)] | rw [if_neg (by omega)])) <;> omega | rfl⟩
    · refine V_aload_n (q := 19) dX6_act_18 rfl rfl rfl ?_
      refine V_getA (q := 22) 0 dX6_act_19 rfl flX6_10 (by decide) (congrArg Prod.fst (show _ = (7, 0) by rw [a100])) rfl rfl (fun z19 ez19 rz19 => ?_)
      rw [m1000] at ez19
      obtain rfl : z19 = 110 := ez19
      refine V_iload (q := 24) dX6_act_22 rfl rfl ?_
      refine V_rdV (q := 27) (As := [(0, u)]) (tX2_knows a110) dX6_act_24 rfl mlX6_31 mw_X2_knows im_X2_knows sl_X2_knows md_X2_knows rfl (by decide) (by decide) (congrArg Prod.fst (show _ = (3, 0) by rw [a110])) rfl rfl (by decide) (by decide) (Nat.le_of_ble_eq_true rfl) (Nat.le_of_ble_eq_true rfl) (Nat.le_of_ble_eq_true rfl) (fun z24 rz24 hz24 => ?_)
      obtain ⟨bz24, hz24⟩ := hz24
      rw [m1101] at hz24
      refine V_if_ne (q := 30) (tgt := 32) dX6_act_27 (by decide) rfl (fun c27 => ?_) (fun c27 => ?_)
      · refine V_iload_n (q := 33) dX6_act_32 rfl rfl rfl ?_
        refine V_if_lt (q := 36) (tgt := 66) dX6_act_33 (by decide) rfl (fun c33_2 => ?_) (fun c33_2 => ?_)
        · refine V_bipush (q := 68) dX6_act_66 rfl (by decide) ?_
          first | (exfalso; omega) | exact V_iret dX6_act_68 (Nat.le_of_ble_eq_true rfl) (Nat.le_of_ble_eq_true rfl) ⟨_, rfl, rfl, rfl, by first | omega | (repeat' (first | rw [if_pos (by omega)] | rw [if_neg (by omega)])) <;> omega | rfl⟩
        · refine V_iload_n (q := 37) dX6_act_36 rfl rfl rfl ?_
          refine V_bipush (q := 39) dX6_act_37 rfl (by decide) ?_
          refine V_icmp_gt (q := 42) (tgt := 66) dX6_act_39 (by decide) rfl (fun c39_2 => ?_) (fun c39_2 => ?_)
          · refine V_bipush (q := 68) dX6_act_66 rfl (by decide) ?_
            first | (exfalso; omega) | exact V_iret dX6_act_68 (Nat.le_of_ble_eq_true rfl) (Nat.le_of_ble_eq_true rfl) ⟨_, rfl, rfl, rfl, by first | omega | (repeat' (first | rw [if_pos (by omega)] | rw [if_neg (by omega)])) <;> omega | rfl⟩
          · refine V_iload_n (q := 43) dX6_act_42 rfl rfl rfl ?_
            refine V_rdS (q := 46) (As := [(0, k)]) (tX6_usesName ) dX6_act_43 rfl mlX6_108 mw_X6_usesName sm_X6_usesName md_X6_usesName rfl rfl (by decide) (by decide) (Nat.le_of_ble_eq_true rfl) (Nat.le_of_ble_eq_true rfl) (Nat.le_of_ble_eq_true rfl) (fun z43_2 rz43_2 hz43_2 => ?_)
            obtain ⟨bz43_2, hz43_2⟩ := hz43_2
            refine V_if_eq (q := 49) (tgt := 57) dX6_act_46 (by decide) rfl (fun c46_2 => ?_) (fun c46_2 => ?_)
            · refine V_iload_n (q := 58) dX6_act_57 rfl rfl rfl ?_
              refine V_iload (q := 60) dX6_act_58 rfl rfl ?_
              refine V_rdS (q := 63) (As := [(0, k), (0, v)]) (tX6_fitsValue ) dX6_act_60 rfl mlX6_111 mw_X6_fitsValue sm_X6_fitsValue md_X6_fitsValue rfl rfl (by decide) (by decide) (Nat.le_of_ble_eq_true rfl) (Nat.le_of_ble_eq_true rfl) (Nat.le_of_ble_eq_true rfl) (fun z60_3 rz60_3 hz60_3 => ?_)
              obtain ⟨bz60_3, hz60_3⟩ := hz60_3
              refine V_if_ne (q := 66) (tgt := 69) dX6_act_63 (by decide) rfl (fun c63_3 => ?_) (fun c63_3 => ?_)
              · refine V_aload_n (q := 70) dX6_act_69 rfl rfl rfl ?_
                refine V_getI (q := 73) 2 dX6_act_70 rfl flX6_22 (by decide) (congrArg Prod.fst (show _ = (7, 0) by rw [a100])) rfl rfl (fun z70_3 ez70_3 rz70_3 => ?_)
                rw [m1002] at ez70_3
                obtain rfl : z70_3 = 0 := ez70_3
                refine V_if_le (q := 76) (tgt := 79) dX6_act_73 (by decide) rfl (fun c73_3 => ?_) (fun c73_3 => ?_)
                · exfalso; omega
                · refine V_bipush (q := 78) dX6_act_76 rfl (by decide) ?_
                  first | (exfalso; omega) | exact V_iret dX6_act_78 (Nat.le_of_ble_eq_true rfl) (Nat.le_of_ble_eq_true rfl) ⟨_, rfl, rfl, rfl, by first | omega | (repeat' (first | rw [if_pos (by omega)] | rw [if_neg (by omega)])) <;> omega | rfl⟩
              · refine V_bipush (q := 68) dX6_act_66 rfl (by decide) ?_
                first | (exfalso; omega) | exact V_iret dX6_act_68 (Nat.le_of_ble_eq_true rfl) (Nat.le_of_ble_eq_true rfl) ⟨_, rfl, rfl, rfl, by first | omega | (repeat' (first | rw [if_pos (by omega)] | rw [if_neg (by omega)])) <;> omega | rfl⟩
            · refine V_iload (q := 51) dX6_act_49 rfl rfl ?_
              refine V_rdS (q := 54) (As := [(0, w)]) (tX6_isName ) dX6_act_51 rfl mlX6_102 mw_X6_isName sm_X6_isName md_X6_isName rfl rfl (by decide) (by decide) (Nat.le_of_ble_eq_true rfl) (Nat.le_of_ble_eq_true rfl) (Nat.le_of_ble_eq_true rfl) (fun z51_2 rz51_2 hz51_2 => ?_)
              obtain ⟨bz51_2, hz51_2⟩ := hz51_2
              refine V_if_eq (q := 57) (tgt := 66) dX6_act_54 (by decide) rfl (fun c54_2 => ?_) (fun c54_2 => ?_)
              · refine V_bipush (q := 68) dX6_act_66 rfl (by decide) ?_
                first | (exfalso; omega) | exact V_iret dX6_act_68 (Nat.le_of_ble_eq_true rfl) (Nat.le_of_ble_eq_true rfl) ⟨_, rfl, rfl, rfl, by first | omega | (repeat' (first | rw [if_pos (by omega)] | rw [if_neg (by omega)])) <;> omega | rfl⟩
              · refine V_iload_n (q := 58) dX6_act_57 rfl rfl rfl ?_
                refine V_iload (q := 60) dX6_act_58 rfl rfl ?_
                refine V_rdS (q := 63) (As := [(0, k), (0, v)]) (tX6_fitsValue ) dX6_act_60 rfl mlX6_111 mw_X6_fitsValue sm_X6_fitsValue md_X6_fitsValue rfl rfl (by decide) (by decide) (Nat.le_of_ble_eq_true rfl) (Nat.le_of_ble_eq_true rfl) (Nat.le_of_ble_eq_true rfl) (fun z60_4 rz60_4 hz60_4 => ?_)
                obtain ⟨bz60_4, hz60_4⟩ := hz60_4
                refine V_if_ne (q := 66) (tgt := 69) dX6_act_63 (by decide) rfl (fun c63_4 => ?_) (fun c63_4 => ?_)
                · refine V_aload_n (q := 70) dX6_act_69 rfl rfl rfl ?_
                  refine V_getI (q := 73) 2 dX6_act_70 rfl flX6_22 (by decide) (congrArg Prod.fst (show _ = (7, 0) by rw [a100])) rfl rfl (fun z70_4 ez70_4 rz70_4 => ?_)
                  rw [m1002] at ez70_4
                  obtain rfl : z70_4 = 0 := ez70_4
                  refine V_if_le (q := 76) (tgt := 79) dX6_act_73 (by decide) rfl (fun c73_4 => ?_) (fun c73_4 => ?_)
                  · exfalso; omega
                  · refine V_bipush (q := 78) dX6_act_76 rfl (by decide) ?_
                    first | (exfalso; omega) | exact V_iret dX6_act_78 (Nat.le_of_ble_eq_true rfl) (Nat.le_of_ble_eq_true rfl) ⟨_, rfl, rfl, rfl, by first | omega | (repeat' (first | rw [if_pos (by omega)] | rw [if_neg (by omega)])) <;> omega | rfl⟩
                · refine V_bipush (q := 68) dX6_act_66 rfl (by decide) ?_
                  first | (exfalso; omega) | exact V_iret dX6_act_68 (Nat.le_of_ble_eq_true rfl) (Nat.le_of_ble_eq_true rfl) ⟨_, rfl, rfl, rfl, by first | omega | (repeat' (first | rw [if_pos (by omega)] | rw [if_neg (by omega)])) <;> omega | rfl⟩
      · refine V_iconst (q := 31) dX6_act_30 rfl (by decide) ?_
        first | (exfalso; omega) | exact V_iret dX6_act_31 (Nat.le_of_ble_eq_true rfl) (Nat.le_of_ble_eq_true rfl) ⟨_, rfl, rfl, rfl, by first | omega | (repeat' (first | rw [if_pos (by omega)] | rw [if_neg (by omega)])) <;> omega | rfl⟩
theorem fX6_told {Γ : GC} {α : Sh} {μ : Mem} {x w : Int} (N : FrN α μ) : MT Γ yX6_told cX6_told 3 (some .int) 1 0 0 [(3, 100), (0, x), (0, w)] α μ (QI fun r α1 μ1 => α1 = α ∧ μ1 = μ ∧ r = (if w < 0 ∨ 9 < w then -2 else if w ≤ 1 then 0 else -1)) := by
  obtain ⟨⟨⟨⟨a100, a101⟩, m1000, m1001, m1003⟩, m1002, ⟨⟨⟨a110, a111, a112, a113, a114⟩, m1100, m1102, m1103, m1106⟩, ⟨m1101, m1104, m1105⟩, -⟩, -⟩, hf⟩ := id N
  refine MT_of (k := 0) [(3, 100), (0, x), (0, w)] pn_X6_told rfl rfl (fun ad0 => ?_)
  refine V_iload_n (q := 1) dX6_told_0 rfl rfl rfl ?_
  refine V_if_lt (q := 4) (tgt := 10) dX6_told_1 (by decide) rfl (fun c1 => ?_) (fun c1 => ?_)
  · refine V_bipush (q := 12) dX6_told_10 rfl (by decide) ?_
    first | (exfalso; omega) | exact V_iret dX6_told_12 (Nat.le_of_ble_eq_true rfl) (Nat.le_of_ble_eq_true rfl) ⟨_, rfl, rfl, rfl, by first | omega | (repeat' (first | rw [if_pos (by omega)] | rw [if_neg (by omega)])) <;> omega | rfl⟩
  · refine V_iload_n (q := 5) dX6_told_4 rfl rfl rfl ?_
    refine V_bipush (q := 7) dX6_told_5 rfl (by decide) ?_
    refine V_icmp_le (q := 10) (tgt := 13) dX6_told_7 (by decide) rfl (fun c7 => ?_) (fun c7 => ?_)
    · refine V_iload_n (q := 14) dX6_told_13 rfl rfl rfl ?_
      refine V_if_ne (q := 17) (tgt := 25) dX6_told_14 (by decide) rfl (fun c14 => ?_) (fun c14 => ?_)
      · refine V_iload_n (q := 26) dX6_told_25 rfl rfl rfl ?_
        refine V_iconst (q := 27) dX6_told_26 rfl (by decide) ?_
        refine V_icmp_ne (q := 30) (tgt := 35) dX6_told_27 (by decide) rfl (fun c27 => ?_) (fun c27 => ?_)
        · refine V_aload_n (q := 36) dX6_told_35 rfl rfl rfl ?_
          refine V_getA (q := 39) 0 dX6_told_36 rfl flX6_10 (by decide) (congrArg Prod.fst (show _ = (7, 0) by rw [a100])) rfl rfl (fun z36 ez36 rz36 => ?_)
          rw [m1000] at ez36
          obtain rfl : z36 = 110 := ez36
          refine V_iload_n (q := 40) dX6_told_39 rfl rfl rfl ?_
          refine V_rdV (q := 43) (As := [(0, x)]) (tX2_knows a110) dX6_told_40 rfl mlX6_31 mw_X2_knows im_X2_knows sl_X2_knows md_X2_knows rfl (by decide) (by decide) (congrArg Prod.fst (show _ = (3, 0) by rw [a110])) rfl rfl (by decide) (by decide) (Nat.le_of_ble_eq_true rfl) (Nat.le_of_ble_eq_true rfl) (Nat.le_of_ble_eq_true rfl) (fun z40 rz40 hz40 => ?_)
          obtain ⟨bz40, hz40⟩ := hz40
          rw [m1101] at hz40
          refine V_if_ne (q := 46) (tgt := 48) dX6_told_43 (by decide) rfl (fun c43 => ?_) (fun c43 => ?_)
          · refine V_iload_n (q := 49) dX6_told_48 rfl rfl rfl ?_
            refine V_bipush (q := 51) dX6_told_49 rfl (by decide) ?_
            refine V_icmp_ne (q := 54) (tgt := 65) dX6_told_51 (by decide) rfl (fun c51 => ?_) (fun c51 => ?_)
            · exfalso; omega
            · exfalso; omega
          · refine V_iconst (q := 47) dX6_told_46 rfl (by decide) ?_
            first | (exfalso; omega) | exact V_iret dX6_told_47 (Nat.le_of_ble_eq_true rfl) (Nat.le_of_ble_eq_true rfl) ⟨_, rfl, rfl, rfl, by first | omega | (repeat' (first | rw [if_pos (by omega)] | rw [if_neg (by omega)])) <;> omega | rfl⟩
        · refine V_aload_n (q := 31) dX6_told_30 rfl rfl rfl ?_
          refine V_getI (q := 34) 2 dX6_told_31 rfl flX6_22 (by decide) (congrArg Prod.fst (show _ = (7, 0) by rw [a100])) rfl rfl (fun z31 ez31 rz31 => ?_)
          rw [m1002] at ez31
          obtain rfl : z31 = 0 := ez31
          first | (exfalso; omega) | exact V_iret dX6_told_34 (Nat.le_of_ble_eq_true rfl) (Nat.le_of_ble_eq_true rfl) ⟨_, rfl, rfl, rfl, by first | omega | (repeat' (first | rw [if_pos (by omega)] | rw [if_neg (by omega)])) <;> omega | rfl⟩
      · refine V_aload_n (q := 18) dX6_told_17 rfl rfl rfl ?_
        refine V_getA (q := 21) 0 dX6_told_18 rfl flX6_10 (by decide) (congrArg Prod.fst (show _ = (7, 0) by rw [a100])) rfl rfl (fun z18 ez18 rz18 => ?_)
        rw [m1000] at ez18
        obtain rfl : z18 = 110 := ez18
        refine V_getI (q := 24) 1 dX6_told_21 rfl flX6_49 (by decide) (congrArg Prod.fst (show _ = (3, 0) by rw [a110])) rfl rfl (fun z21 ez21 rz21 => ?_)
        rw [m1101] at ez21
        obtain rfl : z21 = 0 := ez21
        first | (exfalso; omega) | exact V_iret dX6_told_24 (Nat.le_of_ble_eq_true rfl) (Nat.le_of_ble_eq_true rfl) ⟨_, rfl, rfl, rfl, by first | omega | (repeat' (first | rw [if_pos (by omega)] | rw [if_neg (by omega)])) <;> omega | rfl⟩
    · refine V_bipush (q := 12) dX6_told_10 rfl (by decide) ?_
      first | (exfalso; omega) | exact V_iret dX6_told_12 (Nat.le_of_ble_eq_true rfl) (Nat.le_of_ble_eq_true rfl) ⟨_, rfl, rfl, rfl, by first | omega | (repeat' (first | rw [if_pos (by omega)] | rw [if_neg (by omega)])) <;> omega | rfl⟩
theorem fX6_below {Γ : GC} {α : Sh} {μ : Mem} {x y : Int} (N : FrN α μ) : MT Γ yX6_below cX6_below 3 (some .int) 1 0 0 [(3, 100), (0, x), (0, y)] α μ (QI fun r α1 μ1 => α1 = α ∧ μ1 = μ ∧ r = -1) := by
  obtain ⟨⟨⟨⟨a100, a101⟩, m1000, m1001, m1003⟩, m1002, ⟨⟨⟨a110, a111, a112, a113, a114⟩, m1100, m1102, m1103, m1106⟩, ⟨m1101, m1104, m1105⟩, -⟩, -⟩, hf⟩ := id N
  refine MT_of (k := 0) [(3, 100), (0, x), (0, y)] pn_X6_below rfl rfl (fun ad0 => ?_)
  refine V_aload_n (q := 1) dX6_below_0 rfl rfl rfl ?_
  refine V_getA (q := 4) 0 dX6_below_1 rfl flX6_10 (by decide) (congrArg Prod.fst (show _ = (7, 0) by rw [a100])) rfl rfl (fun z1 ez1 rz1 => ?_)
  rw [m1000] at ez1
  obtain rfl : z1 = 110 := ez1
  refine V_iload_n (q := 5) dX6_below_4 rfl rfl rfl ?_
  refine V_rdV (q := 8) (As := [(0, x)]) (tX2_knows a110) dX6_below_5 rfl mlX6_31 mw_X2_knows im_X2_knows sl_X2_knows md_X2_knows rfl (by decide) (by decide) (congrArg Prod.fst (show _ = (3, 0) by rw [a110])) rfl rfl (by decide) (by decide) (Nat.le_of_ble_eq_true rfl) (Nat.le_of_ble_eq_true rfl) (Nat.le_of_ble_eq_true rfl) (fun z5 rz5 hz5 => ?_)
  obtain ⟨bz5, hz5⟩ := hz5
  rw [m1101] at hz5
  refine V_if_eq (q := 11) (tgt := 22) dX6_below_8 (by decide) rfl (fun c8 => ?_) (fun c8 => ?_)
  · refine V_iconst (q := 23) dX6_below_22 rfl (by decide) ?_
    first | (exfalso; omega) | exact V_iret dX6_below_23 (Nat.le_of_ble_eq_true rfl) (Nat.le_of_ble_eq_true rfl) ⟨_, rfl, rfl, rfl, by first | omega | (repeat' (first | rw [if_pos (by omega)] | rw [if_neg (by omega)])) <;> omega | rfl⟩
  · refine V_aload_n (q := 12) dX6_below_11 rfl rfl rfl ?_
    refine V_getA (q := 15) 0 dX6_below_12 rfl flX6_10 (by decide) (congrArg Prod.fst (show _ = (7, 0) by rw [a100])) rfl rfl (fun z12 ez12 rz12 => ?_)
    rw [m1000] at ez12
    obtain rfl : z12 = 110 := ez12
    refine V_iload_n (q := 16) dX6_below_15 rfl rfl rfl ?_
    refine V_rdV (q := 19) (As := [(0, y)]) (tX2_knows a110) dX6_below_16 rfl mlX6_31 mw_X2_knows im_X2_knows sl_X2_knows md_X2_knows rfl (by decide) (by decide) (congrArg Prod.fst (show _ = (3, 0) by rw [a110])) rfl rfl (by decide) (by decide) (Nat.le_of_ble_eq_true rfl) (Nat.le_of_ble_eq_true rfl) (Nat.le_of_ble_eq_true rfl) (fun z16 rz16 hz16 => ?_)
    obtain ⟨bz16, hz16⟩ := hz16
    rw [m1101] at hz16
    refine V_if_ne (q := 22) (tgt := 24) dX6_below_19 (by decide) rfl (fun c19 => ?_) (fun c19 => ?_)
    · exfalso; omega
    · refine V_iconst (q := 23) dX6_below_22 rfl (by decide) ?_
      first | (exfalso; omega) | exact V_iret dX6_below_23 (Nat.le_of_ble_eq_true rfl) (Nat.le_of_ble_eq_true rfl) ⟨_, rfl, rfl, rfl, by first | omega | (repeat' (first | rw [if_pos (by omega)] | rw [if_neg (by omega)])) <;> omega | rfl⟩
theorem fX6_found {Γ : GC} {α : Sh} {μ : Mem} {x n e : Int} (N : FrN α μ) : MT Γ yX6_found cX6_found 4 (some .int) 1 0 0 [(3, 100), (0, x), (0, n), (0, e)] α μ (QI fun r α1 μ1 => α1 = α ∧ μ1 = μ ∧ r = -1) := by
  obtain ⟨⟨⟨⟨a100, a101⟩, m1000, m1001, m1003⟩, m1002, ⟨⟨⟨a110, a111, a112, a113, a114⟩, m1100, m1102, m1103, m1106⟩, ⟨m1101, m1104, m1105⟩, -⟩, -⟩, hf⟩ := id N
  refine MT_of (k := 0) [(3, 100), (0, x), (0, n), (0, e)] pn_X6_found rfl rfl (fun ad0 => ?_)
  refine V_aload_n (q := 1) dX6_found_0 rfl rfl rfl ?_
  refine V_getA (q := 4) 0 dX6_found_1 rfl flX6_10 (by decide) (congrArg Prod.fst (show _ = (7, 0) by rw [a100])) rfl rfl (fun z1 ez1 rz1 => ?_)
  rw [m1000] at ez1
  obtain rfl : z1 = 110 := ez1
  refine V_iload_n (q := 5) dX6_found_4 rfl rfl rfl ?_
  refine V_rdV (q := 8) (As := [(0, x)]) (tX2_knows a110) dX6_found_5 rfl mlX6_31 mw_X2_knows im_X2_knows sl_X2_knows md_X2_knows rfl (by decide) (by decide) (congrArg Prod.fst (show _ = (3, 0) by rw [a110])) rfl rfl (by decide) (by decide) (Nat.le_of_ble_eq_true rfl) (Nat.le_of_ble_eq_true rfl) (Nat.le_of_ble_eq_true rfl) (fun z5 rz5 hz5 => ?_)
  obtain ⟨bz5, hz5⟩ := hz5
  rw [m1101] at hz5
  refine V_if_ne (q := 11) (tgt := 13) dX6_found_8 (by decide) rfl (fun c8 => ?_) (fun c8 => ?_)
  · refine V_iload_n (q := 14) dX6_found_13 rfl rfl rfl ?_
    refine V_rdS (q := 17) (As := [(0, n)]) (tX6_isName ) dX6_found_14 rfl mlX6_102 mw_X6_isName sm_X6_isName md_X6_isName rfl rfl (by decide) (by decide) (Nat.le_of_ble_eq_true rfl) (Nat.le_of_ble_eq_true rfl) (Nat.le_of_ble_eq_true rfl) (fun z14 rz14 hz14 => ?_)
    obtain ⟨bz14, hz14⟩ := hz14
    refine V_if_ne (q := 20) (tgt := 23) dX6_found_17 (by decide) rfl (fun c17 => ?_) (fun c17 => ?_)
    · refine V_iload_n (q := 24) dX6_found_23 rfl rfl rfl ?_
      refine V_if_eq (q := 27) (tgt := 39) dX6_found_24 (by decide) rfl (fun c24 => ?_) (fun c24 => ?_)
      · exfalso; omega
      · exfalso; omega
    · refine V_bipush (q := 22) dX6_found_20 rfl (by decide) ?_
      first | (exfalso; omega) | exact V_iret dX6_found_22 (Nat.le_of_ble_eq_true rfl) (Nat.le_of_ble_eq_true rfl) ⟨_, rfl, rfl, rfl, by first | omega | (repeat' (first | rw [if_pos (by omega)] | rw [if_neg (by omega)])) <;> omega | rfl⟩
  · refine V_iconst (q := 12) dX6_found_11 rfl (by decide) ?_
    first | (exfalso; omega) | exact V_iret dX6_found_12 (Nat.le_of_ble_eq_true rfl) (Nat.le_of_ble_eq_true rfl) ⟨_, rfl, rfl, rfl, by first | omega | (repeat' (first | rw [if_pos (by omega)] | rw [if_neg (by omega)])) <;> omega | rfl⟩
theorem fX6_asks {Γ : GC} {α : Sh} {μ : Mem} {x i : Int} (N : FrN α μ) : MT Γ yX6_asks cX6_asks 3 (some .int) 1 0 0 [(3, 100), (0, x), (0, i)] α μ (QI fun r α1 μ1 => α1 = α ∧ μ1 = μ ∧ r = -1) := by
  obtain ⟨⟨⟨⟨a100, a101⟩, m1000, m1001, m1003⟩, m1002, ⟨⟨⟨a110, a111, a112, a113, a114⟩, m1100, m1102, m1103, m1106⟩, ⟨m1101, m1104, m1105⟩, -⟩, -⟩, hf⟩ := id N
  refine MT_of (k := 0) [(3, 100), (0, x), (0, i)] pn_X6_asks rfl rfl (fun ad0 => ?_)
  refine V_aload_n (q := 1) dX6_asks_0 rfl rfl rfl ?_
  refine V_getA (q := 4) 0 dX6_asks_1 rfl flX6_10 (by decide) (congrArg Prod.fst (show _ = (7, 0) by rw [a100])) rfl rfl (fun z1 ez1 rz1 => ?_)
  rw [m1000] at ez1
  obtain rfl : z1 = 110 := ez1
  refine V_iload_n (q := 5) dX6_asks_4 rfl rfl rfl ?_
  refine V_rdV (q := 8) (As := [(0, x)]) (tX2_knows a110) dX6_asks_5 rfl mlX6_31 mw_X2_knows im_X2_knows sl_X2_knows md_X2_knows rfl (by decide) (by decide) (congrArg Prod.fst (show _ = (3, 0) by rw [a110])) rfl rfl (by decide) (by decide) (Nat.le_of_ble_eq_true rfl) (Nat.le_of_ble_eq_true rfl) (Nat.le_of_ble_eq_true rfl) (fun z5 rz5 hz5 => ?_)
  obtain ⟨bz5, hz5⟩ := hz5
  rw [m1101] at hz5
  refine V_if_ne (q := 11) (tgt := 13) dX6_asks_8 (by decide) rfl (fun c8 => ?_) (fun c8 => ?_)
  · exfalso; omega
  · refine V_iconst (q := 12) dX6_asks_11 rfl (by decide) ?_
    first | (exfalso; omega) | exact V_iret dX6_asks_12 (Nat.le_of_ble_eq_true rfl) (Nat.le_of_ble_eq_true rfl) ⟨_, rfl, rfl, rfl, by first | omega | (repeat' (first | rw [if_pos (by omega)] | rw [if_neg (by omega)])) <;> omega | rfl⟩
theorem fX6_round {Γ : GC} {α : Sh} {μ : Mem} {i : Int} (N : FrN α μ) : MT Γ yX6_round cX6_round 2 (some .int) 1 0 0 [(3, 100), (0, i)] α μ (QI fun r α1 μ1 => α1 = α ∧ μ1 = μ ∧ r = -6) := by
  obtain ⟨⟨⟨⟨a100, a101⟩, m1000, m1001, m1003⟩, m1002, ⟨⟨⟨a110, a111, a112, a113, a114⟩, m1100, m1102, m1103, m1106⟩, ⟨m1101, m1104, m1105⟩, -⟩, -⟩, hf⟩ := id N
  refine MT_of (k := 0) [(3, 100), (0, i)] pn_X6_round rfl rfl (fun ad0 => ?_)
  refine V_iload_n (q := 1) dX6_round_0 rfl rfl rfl ?_
  refine V_if_ge (q := 4) (tgt := 9) dX6_round_1 (by decide) rfl (fun c1 => ?_) (fun c1 => ?_)
  · refine V_aload_n (q := 10) dX6_round_9 rfl rfl rfl ?_
    refine V_getA (q := 13) 0 dX6_round_10 rfl flX6_10 (by decide) (congrArg Prod.fst (show _ = (7, 0) by rw [a100])) rfl rfl (fun z10 ez10 rz10 => ?_)
    rw [m1000] at ez10
    obtain rfl : z10 = 110 := ez10
    refine V_iload_n (q := 14) dX6_round_13 rfl rfl rfl ?_
    refine V_rdV (q := 17) (As := [(0, i)]) (fX2_inRound N) dX6_round_14 rfl mlX6_153 mw_X2_inRound im_X2_inRound sl_X2_inRound md_X2_inRound rfl (by decide) (by decide) (congrArg Prod.fst (show _ = (3, 0) by rw [a110])) rfl rfl (by decide) (by decide) (Nat.le_of_ble_eq_true rfl) (Nat.le_of_ble_eq_true rfl) (Nat.le_of_ble_eq_true rfl) (fun z14 rz14 hz14 => ?_)
    first | (exfalso; omega) | exact V_iret dX6_round_17 (Nat.le_of_ble_eq_true rfl) (Nat.le_of_ble_eq_true rfl) ⟨_, rfl, rfl, rfl, by first | omega | (repeat' (first | rw [if_pos (by omega)] | rw [if_neg (by omega)])) <;> omega | rfl⟩
  · refine V_bipush (q := 6) dX6_round_4 rfl (by decide) ?_
    refine V_goto (tgt := 17) dX6_round_6 (by decide) ?_
    first | (exfalso; omega) | exact V_iret dX6_round_17 (Nat.le_of_ble_eq_true rfl) (Nat.le_of_ble_eq_true rfl) ⟨_, rfl, rfl, rfl, by first | omega | (repeat' (first | rw [if_pos (by omega)] | rw [if_neg (by omega)])) <;> omega | rfl⟩
theorem fX6_world {Γ : GC} {α : Sh} {μ : Mem} (N : FrN α μ) : MT Γ yX6_world cX6_world 1 (some .int) 0 0 0 [(3, 100)] α μ (QI fun r α1 μ1 => α1 = α ∧ μ1 = μ ∧ r = -5) := by
  obtain ⟨⟨⟨⟨a100, a101⟩, m1000, m1001, m1003⟩, m1002, ⟨⟨⟨a110, a111, a112, a113, a114⟩, m1100, m1102, m1103, m1106⟩, ⟨m1101, m1104, m1105⟩, -⟩, -⟩, hf⟩ := id N
  refine MT_of (k := 0) [(3, 100)] pn_X6_world rfl rfl (fun ad0 => ?_)
  refine V_aload_n (q := 1) dX6_world_0 rfl rfl rfl ?_
  refine V_getI (q := 4) 2 dX6_world_1 rfl flX6_22 (by decide) (congrArg Prod.fst (show _ = (7, 0) by rw [a100])) rfl rfl (fun z1 ez1 rz1 => ?_)
  rw [m1002] at ez1
  obtain rfl : z1 = 0 := ez1
  refine V_bipush (q := 6) dX6_world_4 rfl (by decide) ?_
  refine V_icmp_lt (q := 9) (tgt := 12) dX6_world_6 (by decide) rfl (fun c6 => ?_) (fun c6 => ?_)
  · refine V_aload_n (q := 13) dX6_world_12 rfl rfl rfl ?_
    refine V_getA (q := 16) 0 dX6_world_13 rfl flX6_10 (by decide) (congrArg Prod.fst (show _ = (7, 0) by rw [a100])) rfl rfl (fun z13 ez13 rz13 => ?_)
    rw [m1000] at ez13
    obtain rfl : z13 = 110 := ez13
    refine V_getI (q := 19) 1 dX6_world_16 rfl flX6_49 (by decide) (congrArg Prod.fst (show _ = (3, 0) by rw [a110])) rfl rfl (fun z16 ez16 rz16 => ?_)
    rw [m1101] at ez16
    obtain rfl : z16 = 0 := ez16
    refine V_if_ne (q := 22) (tgt := 25) dX6_world_19 (by decide) rfl (fun c19 => ?_) (fun c19 => ?_)
    · refine V_aload_n (q := 26) dX6_world_25 rfl rfl rfl ?_
      refine V_getA (q := 29) 1 dX6_world_26 rfl flX6_18 (by decide) (congrArg Prod.fst (show _ = (7, 0) by rw [a100])) rfl rfl (fun z26 ez26 rz26 => ?_)
      rw [m1001] at ez26
      obtain rfl : z26 = 101 := ez26
      refine V_aload_n (q := 30) dX6_world_29 rfl rfl rfl ?_
      refine V_getI (q := 33) 2 dX6_world_30 rfl flX6_22 (by decide) (congrArg Prod.fst (show _ = (7, 0) by rw [a100])) rfl rfl (fun z30 ez30 rz30 => ?_)
      rw [m1002] at ez30
      obtain rfl : z30 = 0 := ez30
      refine V_aald (q := 34) (n := 12) (ta := 26) (ci := 5) dX6_world_33 rfl (by decide) (by rw [a101]) rfl (by decide) (by omega) (fun z33 ez33 rz33 => ?_)
      refine V_ifnonnull (q := 37) (tgt := 56) dX6_world_34 (by decide) rfl (fun c34 => ?_) (fun c34 => ?_)
      · exfalso; omega
      · exfalso; omega
    · refine V_bipush (q := 24) dX6_world_22 rfl (by decide) ?_
      first | (exfalso; omega) | exact V_iret dX6_world_24 (Nat.le_of_ble_eq_true rfl) (Nat.le_of_ble_eq_true rfl) ⟨_, rfl, rfl, rfl, by first | omega | (repeat' (first | rw [if_pos (by omega)] | rw [if_neg (by omega)])) <;> omega | rfl⟩
  · refine V_bipush (q := 11) dX6_world_9 rfl (by decide) ?_
    first | (exfalso; omega) | exact V_iret dX6_world_11 (Nat.le_of_ble_eq_true rfl) (Nat.le_of_ble_eq_true rfl) ⟨_, rfl, rfl, rfl, by first | omega | (repeat' (first | rw [if_pos (by omega)] | rw [if_neg (by omega)])) <;> omega | rfl⟩
theorem fX6_touch {Γ : GC} {α : Sh} {μ : Mem} {w k t n v : Int} (N : FrN α μ) : MT Γ yX6_touch cX6_touch 10 (some .int) 2 0 0 [(3, 100), (0, w), (0, k), (0, t), (0, n), (0, v)] α μ (QI fun r α1 μ1 => α1 = α ∧ μ1 = μ ∧ r = -1) := by
  obtain ⟨⟨⟨⟨a100, a101⟩, m1000, m1001, m1003⟩, m1002, ⟨⟨⟨a110, a111, a112, a113, a114⟩, m1100, m1102, m1103, m1106⟩, ⟨m1101, m1104, m1105⟩, -⟩, -⟩, hf⟩ := id N
  refine MT_of (k := 4) [(3, 100), (0, w), (0, k), (0, t), (0, n), (0, v), (9, 0), (9, 0), (9, 0), (9, 0)] pn_X6_touch rfl rfl (fun ad0 => ?_)
  refine V_aload_n (q := 1) dX6_touch_0 rfl rfl rfl ?_
  refine V_iload_n (q := 2) dX6_touch_1 rfl rfl rfl ?_
  refine V_iload_n (q := 3) dX6_touch_2 rfl rfl rfl ?_
  refine V_iload_n (q := 4) dX6_touch_3 rfl rfl rfl ?_
  refine V_iload (q := 6) dX6_touch_4 rfl rfl ?_
  refine V_rdV (q := 9) (As := [(0, w), (0, k), (0, t), (0, n)]) (fX6_refusalOfTouch N) dX6_touch_6 rfl mlX6_159 mw_X6_refusalOfTouch im_X6_refusalOfTouch sl_X6_refusalOfTouch md_X6_refusalOfTouch rfl (by decide) (by decide) (congrArg Prod.fst (show _ = (7, 0) by rw [a100])) rfl rfl (by decide) (by decide) (Nat.le_of_ble_eq_true rfl) (Nat.le_of_ble_eq_true rfl) (Nat.le_of_ble_eq_true rfl) (fun z6 rz6 hz6 => ?_)
  refine V_istore (q := 11) (lv1 := [(3, 100), (0, w), (0, k), (0, t), (0, n), (0, v), (0, z6), (9, 0), (9, 0), (9, 0)]) dX6_touch_9 rfl (by decide) rfl rfl ?_
  refine V_iload (q := 13) dX6_touch_11 rfl rfl ?_
  refine V_if_eq (q := 16) (tgt := 19) dX6_touch_13 (by decide) rfl (fun c13 => ?_) (fun c13 => ?_)
  · exfalso; omega
  · refine V_iload (q := 18) dX6_touch_16 rfl rfl ?_
    first | (exfalso; omega) | exact V_iret dX6_touch_18 (Nat.le_of_ble_eq_true rfl) (Nat.le_of_ble_eq_true rfl) ⟨_, rfl, rfl, rfl, by first | omega | (repeat' (first | rw [if_pos (by omega)] | rw [if_neg (by omega)])) <;> omega | rfl⟩
theorem fX6_foretell {Γ : GC} {α : Sh} {μ : Mem} {w k t n v : Int} (N : FrN α μ) : MT Γ yX6_foretell cX6_foretell 9 (some .int) 2 0 0 [(3, 100), (0, w), (0, k), (0, t), (0, n), (0, v)] α μ (QI fun r α1 μ1 => α1 = α ∧ μ1 = μ ∧ r = -1) := by
  obtain ⟨⟨⟨⟨a100, a101⟩, m1000, m1001, m1003⟩, m1002, ⟨⟨⟨a110, a111, a112, a113, a114⟩, m1100, m1102, m1103, m1106⟩, ⟨m1101, m1104, m1105⟩, -⟩, -⟩, hf⟩ := id N
  refine MT_of (k := 3) [(3, 100), (0, w), (0, k), (0, t), (0, n), (0, v), (9, 0), (9, 0), (9, 0)] pn_X6_foretell rfl rfl (fun ad0 => ?_)
  refine V_aload_n (q := 1) dX6_foretell_0 rfl rfl rfl ?_
  refine V_iload_n (q := 2) dX6_foretell_1 rfl rfl rfl ?_
  refine V_iload_n (q := 3) dX6_foretell_2 rfl rfl rfl ?_
  refine V_iload_n (q := 4) dX6_foretell_3 rfl rfl rfl ?_
  refine V_iload (q := 6) dX6_foretell_4 rfl rfl ?_
  refine V_rdV (q := 9) (As := [(0, w), (0, k), (0, t), (0, n)]) (fX6_refusalOfTouch N) dX6_foretell_6 rfl mlX6_159 mw_X6_refusalOfTouch im_X6_refusalOfTouch sl_X6_refusalOfTouch md_X6_refusalOfTouch rfl (by decide) (by decide) (congrArg Prod.fst (show _ = (7, 0) by rw [a100])) rfl rfl (by decide) (by decide) (Nat.le_of_ble_eq_true rfl) (Nat.le_of_ble_eq_true rfl) (Nat.le_of_ble_eq_true rfl) (fun z6 rz6 hz6 => ?_)
  refine V_istore (q := 11) (lv1 := [(3, 100), (0, w), (0, k), (0, t), (0, n), (0, v), (0, z6), (9, 0), (9, 0)]) dX6_foretell_9 rfl (by decide) rfl rfl ?_
  refine V_iload (q := 13) dX6_foretell_11 rfl rfl ?_
  refine V_if_eq (q := 16) (tgt := 19) dX6_foretell_13 (by decide) rfl (fun c13 => ?_) (fun c13 => ?_)
  · exfalso; omega
  · refine V_iload (q := 18) dX6_foretell_16 rfl rfl ?_
    first | (exfalso; omega) | exact V_iret dX6_foretell_18 (Nat.le_of_ble_eq_true rfl) (Nat.le_of_ble_eq_true rfl) ⟨_, rfl, rfl, rfl, by first | omega | (repeat' (first | rw [if_pos (by omega)] | rw [if_neg (by omega)])) <;> omega | rfl⟩
theorem fX6_state {Γ : GC} {α : Sh} {μ : Mem} {w t : Int} (N : FrN α μ) : MT Γ yX6_state cX6_state 3 (some .int) 1 0 0 [(3, 100), (0, w), (0, t)] α μ (QI fun r α1 μ1 => α1 = α ∧ μ1 = μ ∧ r = -1) := by
  obtain ⟨⟨⟨⟨a100, a101⟩, m1000, m1001, m1003⟩, m1002, ⟨⟨⟨a110, a111, a112, a113, a114⟩, m1100, m1102, m1103, m1106⟩, ⟨m1101, m1104, m1105⟩, -⟩, -⟩, hf⟩ := id N
  refine MT_of (k := 0) [(3, 100), (0, w), (0, t)] pn_X6_state rfl rfl (fun ad0 => ?_)
  refine V_aload_n (q := 1) dX6_state_0 rfl rfl rfl ?_
  refine V_iload_n (q := 2) dX6_state_1 rfl rfl rfl ?_
  refine V_rdV (q := 5) (As := [(0, w)]) (tX6_isWorld a100) dX6_state_2 rfl mlX6_182 mw_X6_isWorld im_X6_isWorld sl_X6_isWorld md_X6_isWorld rfl (by decide) (by decide) (congrArg Prod.fst (show _ = (7, 0) by rw [a100])) rfl rfl (by decide) (by decide) (Nat.le_of_ble_eq_true rfl) (Nat.le_of_ble_eq_true rfl) (Nat.le_of_ble_eq_true rfl) (fun z2 rz2 hz2 => ?_)
  obtain ⟨bz2, hz2⟩ := hz2
  rw [m1002] at hz2
  refine V_if_eq (q := 8) (tgt := 19) dX6_state_5 (by decide) rfl (fun c5 => ?_) (fun c5 => ?_)
  · refine V_iconst (q := 20) dX6_state_19 rfl (by decide) ?_
    first | (exfalso; omega) | exact V_iret dX6_state_20 (Nat.le_of_ble_eq_true rfl) (Nat.le_of_ble_eq_true rfl) ⟨_, rfl, rfl, rfl, by first | omega | (repeat' (first | rw [if_pos (by omega)] | rw [if_neg (by omega)])) <;> omega | rfl⟩
  · refine V_aload_n (q := 9) dX6_state_8 rfl rfl rfl ?_
    refine V_getA (q := 12) 0 dX6_state_9 rfl flX6_10 (by decide) (congrArg Prod.fst (show _ = (7, 0) by rw [a100])) rfl rfl (fun z9 ez9 rz9 => ?_)
    rw [m1000] at ez9
    obtain rfl : z9 = 110 := ez9
    refine V_iload_n (q := 13) dX6_state_12 rfl rfl rfl ?_
    refine V_rdV (q := 16) (As := [(0, t)]) (tX2_knows a110) dX6_state_13 rfl mlX6_31 mw_X2_knows im_X2_knows sl_X2_knows md_X2_knows rfl (by decide) (by decide) (congrArg Prod.fst (show _ = (3, 0) by rw [a110])) rfl rfl (by decide) (by decide) (Nat.le_of_ble_eq_true rfl) (Nat.le_of_ble_eq_true rfl) (Nat.le_of_ble_eq_true rfl) (fun z13 rz13 hz13 => ?_)
    obtain ⟨bz13, hz13⟩ := hz13
    rw [m1101] at hz13
    refine V_if_ne (q := 19) (tgt := 21) dX6_state_16 (by decide) rfl (fun c16 => ?_) (fun c16 => ?_)
    · exfalso; omega
    · refine V_iconst (q := 20) dX6_state_19 rfl (by decide) ?_
      first | (exfalso; omega) | exact V_iret dX6_state_20 (Nat.le_of_ble_eq_true rfl) (Nat.le_of_ble_eq_true rfl) ⟨_, rfl, rfl, rfl, by first | omega | (repeat' (first | rw [if_pos (by omega)] | rw [if_neg (by omega)])) <;> omega | rfl⟩
theorem fX6_began {Γ : GC} {α : Sh} {μ : Mem} {w i : Int} (N : FrN α μ) : MT Γ yX6_began cX6_began 4 (some .int) 1 0 0 [(3, 100), (0, w), (0, i)] α μ (QI fun r α1 μ1 => α1 = α ∧ μ1 = μ ∧ r = -1) := by
  obtain ⟨⟨⟨⟨a100, a101⟩, m1000, m1001, m1003⟩, m1002, ⟨⟨⟨a110, a111, a112, a113, a114⟩, m1100, m1102, m1103, m1106⟩, ⟨m1101, m1104, m1105⟩, -⟩, -⟩, hf⟩ := id N
  refine MT_of (k := 1) [(3, 100), (0, w), (0, i), (9, 0)] pn_X6_began rfl rfl (fun ad0 => ?_)
  refine V_aload_n (q := 1) dX6_began_0 rfl rfl rfl ?_
  refine V_iload_n (q := 2) dX6_began_1 rfl rfl rfl ?_
  refine V_rdV (q := 5) (As := [(0, w)]) (tX6_isWorld a100) dX6_began_2 rfl mlX6_182 mw_X6_isWorld im_X6_isWorld sl_X6_isWorld md_X6_isWorld rfl (by decide) (by decide) (congrArg Prod.fst (show _ = (7, 0) by rw [a100])) rfl rfl (by decide) (by decide) (Nat.le_of_ble_eq_true rfl) (Nat.le_of_ble_eq_true rfl) (Nat.le_of_ble_eq_true rfl) (fun z2 rz2 hz2 => ?_)
  obtain ⟨bz2, hz2⟩ := hz2
  rw [m1002] at hz2
  refine V_if_ne (q := 8) (tgt := 10) dX6_began_5 (by decide) rfl (fun c5 => ?_) (fun c5 => ?_)
  · refine V_aload_n (q := 11) dX6_began_10 rfl rfl rfl ?_
    refine V_getA (q := 14) 1 dX6_began_11 rfl flX6_18 (by decide) (congrArg Prod.fst (show _ = (7, 0) by rw [a100])) rfl rfl (fun z11 ez11 rz11 => ?_)
    rw [m1001] at ez11
    obtain rfl : z11 = 101 := ez11
    refine V_iload_n (q := 15) dX6_began_14 rfl rfl rfl ?_
    refine V_aald (q := 16) (n := 12) (ta := 26) (ci := 5) dX6_began_15 rfl (by decide) (by rw [a101]) rfl (by decide) (by omega) (fun z15 ez15 rz15 => ?_)
    refine V_astore_n (q := 17) (lv1 := [(3, 100), (0, w), (0, i), (3, z15)]) dX6_began_16 rfl rfl (by decide) rfl rfl ?_
    refine V_iload_n (q := 18) dX6_began_17 rfl rfl rfl ?_
    refine V_iconst (q := 19) dX6_began_18 rfl (by decide) ?_
    refine V_icmp_ne (q := 22) (tgt := 27) dX6_began_19 (by decide) rfl (fun c19 => ?_) (fun c19 => ?_)
    · refine V_iload_n (q := 28) dX6_began_27 rfl rfl rfl ?_
      refine V_if_lt (q := 31) (tgt := 48) dX6_began_28 (by decide) rfl (fun c28 => ?_) (fun c28 => ?_)
      · refine V_bipush (q := 50) dX6_began_48 rfl (by decide) ?_
        first | (exfalso; omega) | exact V_iret dX6_began_50 (Nat.le_of_ble_eq_true rfl) (Nat.le_of_ble_eq_true rfl) ⟨_, rfl, rfl, rfl, by first | omega | (repeat' (first | rw [if_pos (by omega)] | rw [if_neg (by omega)])) <;> omega | rfl⟩
      · exfalso; omega
    · exfalso; omega
  · refine V_iconst (q := 9) dX6_began_8 rfl (by decide) ?_
    first | (exfalso; omega) | exact V_iret dX6_began_9 (Nat.le_of_ble_eq_true rfl) (Nat.le_of_ble_eq_true rfl) ⟨_, rfl, rfl, rfl, by first | omega | (repeat' (first | rw [if_pos (by omega)] | rw [if_neg (by omega)])) <;> omega | rfl⟩
theorem fX6_tape {Γ : GC} {α : Sh} {μ : Mem} {w i : Int} (N : FrN α μ) : MT Γ yX6_tape cX6_tape 4 (some .int) 1 0 0 [(3, 100), (0, w), (0, i)] α μ (QI fun r α1 μ1 => α1 = α ∧ μ1 = μ ∧ r = 0) := by
  obtain ⟨⟨⟨⟨a100, a101⟩, m1000, m1001, m1003⟩, m1002, ⟨⟨⟨a110, a111, a112, a113, a114⟩, m1100, m1102, m1103, m1106⟩, ⟨m1101, m1104, m1105⟩, -⟩, -⟩, hf⟩ := id N
  refine MT_of (k := 1) [(3, 100), (0, w), (0, i), (9, 0)] pn_X6_tape rfl rfl (fun ad0 => ?_)
  refine V_aload_n (q := 1) dX6_tape_0 rfl rfl rfl ?_
  refine V_iload_n (q := 2) dX6_tape_1 rfl rfl rfl ?_
  refine V_rdV (q := 5) (As := [(0, w)]) (tX6_isWorld a100) dX6_tape_2 rfl mlX6_182 mw_X6_isWorld im_X6_isWorld sl_X6_isWorld md_X6_isWorld rfl (by decide) (by decide) (congrArg Prod.fst (show _ = (7, 0) by rw [a100])) rfl rfl (by decide) (by decide) (Nat.le_of_ble_eq_true rfl) (Nat.le_of_ble_eq_true rfl) (Nat.le_of_ble_eq_true rfl) (fun z2 rz2 hz2 => ?_)
  obtain ⟨bz2, hz2⟩ := hz2
  rw [m1002] at hz2
  refine V_if_ne (q := 8) (tgt := 10) dX6_tape_5 (by decide) rfl (fun c5 => ?_) (fun c5 => ?_)
  · refine V_aload_n (q := 11) dX6_tape_10 rfl rfl rfl ?_
    refine V_getA (q := 14) 1 dX6_tape_11 rfl flX6_18 (by decide) (congrArg Prod.fst (show _ = (7, 0) by rw [a100])) rfl rfl (fun z11 ez11 rz11 => ?_)
    rw [m1001] at ez11
    obtain rfl : z11 = 101 := ez11
    refine V_iload_n (q := 15) dX6_tape_14 rfl rfl rfl ?_
    refine V_aald (q := 16) (n := 12) (ta := 26) (ci := 5) dX6_tape_15 rfl (by decide) (by rw [a101]) rfl (by decide) (by omega) (fun z15 ez15 rz15 => ?_)
    refine V_astore_n (q := 17) (lv1 := [(3, 100), (0, w), (0, i), (3, z15)]) dX6_tape_16 rfl rfl (by decide) rfl rfl ?_
    refine V_iload_n (q := 18) dX6_tape_17 rfl rfl rfl ?_
    refine V_iconst (q := 19) dX6_tape_18 rfl (by decide) ?_
    refine V_icmp_ne (q := 22) (tgt := 27) dX6_tape_19 (by decide) rfl (fun c19 => ?_) (fun c19 => ?_)
    · refine V_iload_n (q := 28) dX6_tape_27 rfl rfl rfl ?_
      refine V_if_lt (q := 31) (tgt := 55) dX6_tape_28 (by decide) rfl (fun c28 => ?_) (fun c28 => ?_)
      · refine V_iconst (q := 56) dX6_tape_55 rfl (by decide) ?_
        first | (exfalso; omega) | exact V_iret dX6_tape_56 (Nat.le_of_ble_eq_true rfl) (Nat.le_of_ble_eq_true rfl) ⟨_, rfl, rfl, rfl, by first | omega | (repeat' (first | rw [if_pos (by omega)] | rw [if_neg (by omega)])) <;> omega | rfl⟩
      · exfalso; omega
    · exfalso; omega
  · refine V_iconst (q := 9) dX6_tape_8 rfl (by decide) ?_
    first | (exfalso; omega) | exact V_iret dX6_tape_9 (Nat.le_of_ble_eq_true rfl) (Nat.le_of_ble_eq_true rfl) ⟨_, rfl, rfl, rfl, by first | omega | (repeat' (first | rw [if_pos (by omega)] | rw [if_neg (by omega)])) <;> omega | rfl⟩
theorem fX6_value {Γ : GC} {α : Sh} {μ : Mem} {w t n : Int} (N : FrN α μ) : MT Γ yX6_value cX6_value 5 (some .int) 1 0 0 [(3, 100), (0, w), (0, t), (0, n)] α μ (QI fun r α1 μ1 => α1 = α ∧ μ1 = μ ∧ r = 0) := by
  obtain ⟨⟨⟨⟨a100, a101⟩, m1000, m1001, m1003⟩, m1002, ⟨⟨⟨a110, a111, a112, a113, a114⟩, m1100, m1102, m1103, m1106⟩, ⟨m1101, m1104, m1105⟩, -⟩, -⟩, hf⟩ := id N
  refine MT_of (k := 1) [(3, 100), (0, w), (0, t), (0, n), (9, 0)] pn_X6_value rfl rfl (fun ad0 => ?_)
  refine V_aload_n (q := 1) dX6_value_0 rfl rfl rfl ?_
  refine V_iload_n (q := 2) dX6_value_1 rfl rfl rfl ?_
  refine V_rdV (q := 5) (As := [(0, w)]) (tX6_isWorld a100) dX6_value_2 rfl mlX6_182 mw_X6_isWorld im_X6_isWorld sl_X6_isWorld md_X6_isWorld rfl (by decide) (by decide) (congrArg Prod.fst (show _ = (7, 0) by rw [a100])) rfl rfl (by decide) (by decide) (Nat.le_of_ble_eq_true rfl) (Nat.le_of_ble_eq_true rfl) (Nat.le_of_ble_eq_true rfl) (fun z2 rz2 hz2 => ?_)
  obtain ⟨bz2, hz2⟩ := hz2
  rw [m1002] at hz2
  refine V_if_eq (q := 8) (tgt := 26) dX6_value_5 (by decide) rfl (fun c5 => ?_) (fun c5 => ?_)
  · refine V_iconst (q := 27) dX6_value_26 rfl (by decide) ?_
    first | (exfalso; omega) | exact V_iret dX6_value_27 (Nat.le_of_ble_eq_true rfl) (Nat.le_of_ble_eq_true rfl) ⟨_, rfl, rfl, rfl, by first | omega | (repeat' (first | rw [if_pos (by omega)] | rw [if_neg (by omega)])) <;> omega | rfl⟩
  · refine V_aload_n (q := 9) dX6_value_8 rfl rfl rfl ?_
    refine V_getA (q := 12) 0 dX6_value_9 rfl flX6_10 (by decide) (congrArg Prod.fst (show _ = (7, 0) by rw [a100])) rfl rfl (fun z9 ez9 rz9 => ?_)
    rw [m1000] at ez9
    obtain rfl : z9 = 110 := ez9
    refine V_iload_n (q := 13) dX6_value_12 rfl rfl rfl ?_
    refine V_rdV (q := 16) (As := [(0, t)]) (tX2_knows a110) dX6_value_13 rfl mlX6_31 mw_X2_knows im_X2_knows sl_X2_knows md_X2_knows rfl (by decide) (by decide) (congrArg Prod.fst (show _ = (3, 0) by rw [a110])) rfl rfl (by decide) (by decide) (Nat.le_of_ble_eq_true rfl) (Nat.le_of_ble_eq_true rfl) (Nat.le_of_ble_eq_true rfl) (fun z13 rz13 hz13 => ?_)
    obtain ⟨bz13, hz13⟩ := hz13
    rw [m1101] at hz13
    refine V_if_eq (q := 19) (tgt := 26) dX6_value_16 (by decide) rfl (fun c16 => ?_) (fun c16 => ?_)
    · refine V_iconst (q := 27) dX6_value_26 rfl (by decide) ?_
      first | (exfalso; omega) | exact V_iret dX6_value_27 (Nat.le_of_ble_eq_true rfl) (Nat.le_of_ble_eq_true rfl) ⟨_, rfl, rfl, rfl, by first | omega | (repeat' (first | rw [if_pos (by omega)] | rw [if_neg (by omega)])) <;> omega | rfl⟩
    · refine V_iload_n (q := 20) dX6_value_19 rfl rfl rfl ?_
      refine V_rdS (q := 23) (As := [(0, n)]) (tX6_isName ) dX6_value_20 rfl mlX6_102 mw_X6_isName sm_X6_isName md_X6_isName rfl rfl (by decide) (by decide) (Nat.le_of_ble_eq_true rfl) (Nat.le_of_ble_eq_true rfl) (Nat.le_of_ble_eq_true rfl) (fun z20 rz20 hz20 => ?_)
      obtain ⟨bz20, hz20⟩ := hz20
      refine V_if_ne (q := 26) (tgt := 28) dX6_value_23 (by decide) rfl (fun c23 => ?_) (fun c23 => ?_)
      · exfalso; omega
      · refine V_iconst (q := 27) dX6_value_26 rfl (by decide) ?_
        first | (exfalso; omega) | exact V_iret dX6_value_27 (Nat.le_of_ble_eq_true rfl) (Nat.le_of_ble_eq_true rfl) ⟨_, rfl, rfl, rfl, by first | omega | (repeat' (first | rw [if_pos (by omega)] | rw [if_neg (by omega)])) <;> omega | rfl⟩
theorem fX6_failed {Γ : GC} {α : Sh} {μ : Mem} {w i : Int} (N : FrN α μ) : MT Γ yX6_failed cX6_failed 3 (some .int) 1 0 0 [(3, 100), (0, w), (0, i)] α μ (QI fun r α1 μ1 => α1 = α ∧ μ1 = μ ∧ r = -1) := by
  obtain ⟨⟨⟨⟨a100, a101⟩, m1000, m1001, m1003⟩, m1002, ⟨⟨⟨a110, a111, a112, a113, a114⟩, m1100, m1102, m1103, m1106⟩, ⟨m1101, m1104, m1105⟩, -⟩, -⟩, hf⟩ := id N
  refine MT_of (k := 0) [(3, 100), (0, w), (0, i)] pn_X6_failed rfl rfl (fun ad0 => ?_)
  refine V_aload_n (q := 1) dX6_failed_0 rfl rfl rfl ?_
  refine V_iload_n (q := 2) dX6_failed_1 rfl rfl rfl ?_
  refine V_rdV (q := 5) (As := [(0, w)]) (tX6_isWorld a100) dX6_failed_2 rfl mlX6_182 mw_X6_isWorld im_X6_isWorld sl_X6_isWorld md_X6_isWorld rfl (by decide) (by decide) (congrArg Prod.fst (show _ = (7, 0) by rw [a100])) rfl rfl (by decide) (by decide) (Nat.le_of_ble_eq_true rfl) (Nat.le_of_ble_eq_true rfl) (Nat.le_of_ble_eq_true rfl) (fun z2 rz2 hz2 => ?_)
  obtain ⟨bz2, hz2⟩ := hz2
  rw [m1002] at hz2
  refine V_if_ne (q := 8) (tgt := 10) dX6_failed_5 (by decide) rfl (fun c5 => ?_) (fun c5 => ?_)
  · refine V_iload_n (q := 11) dX6_failed_10 rfl rfl rfl ?_
    refine V_if_lt (q := 14) (tgt := 19) dX6_failed_11 (by decide) rfl (fun c11 => ?_) (fun c11 => ?_)
    · refine V_bipush (q := 21) dX6_failed_19 rfl (by decide) ?_
      first | (exfalso; omega) | exact V_iret dX6_failed_21 (Nat.le_of_ble_eq_true rfl) (Nat.le_of_ble_eq_true rfl) ⟨_, rfl, rfl, rfl, by first | omega | (repeat' (first | rw [if_pos (by omega)] | rw [if_neg (by omega)])) <;> omega | rfl⟩
    · refine V_iload_n (q := 15) dX6_failed_14 rfl rfl rfl ?_
      refine V_iconst (q := 16) dX6_failed_15 rfl (by decide) ?_
      refine V_icmp_le (q := 19) (tgt := 22) dX6_failed_16 (by decide) rfl (fun c16 => ?_) (fun c16 => ?_)
      · refine V_iload_n (q := 23) dX6_failed_22 rfl rfl rfl ?_
        refine V_if_ne (q := 26) (tgt := 38) dX6_failed_23 (by decide) rfl (fun c23 => ?_) (fun c23 => ?_)
        · exfalso; omega
        · exfalso; omega
      · refine V_bipush (q := 21) dX6_failed_19 rfl (by decide) ?_
        first | (exfalso; omega) | exact V_iret dX6_failed_21 (Nat.le_of_ble_eq_true rfl) (Nat.le_of_ble_eq_true rfl) ⟨_, rfl, rfl, rfl, by first | omega | (repeat' (first | rw [if_pos (by omega)] | rw [if_neg (by omega)])) <;> omega | rfl⟩
  · refine V_iconst (q := 9) dX6_failed_8 rfl (by decide) ?_
    first | (exfalso; omega) | exact V_iret dX6_failed_9 (Nat.le_of_ble_eq_true rfl) (Nat.le_of_ble_eq_true rfl) ⟨_, rfl, rfl, rfl, by first | omega | (repeat' (first | rw [if_pos (by omega)] | rw [if_neg (by omega)])) <;> omega | rfl⟩
theorem fX6_spent {Γ : GC} {α : Sh} {μ : Mem} {w i : Int} (N : FrN α μ) : MT Γ yX6_spent cX6_spent 3 (some .int) 1 0 0 [(3, 100), (0, w), (0, i)] α μ (QI fun r α1 μ1 => α1 = α ∧ μ1 = μ ∧ r = -1) := by
  obtain ⟨⟨⟨⟨a100, a101⟩, m1000, m1001, m1003⟩, m1002, ⟨⟨⟨a110, a111, a112, a113, a114⟩, m1100, m1102, m1103, m1106⟩, ⟨m1101, m1104, m1105⟩, -⟩, -⟩, hf⟩ := id N
  refine MT_of (k := 0) [(3, 100), (0, w), (0, i)] pn_X6_spent rfl rfl (fun ad0 => ?_)
  refine V_aload_n (q := 1) dX6_spent_0 rfl rfl rfl ?_
  refine V_iload_n (q := 2) dX6_spent_1 rfl rfl rfl ?_
  refine V_rdV (q := 5) (As := [(0, w)]) (tX6_isWorld a100) dX6_spent_2 rfl mlX6_182 mw_X6_isWorld im_X6_isWorld sl_X6_isWorld md_X6_isWorld rfl (by decide) (by decide) (congrArg Prod.fst (show _ = (7, 0) by rw [a100])) rfl rfl (by decide) (by decide) (Nat.le_of_ble_eq_true rfl) (Nat.le_of_ble_eq_true rfl) (Nat.le_of_ble_eq_true rfl) (fun z2 rz2 hz2 => ?_)
  obtain ⟨bz2, hz2⟩ := hz2
  rw [m1002] at hz2
  refine V_if_ne (q := 8) (tgt := 10) dX6_spent_5 (by decide) rfl (fun c5 => ?_) (fun c5 => ?_)
  · refine V_iload_n (q := 11) dX6_spent_10 rfl rfl rfl ?_
    refine V_if_lt (q := 14) (tgt := 19) dX6_spent_11 (by decide) rfl (fun c11 => ?_) (fun c11 => ?_)
    · refine V_bipush (q := 21) dX6_spent_19 rfl (by decide) ?_
      refine V_goto (tgt := 35) dX6_spent_21 (by decide) ?_
      first | (exfalso; omega) | exact V_iret dX6_spent_35 (Nat.le_of_ble_eq_true rfl) (Nat.le_of_ble_eq_true rfl) ⟨_, rfl, rfl, rfl, by first | omega | (repeat' (first | rw [if_pos (by omega)] | rw [if_neg (by omega)])) <;> omega | rfl⟩
    · refine V_iload_n (q := 15) dX6_spent_14 rfl rfl rfl ?_
      refine V_iconst (q := 16) dX6_spent_15 rfl (by decide) ?_
      refine V_icmp_le (q := 19) (tgt := 24) dX6_spent_16 (by decide) rfl (fun c16 => ?_) (fun c16 => ?_)
      · exfalso; omega
      · refine V_bipush (q := 21) dX6_spent_19 rfl (by decide) ?_
        refine V_goto (tgt := 35) dX6_spent_21 (by decide) ?_
        first | (exfalso; omega) | exact V_iret dX6_spent_35 (Nat.le_of_ble_eq_true rfl) (Nat.le_of_ble_eq_true rfl) ⟨_, rfl, rfl, rfl, by first | omega | (repeat' (first | rw [if_pos (by omega)] | rw [if_neg (by omega)])) <;> omega | rfl⟩
  · refine V_iconst (q := 9) dX6_spent_8 rfl (by decide) ?_
    first | (exfalso; omega) | exact V_iret dX6_spent_9 (Nat.le_of_ble_eq_true rfl) (Nat.le_of_ble_eq_true rfl) ⟨_, rfl, rfl, rfl, by first | omega | (repeat' (first | rw [if_pos (by omega)] | rw [if_neg (by omega)])) <;> omega | rfl⟩
theorem fX6_many {Γ : GC} {α : Sh} {μ : Mem} {w s : Int} (N : FrN α μ) : MT Γ yX6_many cX6_many 5 (some .int) 1 0 0 [(3, 100), (0, w), (0, s)] α μ (QI fun r α1 μ1 => α1 = α ∧ μ1 = μ ∧ r = -1) := by
  obtain ⟨⟨⟨⟨a100, a101⟩, m1000, m1001, m1003⟩, m1002, ⟨⟨⟨a110, a111, a112, a113, a114⟩, m1100, m1102, m1103, m1106⟩, ⟨m1101, m1104, m1105⟩, -⟩, -⟩, hf⟩ := id N
  refine MT_of (k := 2) [(3, 100), (0, w), (0, s), (9, 0), (9, 0)] pn_X6_many rfl rfl (fun ad0 => ?_)
  refine V_aload_n (q := 1) dX6_many_0 rfl rfl rfl ?_
  refine V_iload_n (q := 2) dX6_many_1 rfl rfl rfl ?_
  refine V_rdV (q := 5) (As := [(0, w)]) (tX6_isWorld a100) dX6_many_2 rfl mlX6_182 mw_X6_isWorld im_X6_isWorld sl_X6_isWorld md_X6_isWorld rfl (by decide) (by decide) (congrArg Prod.fst (show _ = (7, 0) by rw [a100])) rfl rfl (by decide) (by decide) (Nat.le_of_ble_eq_true rfl) (Nat.le_of_ble_eq_true rfl) (Nat.le_of_ble_eq_true rfl) (fun z2 rz2 hz2 => ?_)
  obtain ⟨bz2, hz2⟩ := hz2
  rw [m1002] at hz2
  refine V_if_ne (q := 8) (tgt := 10) dX6_many_5 (by decide) rfl (fun c5 => ?_) (fun c5 => ?_)
  · refine V_iload_n (q := 11) dX6_many_10 rfl rfl rfl ?_
    refine V_if_lt (q := 14) (tgt := 19) dX6_many_11 (by decide) rfl (fun c11 => ?_) (fun c11 => ?_)
    · refine V_bipush (q := 21) dX6_many_19 rfl (by decide) ?_
      first | (exfalso; omega) | exact V_iret dX6_many_21 (Nat.le_of_ble_eq_true rfl) (Nat.le_of_ble_eq_true rfl) ⟨_, rfl, rfl, rfl, by first | omega | (repeat' (first | rw [if_pos (by omega)] | rw [if_neg (by omega)])) <;> omega | rfl⟩
    · refine V_iload_n (q := 15) dX6_many_14 rfl rfl rfl ?_
      refine V_iconst (q := 16) dX6_many_15 rfl (by decide) ?_
      refine V_icmp_le (q := 19) (tgt := 22) dX6_many_16 (by decide) rfl (fun c16 => ?_) (fun c16 => ?_)
      · refine V_iconst (q := 23) dX6_many_22 rfl (by decide) ?_
        refine V_istore_n (q := 24) (lv1 := [(3, 100), (0, w), (0, s), (0, 0), (9, 0)]) dX6_many_23 rfl rfl (by decide) rfl rfl ?_
        refine V_iconst (q := 25) dX6_many_24 rfl (by decide) ?_
        refine V_istore (q := 27) (lv1 := [(3, 100), (0, w), (0, s), (0, 0), (0, 0)]) dX6_many_25 rfl (by decide) rfl rfl ?_
        refine V_iload (q := 29) dX6_many_27 rfl rfl ?_
        refine V_aload_n (q := 30) dX6_many_29 rfl rfl rfl ?_
        refine V_getA (q := 33) 0 dX6_many_30 rfl flX6_10 (by decide) (congrArg Prod.fst (show _ = (7, 0) by rw [a100])) rfl rfl (fun z30 ez30 rz30 => ?_)
        rw [m1000] at ez30
        obtain rfl : z30 = 110 := ez30
        refine V_getI (q := 36) 1 dX6_many_33 rfl flX6_49 (by decide) (congrArg Prod.fst (show _ = (3, 0) by rw [a110])) rfl rfl (fun z33 ez33 rz33 => ?_)
        rw [m1101] at ez33
        obtain rfl : z33 = 0 := ez33
        refine V_icmp_ge (q := 39) (tgt := 64) dX6_many_36 (by decide) rfl (fun c36 => ?_) (fun c36 => ?_)
        · refine V_iload_n (q := 65) dX6_many_64 rfl rfl rfl ?_
          first | (exfalso; omega) | exact V_iret dX6_many_65 (Nat.le_of_ble_eq_true rfl) (Nat.le_of_ble_eq_true rfl) ⟨_, rfl, rfl, rfl, by first | omega | (repeat' (first | rw [if_pos (by omega)] | rw [if_neg (by omega)])) <;> omega | rfl⟩
        · exfalso; omega
      · refine V_bipush (q := 21) dX6_many_19 rfl (by decide) ?_
        first | (exfalso; omega) | exact V_iret dX6_many_21 (Nat.le_of_ble_eq_true rfl) (Nat.le_of_ble_eq_true rfl) ⟨_, rfl, rfl, rfl, by first | omega | (repeat' (first | rw [if_pos (by omega)] | rw [if_neg (by omega)])) <;> omega | rfl⟩
  · refine V_iconst (q := 9) dX6_many_8 rfl (by decide) ?_
    first | (exfalso; omega) | exact V_iret dX6_many_9 (Nat.le_of_ble_eq_true rfl) (Nat.le_of_ble_eq_true rfl) ⟨_, rfl, rfl, rfl, by first | omega | (repeat' (first | rw [if_pos (by omega)] | rw [if_neg (by omega)])) <;> omega | rfl⟩
theorem fX6_differs {Γ : GC} {α : Sh} {μ : Mem} {w u : Int} (N : FrN α μ) : MT Γ yX6_differs cX6_differs 4 (some .int) 1 0 0 [(3, 100), (0, w), (0, u)] α μ (QI fun r α1 μ1 => α1 = α ∧ μ1 = μ ∧ r = -1) := by
  obtain ⟨⟨⟨⟨a100, a101⟩, m1000, m1001, m1003⟩, m1002, ⟨⟨⟨a110, a111, a112, a113, a114⟩, m1100, m1102, m1103, m1106⟩, ⟨m1101, m1104, m1105⟩, -⟩, -⟩, hf⟩ := id N
  refine MT_of (k := 1) [(3, 100), (0, w), (0, u), (9, 0)] pn_X6_differs rfl rfl (fun ad0 => ?_)
  refine V_aload_n (q := 1) dX6_differs_0 rfl rfl rfl ?_
  refine V_iload_n (q := 2) dX6_differs_1 rfl rfl rfl ?_
  refine V_rdV (q := 5) (As := [(0, w)]) (tX6_isWorld a100) dX6_differs_2 rfl mlX6_182 mw_X6_isWorld im_X6_isWorld sl_X6_isWorld md_X6_isWorld rfl (by decide) (by decide) (congrArg Prod.fst (show _ = (7, 0) by rw [a100])) rfl rfl (by decide) (by decide) (Nat.le_of_ble_eq_true rfl) (Nat.le_of_ble_eq_true rfl) (Nat.le_of_ble_eq_true rfl) (fun z2 rz2 hz2 => ?_)
  obtain ⟨bz2, hz2⟩ := hz2
  rw [m1002] at hz2
  refine V_if_eq (q := 8) (tgt := 16) dX6_differs_5 (by decide) rfl (fun c5 => ?_) (fun c5 => ?_)
  · refine V_iconst (q := 17) dX6_differs_16 rfl (by decide) ?_
    first | (exfalso; omega) | exact V_iret dX6_differs_17 (Nat.le_of_ble_eq_true rfl) (Nat.le_of_ble_eq_true rfl) ⟨_, rfl, rfl, rfl, by first | omega | (repeat' (first | rw [if_pos (by omega)] | rw [if_neg (by omega)])) <;> omega | rfl⟩
  · refine V_aload_n (q := 9) dX6_differs_8 rfl rfl rfl ?_
    refine V_iload_n (q := 10) dX6_differs_9 rfl rfl rfl ?_
    refine V_rdV (q := 13) (As := [(0, u)]) (tX6_isWorld a100) dX6_differs_10 rfl mlX6_182 mw_X6_isWorld im_X6_isWorld sl_X6_isWorld md_X6_isWorld rfl (by decide) (by decide) (congrArg Prod.fst (show _ = (7, 0) by rw [a100])) rfl rfl (by decide) (by decide) (Nat.le_of_ble_eq_true rfl) (Nat.le_of_ble_eq_true rfl) (Nat.le_of_ble_eq_true rfl) (fun z10 rz10 hz10 => ?_)
    obtain ⟨bz10, hz10⟩ := hz10
    rw [m1002] at hz10
    refine V_if_ne (q := 16) (tgt := 18) dX6_differs_13 (by decide) rfl (fun c13 => ?_) (fun c13 => ?_)
    · refine V_iconst (q := 19) dX6_differs_18 rfl (by decide) ?_
      refine V_istore_n (q := 20) (lv1 := [(3, 100), (0, w), (0, u), (0, 0)]) dX6_differs_19 rfl rfl (by decide) rfl rfl ?_
      refine V_iload_n (q := 21) dX6_differs_20 rfl rfl rfl ?_
      refine V_aload_n (q := 22) dX6_differs_21 rfl rfl rfl ?_
      refine V_getA (q := 25) 0 dX6_differs_22 rfl flX6_10 (by decide) (congrArg Prod.fst (show _ = (7, 0) by rw [a100])) rfl rfl (fun z22 ez22 rz22 => ?_)
      rw [m1000] at ez22
      obtain rfl : z22 = 110 := ez22
      refine V_getI (q := 28) 1 dX6_differs_25 rfl flX6_49 (by decide) (congrArg Prod.fst (show _ = (3, 0) by rw [a110])) rfl rfl (fun z25 ez25 rz25 => ?_)
      rw [m1101] at ez25
      obtain rfl : z25 = 0 := ez25
      refine V_icmp_ge (q := 31) (tgt := 58) dX6_differs_28 (by decide) rfl (fun c28 => ?_) (fun c28 => ?_)
      · refine V_bipush (q := 60) dX6_differs_58 rfl (by decide) ?_
        first | (exfalso; omega) | exact V_iret dX6_differs_60 (Nat.le_of_ble_eq_true rfl) (Nat.le_of_ble_eq_true rfl) ⟨_, rfl, rfl, rfl, by first | omega | (repeat' (first | rw [if_pos (by omega)] | rw [if_neg (by omega)])) <;> omega | rfl⟩
      · exfalso; omega
    · refine V_iconst (q := 17) dX6_differs_16 rfl (by decide) ?_
      first | (exfalso; omega) | exact V_iret dX6_differs_17 (Nat.le_of_ble_eq_true rfl) (Nat.le_of_ble_eq_true rfl) ⟨_, rfl, rfl, rfl, by first | omega | (repeat' (first | rw [if_pos (by omega)] | rw [if_neg (by omega)])) <;> omega | rfl⟩
theorem fX6_gone {Γ : GC} {α : Sh} {μ : Mem} (N : FrN α μ) : MT Γ yX6_gone cX6_gone 2 (some .int) 0 0 0 [(3, 100)] α μ (QI fun r α1 μ1 => Lo α μ α1 μ1 ∧ r = 0) := by
  obtain ⟨⟨⟨⟨a100, a101⟩, m1000, m1001, m1003⟩, m1002, ⟨⟨⟨a110, a111, a112, a113, a114⟩, m1100, m1102, m1103, m1106⟩, ⟨m1101, m1104, m1105⟩, -⟩, -⟩, hf⟩ := id N
  refine MT_of (k := 1) [(3, 100), (9, 0)] pn_X6_gone rfl rfl (fun ad0 => ?_)
  refine V_aload_n (q := 1) dX6_gone_0 rfl rfl rfl ?_
  refine V_getI (q := 4) 2 dX6_gone_1 rfl flX6_22 (by decide) (congrArg Prod.fst (show _ = (7, 0) by rw [a100])) rfl rfl (fun z1 ez1 rz1 => ?_)
  rw [m1002] at ez1
  obtain rfl : z1 = 0 := ez1
  refine V_istore_n (q := 5) (lv1 := [(3, 100), (0, 0)]) dX6_gone_4 rfl rfl (by decide) rfl rfl ?_
  refine V_aload_n (q := 6) dX6_gone_5 rfl rfl rfl ?_
  refine V_iconst (q := 7) dX6_gone_6 rfl (by decide) ?_
  refine V_putI (q := 10) 2 dX6_gone_7 rfl flX6_22 (Or.inl rfl) (by decide) (congrArg Prod.fst (show _ = (7, 0) by rw [a100])) rfl rfl (fun M7 eM7 => ?_)
  refine V_iload_n (q := 11) dX6_gone_10 rfl rfl rfl ?_
  exact V_iret dX6_gone_11 (Nat.le_of_ble_eq_true rfl) (Nat.le_of_ble_eq_true rfl) ⟨_, rfl, fun t ht => ⟨rfl, by rw [eM7, mu_f _ _ _ _ (by omega)]⟩, rfl⟩
theorem fX2_append {Γ : GC} {α : Sh} {μ : Mem} {f s a : Int} (a110 : α 110 = (3, 0)) (a111 : α 111 = (23, 40)) (m0 : μ 110 0 = 111) (m1 : μ 110 1 = 0) (n : TyN 1000 f s a α μ) (ha : a < 0) : MT Γ yX2_append cX2_append 2 (some .int) 0 0 0 [(3, 110), (3, 1000)] α μ (QI fun r α1 μ1 => Lo α μ α1 μ1 ∧ r = 0) := by
  refine MT_of (k := 0) [(3, 110), (3, 1000)] pn_X2_append rfl rfl (fun ad0 => ?_)
  refine V_aload_n (q := 1) dX2_append_0 rfl rfl rfl ?_
  refine V_getI (q := 4) 2 dX2_append_1 rfl flX2_38 (by decide) (congrArg Prod.fst (show _ = (5, 0) by rw [n.1.1.1])) rfl rfl (fun z1 ez1 rz1 => ?_)
  rw [n.2.1.2.2.1] at ez1
  refine V_if_lt (q := 7) (tgt := 30) dX2_append_4 (by decide) rfl (fun c4 => ?_) (fun c4 => ?_)
  · refine V_aload_n (q := 31) dX2_append_30 rfl rfl rfl ?_
    refine V_getA (q := 34) 0 dX2_append_31 rfl flX2_11 (by decide) (congrArg Prod.fst (show _ = (3, 0) by rw [a110])) rfl rfl (fun z31 ez31 rz31 => ?_)
    rw [m0] at ez31
    obtain rfl : z31 = 111 := ez31
    refine V_aload_n (q := 35) dX2_append_34 rfl rfl rfl ?_
    refine V_getI (q := 38) 1 dX2_append_35 rfl flX2_34 (by decide) (congrArg Prod.fst (show _ = (3, 0) by rw [a110])) rfl rfl (fun z35 ez35 rz35 => ?_)
    rw [m1] at ez35
    obtain rfl : z35 = 0 := ez35
    refine V_aload_n (q := 39) dX2_append_38 rfl rfl rfl ?_
    refine V_aast (q := 40) (n := 40) (ta := 23) (ci := 4) dX2_append_39 rfl (by decide) (by rw [a111]) rfl (by decide) (by decide) (by omega) (by decide) (congrArg Prod.fst (show _ = (5, 0) by rw [n.1.1.1])) (fun M39 eM39 => ?_)
    refine V_aload_n (q := 41) dX2_append_40 rfl rfl rfl ?_
    refine V_dup (q := 42) dX2_append_41 rfl (show (3 : Nat) ≠ 2 by decide) ?_
    refine V_getI (q := 45) 1 dX2_append_42 rfl flX2_34 (by decide) (congrArg Prod.fst (show _ = (3, 0) by rw [a110])) rfl rfl (fun z42 ez42 rz42 => ?_)
    rw [eM39, mu_t _ _ _ _ (by omega), m1] at ez42
    obtain rfl : z42 = 0 := ez42
    refine V_iconst (q := 46) dX2_append_45 rfl (by decide) ?_
    refine V_iadd (q := 47) dX2_append_46 rfl (by omega) (fun z46 ez46 => ?_)
    refine V_putI (q := 50) 1 dX2_append_47 rfl flX2_34 (Or.inl rfl) (by decide) (congrArg Prod.fst (show _ = (3, 0) by rw [a110])) rfl rfl (fun M47 eM47 => ?_)
    refine V_aload_n (q := 51) dX2_append_50 rfl rfl rfl ?_
    refine V_getI (q := 54) 1 dX2_append_51 rfl flX2_34 (by decide) (congrArg Prod.fst (show _ = (3, 0) by rw [a110])) rfl rfl (fun z51 ez51 rz51 => ?_)
    rw [eM47, mu_s] at ez51
    refine V_iconst (q := 55) dX2_append_54 rfl (by decide) ?_
    refine V_isub (q := 56) dX2_append_55 rfl (by omega) (fun z55 ez55 => ?_)
    exact V_iret dX2_append_56 (Nat.le_of_ble_eq_true rfl) (Nat.le_of_ble_eq_true rfl) ⟨_, rfl, fun t ht => ⟨rfl, by rw [eM47, mu_f _ _ _ _ (by omega), eM39, mu_f _ _ _ _ (by omega)]⟩, by omega⟩
  · exfalso; omega
theorem fX6_addType {Γ : GC} {α : Sh} {μ : Mem} {fc sp ab : Int} (N : FrN α μ) (hfc : 0 ≤ fc ∧ fc ≤ 1) (hsp : 0 ≤ sp ∧ sp ≤ 1) (hab : ab < 0) : MT Γ yX6_addType cX6_addType 4 (some .int) 3 8 102 [(3, 100), (0, fc), (0, sp), (0, ab)] α μ (QI fun r α1 μ1 => Lo α μ α1 μ1 ∧ r = 0) := by
  obtain ⟨⟨⟨⟨a100, a101⟩, m1000, m1001, m1003⟩, m1002, ⟨⟨⟨a110, a111, a112, a113, a114⟩, m1100, m1102, m1103, m1106⟩, ⟨m1101, m1104, m1105⟩, -⟩, -⟩, hf⟩ := id N
  refine MT_of (k := 0) [(3, 100), (0, fc), (0, sp), (0, ab)] pn_X6_addType rfl rfl (fun ad0 => ?_)
  refine V_aload_n (q := 1) dX6_addType_0 rfl rfl rfl ?_
  refine V_getI (q := 4) 2 dX6_addType_1 rfl flX6_22 (by decide) (congrArg Prod.fst (show _ = (7, 0) by rw [a100])) rfl rfl (fun z1 ez1 rz1 => ?_)
  rw [m1002] at ez1
  obtain rfl : z1 = 0 := ez1
  refine V_if_le (q := 7) (tgt := 10) dX6_addType_4 (by decide) rfl (fun c4 => ?_) (fun c4 => ?_)
  · refine V_aload_n (q := 11) dX6_addType_10 rfl rfl rfl ?_
    refine V_getA (q := 14) 0 dX6_addType_11 rfl flX6_10 (by decide) (congrArg Prod.fst (show _ = (7, 0) by rw [a100])) rfl rfl (fun z11 ez11 rz11 => ?_)
    rw [m1000] at ez11
    obtain rfl : z11 = 110 := ez11
    refine V_getI (q := 17) 1 dX6_addType_14 rfl flX6_49 (by decide) (congrArg Prod.fst (show _ = (3, 0) by rw [a110])) rfl rfl (fun z14 ez14 rz14 => ?_)
    rw [m1101] at ez14
    obtain rfl : z14 = 0 := ez14
    refine V_bipush (q := 19) dX6_addType_17 rfl (by decide) ?_
    refine V_icmp_lt (q := 22) (tgt := 27) dX6_addType_19 (by decide) rfl (fun c19 => ?_) (fun c19 => ?_)
    · refine V_aload_n (q := 28) dX6_addType_27 rfl rfl rfl ?_
      refine V_getA (q := 31) 0 dX6_addType_28 rfl flX6_10 (by decide) (congrArg Prod.fst (show _ = (7, 0) by rw [a100])) rfl rfl (fun z28 ez28 rz28 => ?_)
      rw [m1000] at ez28
      obtain rfl : z28 = 110 := ez28
      refine V_new (q := 34) (ci := 4) 1000 dX6_addType_31 rfl ckX6_40 (hf 1000 (by omega)) (by decide) (Nat.le_of_ble_eq_true rfl) (Nat.le_of_ble_eq_true rfl) (fun A31 M31 eA31 eM31 => ?_)
      refine V_dup (q := 35) dX6_addType_34 rfl (show (3 : Nat) ≠ 2 by decide) ?_
      refine V_iload_n (q := 36) dX6_addType_35 rfl rfl rfl ?_
      refine V_iload_n (q := 37) dX6_addType_36 rfl rfl rfl ?_
      refine V_iload_n (q := 38) dX6_addType_37 rfl rfl rfl ?_
      refine V_chI (q := 41) (As := [(0, fc), (0, sp), (0, ab)]) (tX4_init (b := 1000) (by decide) (by rw [eA31, sa_s] <;> rfl) ⟨by omega, by omega⟩ ⟨by omega, by omega⟩ (fun i => by rw [eM31, mn_s]) (fun t0 h1 h2 => (by rw [eA31, sa_t _ _ _ (by omega)]; exact (hf t0 (by omega))))) dX6_addType_38 rfl mlX6_52 mw_X4_init im_X4_init rfl md_X4_init (by decide) rfl rfl (by decide) (by decide) (Nat.le_of_ble_eq_true rfl) (Nat.le_of_ble_eq_true rfl) (Nat.le_of_ble_eq_true rfl) (fun A38 M38 xA38 hM38 => ?_)
      obtain ⟨NM38, fM38⟩ := hM38
      refine V_chVi (q := 44) (As := [(3, 1000)]) (fX2_append (by rw [(fM38 110 (by omega)).1, eA31, sa_t _ _ _ (by omega), a110] <;> rfl) (by rw [(fM38 111 (by omega)).1, eA31, sa_t _ _ _ (by omega), a111] <;> rfl) (by rw [(fM38 110 (by omega)).2, eM31, mn_t _ _ _ (by omega), m1100] <;> rfl) (by rw [(fM38 110 (by omega)).2, eM31, mn_t _ _ _ (by omega), m1101] <;> rfl) NM38 hab) dX6_addType_41 rfl mlX6_55 mw_X2_append im_X2_append sl_X2_append md_X2_append rfl (by decide) (by decide) (congrArg Prod.fst (show _ = (3, 0) by rw [(fM38 110 (by omega)).1, eA31, sa_t _ _ _ (by omega), a110])) rfl rfl (by decide) (by decide) (Nat.le_of_ble_eq_true rfl) (Nat.le_of_ble_eq_true rfl) (Nat.le_of_ble_eq_true rfl) (fun z41 rz41 A41 M41 xA41 hM41 => ?_)
      obtain ⟨lM41, rfl⟩ := hM41
      first | (exfalso; omega) | exact V_iret dX6_addType_44 (Nat.le_of_ble_eq_true rfl) (Nat.le_of_ble_eq_true rfl) ⟨_, rfl, fun t ht => ⟨by rw [(lM41 t (by omega)).1, (fM38 t (by omega)).1, eA31, sa_t _ _ _ (by omega)], by rw [(lM41 t (by omega)).2, (fM38 t (by omega)).2, eM31, mn_t _ _ _ (by omega)]⟩, rfl⟩
    · refine V_bipush (q := 24) dX6_addType_22 rfl (by decide) ?_
      refine V_goto (tgt := 44) dX6_addType_24 (by decide) ?_
      first | (exfalso; omega) | exact V_iret dX6_addType_44 (Nat.le_of_ble_eq_true rfl) (Nat.le_of_ble_eq_true rfl) ⟨_, rfl, fun t ht => ⟨by rw [], by rw []⟩, rfl⟩
  · refine V_bipush (q := 9) dX6_addType_7 rfl (by decide) ?_
    first | (exfalso; omega) | exact V_iret dX6_addType_9 (Nat.le_of_ble_eq_true rfl) (Nat.le_of_ble_eq_true rfl) ⟨_, rfl, fun t ht => ⟨by rw [], by rw []⟩, rfl⟩
theorem fX6_cls {Γ : GC} {α : Sh} {μ : Mem} {x op : Int} (N : FrN α μ) (ho : 0 ≤ op ∧ op ≤ 1) : MT Γ yX6_cls cX6_cls 3 (some .int) 4 8 102 [(3, 100), (0, x), (0, op)] α μ (QI fun r α1 μ1 => Lo α μ α1 μ1 ∧ r = (if x = -1 then 0 else -1)) := by
  obtain ⟨⟨⟨⟨a100, a101⟩, m1000, m1001, m1003⟩, m1002, ⟨⟨⟨a110, a111, a112, a113, a114⟩, m1100, m1102, m1103, m1106⟩, ⟨m1101, m1104, m1105⟩, -⟩, -⟩, hf⟩ := id N
  refine MT_of (k := 0) [(3, 100), (0, x), (0, op)] pn_X6_cls rfl rfl (fun ad0 => ?_)
  refine V_iload_n (q := 1) dX6_cls_0 rfl rfl rfl ?_
  refine V_iconst (q := 2) dX6_cls_1 rfl (by decide) ?_
  refine V_icmp_eq (q := 5) (tgt := 18) dX6_cls_2 (by decide) rfl (fun c2 => ?_) (fun c2 => ?_)
  · refine V_iload_n (q := 19) dX6_cls_18 rfl rfl rfl ?_
    refine V_iconst (q := 20) dX6_cls_19 rfl (by decide) ?_
    refine V_icmp_eq (q := 23) (tgt := 41) dX6_cls_20 (by decide) rfl (fun c20 => ?_) (fun c20 => ?_)
    · refine V_aload_n (q := 42) dX6_cls_41 rfl rfl rfl ?_
      refine V_iconst (q := 43) dX6_cls_42 rfl (by decide) ?_
      refine V_iload_n (q := 44) dX6_cls_43 rfl rfl rfl ?_
      refine V_iload_n (q := 45) dX6_cls_44 rfl rfl rfl ?_
      refine V_iconst (q := 46) dX6_cls_45 rfl (by decide) ?_
      refine V_icmp_ne (q := 49) (tgt := 54) dX6_cls_46 (by decide) rfl (fun c46 => ?_) (fun c46 => ?_)
      · refine V_iload_n (q := 55) dX6_cls_54 rfl rfl rfl ?_
        refine V_chVi (q := 58) (As := [(0, 0), (0, op), (0, x)]) (fX6_addType N (by omega) (by omega) (by omega)) dX6_cls_55 rfl mlX6_45 mw_X6_addType im_X6_addType sl_X6_addType md_X6_addType rfl (by decide) (by decide) (congrArg Prod.fst (show _ = (7, 0) by rw [a100])) rfl rfl (by decide) (by decide) (Nat.le_of_ble_eq_true rfl) (Nat.le_of_ble_eq_true rfl) (Nat.le_of_ble_eq_true rfl) (fun z55 rz55 A55 M55 xA55 hM55 => ?_)
        obtain ⟨lM55, rfl⟩ := hM55
        first | (exfalso; omega) | exact V_iret dX6_cls_58 (Nat.le_of_ble_eq_true rfl) (Nat.le_of_ble_eq_true rfl) ⟨_, rfl, fun t ht => ⟨by rw [(lM55 t (by omega)).1], by rw [(lM55 t (by omega)).2]⟩, by rw [if_pos (by omega)]⟩
      · refine V_bipush (q := 51) dX6_cls_49 rfl (by decide) ?_
        refine V_goto (tgt := 55) dX6_cls_51 (by decide) ?_
        refine V_chVi (q := 58) (As := [(0, 0), (0, op), (0, (-6))]) (fX6_addType N (by omega) (by omega) (by omega)) dX6_cls_55 rfl mlX6_45 mw_X6_addType im_X6_addType sl_X6_addType md_X6_addType rfl (by decide) (by decide) (congrArg Prod.fst (show _ = (7, 0) by rw [a100])) rfl rfl (by decide) (by decide) (Nat.le_of_ble_eq_true rfl) (Nat.le_of_ble_eq_true rfl) (Nat.le_of_ble_eq_true rfl) (fun z55_2 rz55_2 A55_2 M55_2 xA55_2 hM55_2 => ?_)
        obtain ⟨lM55_2, rfl⟩ := hM55_2
        first | (exfalso; omega) | exact V_iret dX6_cls_58 (Nat.le_of_ble_eq_true rfl) (Nat.le_of_ble_eq_true rfl) ⟨_, rfl, fun t ht => ⟨by rw [(lM55_2 t (by omega)).1], by rw [(lM55_2 t (by omega)).2]⟩, by rw [if_pos (by omega)]⟩
    · exfalso; omega
  · refine V_aload_n (q := 6) dX6_cls_5 rfl rfl rfl ?_
    refine V_getA (q := 9) 0 dX6_cls_6 rfl flX6_10 (by decide) (congrArg Prod.fst (show _ = (7, 0) by rw [a100])) rfl rfl (fun z6 ez6 rz6 => ?_)
    rw [m1000] at ez6
    obtain rfl : z6 = 110 := ez6
    refine V_iload_n (q := 10) dX6_cls_9 rfl rfl rfl ?_
    refine V_rdV (q := 13) (As := [(0, x)]) (tX2_knows a110) dX6_cls_10 rfl mlX6_31 mw_X2_knows im_X2_knows sl_X2_knows md_X2_knows rfl (by decide) (by decide) (congrArg Prod.fst (show _ = (3, 0) by rw [a110])) rfl rfl (by decide) (by decide) (Nat.le_of_ble_eq_true rfl) (Nat.le_of_ble_eq_true rfl) (Nat.le_of_ble_eq_true rfl) (fun z10 rz10 hz10 => ?_)
    obtain ⟨bz10, hz10⟩ := hz10
    rw [m1101] at hz10
    refine V_if_ne (q := 16) (tgt := 18) dX6_cls_13 (by decide) rfl (fun c13 => ?_) (fun c13 => ?_)
    · refine V_iload_n (q := 19) dX6_cls_18 rfl rfl rfl ?_
      refine V_iconst (q := 20) dX6_cls_19 rfl (by decide) ?_
      refine V_icmp_eq (q := 23) (tgt := 41) dX6_cls_20 (by decide) rfl (fun c20_2 => ?_) (fun c20_2 => ?_)
      · refine V_aload_n (q := 42) dX6_cls_41 rfl rfl rfl ?_
        refine V_iconst (q := 43) dX6_cls_42 rfl (by decide) ?_
        refine V_iload_n (q := 44) dX6_cls_43 rfl rfl rfl ?_
        refine V_iload_n (q := 45) dX6_cls_44 rfl rfl rfl ?_
        refine V_iconst (q := 46) dX6_cls_45 rfl (by decide) ?_
        refine V_icmp_ne (q := 49) (tgt := 54) dX6_cls_46 (by decide) rfl (fun c46_2 => ?_) (fun c46_2 => ?_)
        · refine V_iload_n (q := 55) dX6_cls_54 rfl rfl rfl ?_
          refine V_chVi (q := 58) (As := [(0, 0), (0, op), (0, x)]) (fX6_addType N (by omega) (by omega) (by omega)) dX6_cls_55 rfl mlX6_45 mw_X6_addType im_X6_addType sl_X6_addType md_X6_addType rfl (by decide) (by decide) (congrArg Prod.fst (show _ = (7, 0) by rw [a100])) rfl rfl (by decide) (by decide) (Nat.le_of_ble_eq_true rfl) (Nat.le_of_ble_eq_true rfl) (Nat.le_of_ble_eq_true rfl) (fun z55_3 rz55_3 A55_3 M55_3 xA55_3 hM55_3 => ?_)
          obtain ⟨lM55_3, rfl⟩ := hM55_3
          first | (exfalso; omega) | exact V_iret dX6_cls_58 (Nat.le_of_ble_eq_true rfl) (Nat.le_of_ble_eq_true rfl) ⟨_, rfl, fun t ht => ⟨by rw [(lM55_3 t (by omega)).1], by rw [(lM55_3 t (by omega)).2]⟩, by rw [if_pos (by omega)]⟩
        · refine V_bipush (q := 51) dX6_cls_49 rfl (by decide) ?_
          refine V_goto (tgt := 55) dX6_cls_51 (by decide) ?_
          refine V_chVi (q := 58) (As := [(0, 0), (0, op), (0, (-6))]) (fX6_addType N (by omega) (by omega) (by omega)) dX6_cls_55 rfl mlX6_45 mw_X6_addType im_X6_addType sl_X6_addType md_X6_addType rfl (by decide) (by decide) (congrArg Prod.fst (show _ = (7, 0) by rw [a100])) rfl rfl (by decide) (by decide) (Nat.le_of_ble_eq_true rfl) (Nat.le_of_ble_eq_true rfl) (Nat.le_of_ble_eq_true rfl) (fun z55_4 rz55_4 A55_4 M55_4 xA55_4 hM55_4 => ?_)
          obtain ⟨lM55_4, rfl⟩ := hM55_4
          first | (exfalso; omega) | exact V_iret dX6_cls_58 (Nat.le_of_ble_eq_true rfl) (Nat.le_of_ble_eq_true rfl) ⟨_, rfl, fun t ht => ⟨by rw [(lM55_4 t (by omega)).1], by rw [(lM55_4 t (by omega)).2]⟩, by rw [if_pos (by omega)]⟩
      · exfalso; omega
    · refine V_iconst (q := 17) dX6_cls_16 rfl (by decide) ?_
      first | (exfalso; omega) | exact V_iret dX6_cls_17 (Nat.le_of_ble_eq_true rfl) (Nat.le_of_ble_eq_true rfl) ⟨_, rfl, Lo.rf, by rw [if_neg (by omega)]⟩
theorem fX6_face {Γ : GC} {α : Sh} {μ : Mem} {op : Int} (N : FrN α μ) (ho : 0 ≤ op ∧ op ≤ 1) : MT Γ yX6_face cX6_face 2 (some .int) 4 8 102 [(3, 100), (0, op)] α μ (QI fun r α1 μ1 => Lo α μ α1 μ1 ∧ r = 0) := by
  obtain ⟨⟨⟨⟨a100, a101⟩, m1000, m1001, m1003⟩, m1002, ⟨⟨⟨a110, a111, a112, a113, a114⟩, m1100, m1102, m1103, m1106⟩, ⟨m1101, m1104, m1105⟩, -⟩, -⟩, hf⟩ := id N
  refine MT_of (k := 0) [(3, 100), (0, op)] pn_X6_face rfl rfl (fun ad0 => ?_)
  refine V_aload_n (q := 1) dX6_face_0 rfl rfl rfl ?_
  refine V_iconst (q := 2) dX6_face_1 rfl (by decide) ?_
  refine V_iload_n (q := 3) dX6_face_2 rfl rfl rfl ?_
  refine V_bipush (q := 5) dX6_face_3 rfl (by decide) ?_
  refine V_chVi (q := 8) (As := [(0, 1), (0, op), (0, (-6))]) (fX6_addType N (by omega) (by omega) (by omega)) dX6_face_5 rfl mlX6_45 mw_X6_addType im_X6_addType sl_X6_addType md_X6_addType rfl (by decide) (by decide) (congrArg Prod.fst (show _ = (7, 0) by rw [a100])) rfl rfl (by decide) (by decide) (Nat.le_of_ble_eq_true rfl) (Nat.le_of_ble_eq_true rfl) (Nat.le_of_ble_eq_true rfl) (fun z5 rz5 A5 M5 xA5 hM5 => ?_)
  obtain ⟨lM5, rfl⟩ := hM5
  first | (exfalso; omega) | exact V_iret dX6_face_8 (Nat.le_of_ble_eq_true rfl) (Nat.le_of_ble_eq_true rfl) ⟨_, rfl, fun t ht => ⟨by rw [(lM5 t (by omega)).1], by rw [(lM5 t (by omega)).2]⟩, rfl⟩
