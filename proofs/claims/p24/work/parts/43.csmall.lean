/-! THE CLASS: small readers -/
theorem tX2_knows {Γ : GC} {α : Sh} {μ : Mem} {x : Int} (h0 : α 110 = (3, 0)) : MT Γ yX2_knows cX2_knows 2 (some .boolean) 0 0 0 [(3, 110), (0, x)] α μ (QI fun r α1 μ1 => α1 = α ∧ μ1 = μ ∧ (0 ≤ r ∧ r ≤ 1) ∧ (r = 1 ↔ 0 ≤ x ∧ x < μ 110 1)) := by
  refine MT_of (k := 0) [(3, 110), (0, x)] pn_X2_knows rfl rfl (fun ad0 => ?_)
  refine V_iload_n (q := 1) dX2_knows_0 rfl rfl rfl ?_
  refine V_if_lt (q := 4) (tgt := 16) dX2_knows_1 (by decide) rfl (fun c1 => ?_) (fun c1 => ?_)
  · refine V_iconst (q := 17) dX2_knows_16 rfl (by decide) ?_
    first | (exfalso; omega) | exact V_zret dX2_knows_17 (by decide) (Nat.le_of_ble_eq_true rfl) (Nat.le_of_ble_eq_true rfl) ⟨_, rfl, rfl, rfl, by omega, by omega⟩
  · refine V_iload_n (q := 5) dX2_knows_4 rfl rfl rfl ?_
    refine V_aload_n (q := 6) dX2_knows_5 rfl rfl rfl ?_
    refine V_getI (q := 9) 1 dX2_knows_6 rfl flX2_34 (by decide) (congrArg Prod.fst (show _ = (3, 0) by rw [h0])) rfl rfl (fun z6 ez6 rz6 => ?_)
    refine V_icmp_ge (q := 12) (tgt := 16) dX2_knows_9 (by decide) rfl (fun c9 => ?_) (fun c9 => ?_)
    · refine V_iconst (q := 17) dX2_knows_16 rfl (by decide) ?_
      first | (exfalso; omega) | exact V_zret dX2_knows_17 (by decide) (Nat.le_of_ble_eq_true rfl) (Nat.le_of_ble_eq_true rfl) ⟨_, rfl, rfl, rfl, by omega, by omega⟩
    · refine V_iconst (q := 13) dX2_knows_12 rfl (by decide) ?_
      refine V_goto (tgt := 17) dX2_knows_13 (by decide) ?_
      first | (exfalso; omega) | exact V_zret dX2_knows_17 (by decide) (Nat.le_of_ble_eq_true rfl) (Nat.le_of_ble_eq_true rfl) ⟨_, rfl, rfl, rfl, by omega, by omega⟩
theorem tX6_isWorld {Γ : GC} {α : Sh} {μ : Mem} {x : Int} (h0 : α 100 = (7, 0)) : MT Γ yX6_isWorld cX6_isWorld 2 (some .boolean) 0 0 0 [(3, 100), (0, x)] α μ (QI fun r α1 μ1 => α1 = α ∧ μ1 = μ ∧ (0 ≤ r ∧ r ≤ 1) ∧ (r = 1 ↔ 0 ≤ x ∧ x < μ 100 2)) := by
  refine MT_of (k := 0) [(3, 100), (0, x)] pn_X6_isWorld rfl rfl (fun ad0 => ?_)
  refine V_iload_n (q := 1) dX6_isWorld_0 rfl rfl rfl ?_
  refine V_if_lt (q := 4) (tgt := 16) dX6_isWorld_1 (by decide) rfl (fun c1 => ?_) (fun c1 => ?_)
  · refine V_iconst (q := 17) dX6_isWorld_16 rfl (by decide) ?_
    first | (exfalso; omega) | exact V_zret dX6_isWorld_17 (by decide) (Nat.le_of_ble_eq_true rfl) (Nat.le_of_ble_eq_true rfl) ⟨_, rfl, rfl, rfl, by omega, by omega⟩
  · refine V_iload_n (q := 5) dX6_isWorld_4 rfl rfl rfl ?_
    refine V_aload_n (q := 6) dX6_isWorld_5 rfl rfl rfl ?_
    refine V_getI (q := 9) 2 dX6_isWorld_6 rfl flX6_22 (by decide) (congrArg Prod.fst (show _ = (7, 0) by rw [h0])) rfl rfl (fun z6 ez6 rz6 => ?_)
    refine V_icmp_ge (q := 12) (tgt := 16) dX6_isWorld_9 (by decide) rfl (fun c9 => ?_) (fun c9 => ?_)
    · refine V_iconst (q := 17) dX6_isWorld_16 rfl (by decide) ?_
      first | (exfalso; omega) | exact V_zret dX6_isWorld_17 (by decide) (Nat.le_of_ble_eq_true rfl) (Nat.le_of_ble_eq_true rfl) ⟨_, rfl, rfl, rfl, by omega, by omega⟩
    · refine V_iconst (q := 13) dX6_isWorld_12 rfl (by decide) ?_
      refine V_goto (tgt := 17) dX6_isWorld_13 (by decide) ?_
      first | (exfalso; omega) | exact V_zret dX6_isWorld_17 (by decide) (Nat.le_of_ble_eq_true rfl) (Nat.le_of_ble_eq_true rfl) ⟨_, rfl, rfl, rfl, by omega, by omega⟩
theorem tX6_isName {Γ : GC} {α : Sh} {μ : Mem} {x : Int} : MT Γ yX6_isName cX6_isName 1 (some .boolean) 0 0 0 [(0, x)] α μ (QI fun r α1 μ1 => α1 = α ∧ μ1 = μ ∧ (0 ≤ r ∧ r ≤ 1) ∧ (r = 1 ↔ 0 ≤ x ∧ x ≤ 9)) := by
  refine MT_of (k := 0) [(0, x)] pn_X6_isName rfl rfl (fun ad0 => ?_)
  refine V_iload_n (q := 1) dX6_isName_0 rfl rfl rfl ?_
  refine V_if_lt (q := 4) (tgt := 14) dX6_isName_1 (by decide) rfl (fun c1 => ?_) (fun c1 => ?_)
  · refine V_iconst (q := 15) dX6_isName_14 rfl (by decide) ?_
    first | (exfalso; omega) | exact V_zret dX6_isName_15 (by decide) (Nat.le_of_ble_eq_true rfl) (Nat.le_of_ble_eq_true rfl) ⟨_, rfl, rfl, rfl, by omega, by omega⟩
  · refine V_iload_n (q := 5) dX6_isName_4 rfl rfl rfl ?_
    refine V_bipush (q := 7) dX6_isName_5 rfl (by decide) ?_
    refine V_icmp_ge (q := 10) (tgt := 14) dX6_isName_7 (by decide) rfl (fun c7 => ?_) (fun c7 => ?_)
    · refine V_iconst (q := 15) dX6_isName_14 rfl (by decide) ?_
      first | (exfalso; omega) | exact V_zret dX6_isName_15 (by decide) (Nat.le_of_ble_eq_true rfl) (Nat.le_of_ble_eq_true rfl) ⟨_, rfl, rfl, rfl, by omega, by omega⟩
    · refine V_iconst (q := 11) dX6_isName_10 rfl (by decide) ?_
      refine V_goto (tgt := 15) dX6_isName_11 (by decide) ?_
      first | (exfalso; omega) | exact V_zret dX6_isName_15 (by decide) (Nat.le_of_ble_eq_true rfl) (Nat.le_of_ble_eq_true rfl) ⟨_, rfl, rfl, rfl, by omega, by omega⟩
theorem tX6_usesType {Γ : GC} {α : Sh} {μ : Mem} {x : Int} : MT Γ yX6_usesType cX6_usesType 1 (some .boolean) 0 0 0 [(0, x)] α μ (QI fun r α1 μ1 => α1 = α ∧ μ1 = μ ∧ (0 ≤ r ∧ r ≤ 1) ∧ (r = 1 ↔ 1 ≤ x ∧ x ≤ 6)) := by
  refine MT_of (k := 0) [(0, x)] pn_X6_usesType rfl rfl (fun ad0 => ?_)
  refine V_iload_n (q := 1) dX6_usesType_0 rfl rfl rfl ?_
  refine V_iconst (q := 2) dX6_usesType_1 rfl (by decide) ?_
  refine V_icmp_lt (q := 5) (tgt := 15) dX6_usesType_2 (by decide) rfl (fun c2 => ?_) (fun c2 => ?_)
  · refine V_iconst (q := 16) dX6_usesType_15 rfl (by decide) ?_
    first | (exfalso; omega) | exact V_zret dX6_usesType_16 (by decide) (Nat.le_of_ble_eq_true rfl) (Nat.le_of_ble_eq_true rfl) ⟨_, rfl, rfl, rfl, by omega, by omega⟩
  · refine V_iload_n (q := 6) dX6_usesType_5 rfl rfl rfl ?_
    refine V_bipush (q := 8) dX6_usesType_6 rfl (by decide) ?_
    refine V_icmp_gt (q := 11) (tgt := 15) dX6_usesType_8 (by decide) rfl (fun c8 => ?_) (fun c8 => ?_)
    · refine V_iconst (q := 16) dX6_usesType_15 rfl (by decide) ?_
      first | (exfalso; omega) | exact V_zret dX6_usesType_16 (by decide) (Nat.le_of_ble_eq_true rfl) (Nat.le_of_ble_eq_true rfl) ⟨_, rfl, rfl, rfl, by omega, by omega⟩
    · refine V_iconst (q := 12) dX6_usesType_11 rfl (by decide) ?_
      refine V_goto (tgt := 16) dX6_usesType_12 (by decide) ?_
      first | (exfalso; omega) | exact V_zret dX6_usesType_16 (by decide) (Nat.le_of_ble_eq_true rfl) (Nat.le_of_ble_eq_true rfl) ⟨_, rfl, rfl, rfl, by omega, by omega⟩
theorem tX6_usesName {Γ : GC} {α : Sh} {μ : Mem} {x : Int} : MT Γ yX6_usesName cX6_usesName 1 (some .boolean) 0 0 0 [(0, x)] α μ (QI fun r α1 μ1 => α1 = α ∧ μ1 = μ ∧ (0 ≤ r ∧ r ≤ 1) ∧ (r = 1 ↔ 1 ≤ x ∧ x ≤ 3)) := by
  refine MT_of (k := 0) [(0, x)] pn_X6_usesName rfl rfl (fun ad0 => ?_)
  refine V_iload_n (q := 1) dX6_usesName_0 rfl rfl rfl ?_
  refine V_iconst (q := 2) dX6_usesName_1 rfl (by decide) ?_
  refine V_icmp_lt (q := 5) (tgt := 14) dX6_usesName_2 (by decide) rfl (fun c2 => ?_) (fun c2 => ?_)
  · refine V_iconst (q := 15) dX6_usesName_14 rfl (by decide) ?_
    first | (exfalso; omega) | exact V_zret dX6_usesName_15 (by decide) (Nat.le_of_ble_eq_true rfl) (Nat.le_of_ble_eq_true rfl) ⟨_, rfl, rfl, rfl, by omega, by omega⟩
  · refine V_iload_n (q := 6) dX6_usesName_5 rfl rfl rfl ?_
    refine V_iconst (q := 7) dX6_usesName_6 rfl (by decide) ?_
    refine V_icmp_gt (q := 10) (tgt := 14) dX6_usesName_7 (by decide) rfl (fun c7 => ?_) (fun c7 => ?_)
    · refine V_iconst (q := 15) dX6_usesName_14 rfl (by decide) ?_
      first | (exfalso; omega) | exact V_zret dX6_usesName_15 (by decide) (Nat.le_of_ble_eq_true rfl) (Nat.le_of_ble_eq_true rfl) ⟨_, rfl, rfl, rfl, by omega, by omega⟩
    · refine V_iconst (q := 11) dX6_usesName_10 rfl (by decide) ?_
      refine V_goto (tgt := 15) dX6_usesName_11 (by decide) ?_
      first | (exfalso; omega) | exact V_zret dX6_usesName_15 (by decide) (Nat.le_of_ble_eq_true rfl) (Nat.le_of_ble_eq_true rfl) ⟨_, rfl, rfl, rfl, by omega, by omega⟩
theorem tX6_fitsValue {Γ : GC} {α : Sh} {μ : Mem} {k v : Int} : MT Γ yX6_fitsValue cX6_fitsValue 2 (some .boolean) 0 0 0 [(0, k), (0, v)] α μ (QI fun r α1 μ1 => α1 = α ∧ μ1 = μ ∧ (0 ≤ r ∧ r ≤ 1) ∧ (r = 1 ↔ (k ≠ 7 ∨ (0 ≤ v ∧ v ≤ 19)) ∧ (k ≠ 8 ∨ (-1 ≤ v ∧ v ≤ 22)))) := by
  refine MT_of (k := 0) [(0, k), (0, v)] pn_X6_fitsValue rfl rfl (fun ad0 => ?_)
  refine V_iload_n (q := 1) dX6_fitsValue_0 rfl rfl rfl ?_
  refine V_bipush (q := 3) dX6_fitsValue_1 rfl (by decide) ?_
  refine V_icmp_ne (q := 6) (tgt := 22) dX6_fitsValue_3 (by decide) rfl (fun c3 => ?_) (fun c3 => ?_)
  · refine V_iload_n (q := 23) dX6_fitsValue_22 rfl rfl rfl ?_
    refine V_bipush (q := 25) dX6_fitsValue_23 rfl (by decide) ?_
    refine V_icmp_ne (q := 28) (tgt := 39) dX6_fitsValue_25 (by decide) rfl (fun c25 => ?_) (fun c25 => ?_)
    · refine V_iconst (q := 40) dX6_fitsValue_39 rfl (by decide) ?_
      refine V_goto (tgt := 44) dX6_fitsValue_40 (by decide) ?_
      first | (exfalso; omega) | exact V_zret dX6_fitsValue_44 (by decide) (Nat.le_of_ble_eq_true rfl) (Nat.le_of_ble_eq_true rfl) ⟨_, rfl, rfl, rfl, by omega, by omega⟩
    · refine V_iload_n (q := 29) dX6_fitsValue_28 rfl rfl rfl ?_
      refine V_iconst (q := 30) dX6_fitsValue_29 rfl (by decide) ?_
      refine V_icmp_lt (q := 33) (tgt := 43) dX6_fitsValue_30 (by decide) rfl (fun c30 => ?_) (fun c30 => ?_)
      · refine V_iconst (q := 44) dX6_fitsValue_43 rfl (by decide) ?_
        first | (exfalso; omega) | exact V_zret dX6_fitsValue_44 (by decide) (Nat.le_of_ble_eq_true rfl) (Nat.le_of_ble_eq_true rfl) ⟨_, rfl, rfl, rfl, by omega, by omega⟩
      · refine V_iload_n (q := 34) dX6_fitsValue_33 rfl rfl rfl ?_
        refine V_bipush (q := 36) dX6_fitsValue_34 rfl (by decide) ?_
        refine V_icmp_gt (q := 39) (tgt := 43) dX6_fitsValue_36 (by decide) rfl (fun c36 => ?_) (fun c36 => ?_)
        · refine V_iconst (q := 44) dX6_fitsValue_43 rfl (by decide) ?_
          first | (exfalso; omega) | exact V_zret dX6_fitsValue_44 (by decide) (Nat.le_of_ble_eq_true rfl) (Nat.le_of_ble_eq_true rfl) ⟨_, rfl, rfl, rfl, by omega, by omega⟩
        · refine V_iconst (q := 40) dX6_fitsValue_39 rfl (by decide) ?_
          refine V_goto (tgt := 44) dX6_fitsValue_40 (by decide) ?_
          first | (exfalso; omega) | exact V_zret dX6_fitsValue_44 (by decide) (Nat.le_of_ble_eq_true rfl) (Nat.le_of_ble_eq_true rfl) ⟨_, rfl, rfl, rfl, by omega, by omega⟩
  · refine V_iload_n (q := 7) dX6_fitsValue_6 rfl rfl rfl ?_
    refine V_if_lt (q := 10) (tgt := 20) dX6_fitsValue_7 (by decide) rfl (fun c7 => ?_) (fun c7 => ?_)
    · refine V_iconst (q := 21) dX6_fitsValue_20 rfl (by decide) ?_
      first | (exfalso; omega) | exact V_zret dX6_fitsValue_21 (by decide) (Nat.le_of_ble_eq_true rfl) (Nat.le_of_ble_eq_true rfl) ⟨_, rfl, rfl, rfl, by omega, by omega⟩
    · refine V_iload_n (q := 11) dX6_fitsValue_10 rfl rfl rfl ?_
      refine V_bipush (q := 13) dX6_fitsValue_11 rfl (by decide) ?_
      refine V_icmp_ge (q := 16) (tgt := 20) dX6_fitsValue_13 (by decide) rfl (fun c13 => ?_) (fun c13 => ?_)
      · refine V_iconst (q := 21) dX6_fitsValue_20 rfl (by decide) ?_
        first | (exfalso; omega) | exact V_zret dX6_fitsValue_21 (by decide) (Nat.le_of_ble_eq_true rfl) (Nat.le_of_ble_eq_true rfl) ⟨_, rfl, rfl, rfl, by omega, by omega⟩
      · refine V_iconst (q := 17) dX6_fitsValue_16 rfl (by decide) ?_
        refine V_goto (tgt := 21) dX6_fitsValue_17 (by decide) ?_
        first | (exfalso; omega) | exact V_zret dX6_fitsValue_21 (by decide) (Nat.le_of_ble_eq_true rfl) (Nat.le_of_ble_eq_true rfl) ⟨_, rfl, rfl, rfl, by omega, by omega⟩
