/-! THE CLASS: what the description is changed by, cell by cell -/
theorem tX0_init {Γ : GC} {α : Sh} {μ : Mem} {a k t n v : Int} (ha0 : 0 ≤ a) (ha : α a = (1, 0)) : MT Γ yX0_init cX0_init 5 none 1 0 0 [(3, a), (0, k), (0, t), (0, n), (0, v)] α μ (QN fun α1 μ1 => α1 = α ∧ AcR α1 μ1 a k t n v ∧ ∀ u, u ≠ a → μ1 u = μ u) := by
  refine MT_of (k := 0) [(3, a), (0, k), (0, t), (0, n), (0, v)] pn_X0_init rfl rfl (fun ad0 => ?_)
  refine V_aload_n (q := 1) dX0_init_0 rfl rfl rfl ?_
  refine V_objInit (q := 4) dX0_init_1 rfl mlX0_1 (by omega) (by decide) (by decide) ?_
  refine V_aload_n (q := 5) dX0_init_4 rfl rfl rfl ?_
  refine V_iload_n (q := 6) dX0_init_5 rfl rfl rfl ?_
  refine V_putI (q := 9) 0 dX0_init_6 rfl flX0_7 (Or.inr ⟨rfl, rfl, rfl⟩) (by omega) (congrArg Prod.fst (show _ = (1, 0) by rw [ha])) rfl rfl (fun M6 eM6 => ?_)
  refine V_aload_n (q := 10) dX0_init_9 rfl rfl rfl ?_
  refine V_iload_n (q := 11) dX0_init_10 rfl rfl rfl ?_
  refine V_putI (q := 14) 1 dX0_init_11 rfl flX0_13 (Or.inr ⟨rfl, rfl, rfl⟩) (by omega) (congrArg Prod.fst (show _ = (1, 0) by rw [ha])) rfl rfl (fun M11 eM11 => ?_)
  refine V_aload_n (q := 15) dX0_init_14 rfl rfl rfl ?_
  refine V_iload_n (q := 16) dX0_init_15 rfl rfl rfl ?_
  refine V_putI (q := 19) 2 dX0_init_16 rfl flX0_16 (Or.inr ⟨rfl, rfl, rfl⟩) (by omega) (congrArg Prod.fst (show _ = (1, 0) by rw [ha])) rfl rfl (fun M16 eM16 => ?_)
  refine V_aload_n (q := 20) dX0_init_19 rfl rfl rfl ?_
  refine V_iload (q := 22) dX0_init_20 rfl rfl ?_
  refine V_putI (q := 25) 3 dX0_init_22 rfl flX0_19 (Or.inr ⟨rfl, rfl, rfl⟩) (by omega) (congrArg Prod.fst (show _ = (1, 0) by rw [ha])) rfl rfl (fun M22 eM22 => ?_)
  exact V_vret dX0_init_25 (Nat.le_of_ble_eq_true rfl) (Nat.le_of_ble_eq_true rfl) ⟨rfl, rfl, ⟨ha, (by rw [eM22, mu_i _ _ _ _ (by omega), eM16, mu_i _ _ _ _ (by omega), eM11, mu_i _ _ _ _ (by omega), eM6, mu_s] <;> rfl), (by rw [eM22, mu_i _ _ _ _ (by omega), eM16, mu_i _ _ _ _ (by omega), eM11, mu_s] <;> rfl), (by rw [eM22, mu_i _ _ _ _ (by omega), eM16, mu_s] <;> rfl), (by rw [eM22, mu_s] <;> rfl)⟩, fun u hu => by rw [eM22, mu_f _ _ _ _ hu, eM16, mu_f _ _ _ _ hu, eM11, mu_f _ _ _ _ hu, eM6, mu_f _ _ _ _ hu]⟩
theorem tX1_append {Γ : GC} {α : Sh} {μ : Mem} {B a sz : Int} (hB0 : 0 ≤ B) (ha0 : 0 ≤ a) (hB : BoS B α μ) (ha : α a = (1, 0)) (hs : μ B 1 = sz) (h0 : 0 ≤ sz ∧ sz < 12) : MT Γ yX1_append cX1_append 2 (some .int) 0 0 0 [(3, B), (3, a)] α μ (QI fun r α1 μ1 => α1 = α ∧ μ1 = mu (mu μ (B + 1) sz a) B 1 (sz + 1) ∧ r = sz + 1) := by
  refine MT_of (k := 0) [(3, B), (3, a)] pn_X1_append rfl rfl (fun ad0 => ?_)
  refine V_aload_n (q := 1) dX1_append_0 rfl rfl rfl ?_
  refine V_getI (q := 4) 1 dX1_append_1 rfl flX1_17 (by omega) (congrArg Prod.fst (show _ = (2, 0) by rw [hB.1])) rfl rfl (fun z1 ez1 rz1 => ?_)
  rw [hs] at ez1
  obtain rfl : sz = z1 := ez1.symm
  refine V_bipush (q := 6) dX1_append_4 rfl (by decide) ?_
  refine V_icmp_ge (q := 9) (tgt := 29) dX1_append_6 (by decide) rfl (fun c6 => ?_) (fun c6 => ?_)
  · exfalso; omega
  · refine V_aload_n (q := 10) dX1_append_9 rfl rfl rfl ?_
    refine V_getA (q := 13) 0 dX1_append_10 rfl flX1_11 (by omega) (congrArg Prod.fst (show _ = (2, 0) by rw [hB.1])) rfl rfl (fun z10 ez10 rz10 => ?_)
    rw [hB.2.2] at ez10
    obtain rfl : z10 = (B + 1) := ez10
    refine V_aload_n (q := 14) dX1_append_13 rfl rfl rfl ?_
    refine V_getI (q := 17) 1 dX1_append_14 rfl flX1_17 (by omega) (congrArg Prod.fst (show _ = (2, 0) by rw [hB.1])) rfl rfl (fun z14 ez14 rz14 => ?_)
    rw [hs] at ez14
    obtain rfl : sz = z14 := ez14.symm
    refine V_aload_n (q := 18) dX1_append_17 rfl rfl rfl ?_
    refine V_aast (q := 19) (n := 12) (ta := 25) (ci := 0) dX1_append_18 rfl (by omega) (by rw [hB.2.1]) rfl (by decide) (by decide) (by omega) (by omega) (congrArg Prod.fst (show _ = (1, 0) by rw [ha])) (fun M18 eM18 => ?_)
    refine V_aload_n (q := 20) dX1_append_19 rfl rfl rfl ?_
    refine V_dup (q := 21) dX1_append_20 rfl (show (3 : Nat) ≠ 2 by decide) ?_
    refine V_getI (q := 24) 1 dX1_append_21 rfl flX1_17 (by omega) (congrArg Prod.fst (show _ = (2, 0) by rw [hB.1])) rfl rfl (fun z21 ez21 rz21 => ?_)
    rw [eM18, mu_t _ _ _ _ (by omega), hs] at ez21
    obtain rfl : sz = z21 := ez21.symm
    refine V_iconst (q := 25) dX1_append_24 rfl (by decide) ?_
    refine V_iadd (q := 26) dX1_append_25 rfl (by omega) (fun z25 ez25 => ?_)
    refine V_putI (q := 29) 1 dX1_append_26 rfl flX1_17 (Or.inl rfl) (by omega) (congrArg Prod.fst (show _ = (2, 0) by rw [hB.1])) rfl rfl (fun M26 eM26 => ?_)
    refine V_aload_n (q := 30) dX1_append_29 rfl rfl rfl ?_
    refine V_getI (q := 33) 1 dX1_append_30 rfl flX1_17 (by omega) (congrArg Prod.fst (show _ = (2, 0) by rw [hB.1])) rfl rfl (fun z30 ez30 rz30 => ?_)
    rw [eM26, mu_s] at ez30
    obtain rfl : z25 = z30 := ez30.symm
    exact V_iret dX1_append_33 (Nat.le_of_ble_eq_true rfl) (Nat.le_of_ble_eq_true rfl) ⟨_, rfl, rfl, by rw [eM26, eM18, ez25], by rw [ez30]; exact ez25⟩
theorem tX4_addField {Γ : GC} {α : Sh} {μ : Mem} {T nm c v fc : Int} (hT0 : 0 ≤ T) (hT : TyS T α μ) (hm : 0 ≤ nm ∧ nm ≤ 9) (hf : μ T 8 = fc) (h6 : 0 ≤ fc ∧ fc < 6) : MT Γ yX4_addField cX4_addField 4 none 0 0 0 [(3, T), (0, nm), (0, c), (0, v)] α μ (QN fun α1 μ1 => α1 = α ∧ μ1 = mu (mu (mu μ (T + 2) nm (if c = 0 then 1 else 2)) (T + 3) nm v) T 8 (fc + 1)) := by
  refine MT_of (k := 0) [(3, T), (0, nm), (0, c), (0, v)] pn_X4_addField rfl rfl (fun ad0 => ?_)
  refine V_aload_n (q := 1) dX4_addField_0 rfl rfl rfl ?_
  refine V_getA (q := 4) 6 dX4_addField_1 rfl flX4_15 (by omega) (congrArg Prod.fst (show _ = (5, 0) by rw [hT.1.1])) rfl rfl (fun z1 ez1 rz1 => ?_)
  rw [hT.2.2.1] at ez1
  obtain rfl : z1 = (T + 2) := ez1
  refine V_iload_n (q := 5) dX4_addField_4 rfl rfl rfl ?_
  refine V_iload_n (q := 6) dX4_addField_5 rfl rfl rfl ?_
  refine V_if_eq (q := 9) (tgt := 13) dX4_addField_6 (by decide) rfl (fun c6 => ?_) (fun c6 => ?_)
  · refine V_iconst (q := 14) dX4_addField_13 rfl (by decide) ?_
    refine V_iast (q := 15) (n := 10) dX4_addField_14 rfl (by omega) (by rw [hT.1.2.2.1]) (by omega) (fun M14 eM14 => ?_)
    refine V_aload_n (q := 16) dX4_addField_15 rfl rfl rfl ?_
    refine V_getA (q := 19) 7 dX4_addField_16 rfl flX4_18 (by omega) (congrArg Prod.fst (show _ = (5, 0) by rw [hT.1.1])) rfl rfl (fun z16 ez16 rz16 => ?_)
    rw [eM14, mu_t _ _ _ _ (by omega), hT.2.2.2.1] at ez16
    obtain rfl : z16 = (T + 3) := ez16
    refine V_iload_n (q := 20) dX4_addField_19 rfl rfl rfl ?_
    refine V_iload_n (q := 21) dX4_addField_20 rfl rfl rfl ?_
    refine V_iast (q := 22) (n := 10) dX4_addField_21 rfl (by omega) (by rw [hT.1.2.2.2.1]) (by omega) (fun M21 eM21 => ?_)
    refine V_aload_n (q := 23) dX4_addField_22 rfl rfl rfl ?_
    refine V_dup (q := 24) dX4_addField_23 rfl (show (3 : Nat) ≠ 2 by decide) ?_
    refine V_getI (q := 27) 8 dX4_addField_24 rfl flX4_49 (by omega) (congrArg Prod.fst (show _ = (5, 0) by rw [hT.1.1])) rfl rfl (fun z24 ez24 rz24 => ?_)
    rw [eM21, mu_t _ _ _ _ (by omega), eM14, mu_t _ _ _ _ (by omega), hf] at ez24
    obtain rfl : fc = z24 := ez24.symm
    refine V_iconst (q := 28) dX4_addField_27 rfl (by decide) ?_
    refine V_iadd (q := 29) dX4_addField_28 rfl (by omega) (fun z28 ez28 => ?_)
    refine V_putI (q := 32) 8 dX4_addField_29 rfl flX4_49 (Or.inl rfl) (by omega) (congrArg Prod.fst (show _ = (5, 0) by rw [hT.1.1])) rfl rfl (fun M29 eM29 => ?_)
    exact V_vret dX4_addField_32 (Nat.le_of_ble_eq_true rfl) (Nat.le_of_ble_eq_true rfl) ⟨rfl, rfl, by { rw [eM29, eM21, eM14, ez28]; first | rw [if_pos (by omega)] | rw [if_neg (by omega)] }⟩
  · refine V_iconst (q := 10) dX4_addField_9 rfl (by decide) ?_
    refine V_goto (tgt := 14) dX4_addField_10 (by decide) ?_
    refine V_iast (q := 15) (n := 10) dX4_addField_14 rfl (by omega) (by rw [hT.1.2.2.1]) (by omega) (fun M14_2 eM14_2 => ?_)
    refine V_aload_n (q := 16) dX4_addField_15 rfl rfl rfl ?_
    refine V_getA (q := 19) 7 dX4_addField_16 rfl flX4_18 (by omega) (congrArg Prod.fst (show _ = (5, 0) by rw [hT.1.1])) rfl rfl (fun z16_2 ez16_2 rz16_2 => ?_)
    rw [eM14_2, mu_t _ _ _ _ (by omega), hT.2.2.2.1] at ez16_2
    obtain rfl : z16_2 = (T + 3) := ez16_2
    refine V_iload_n (q := 20) dX4_addField_19 rfl rfl rfl ?_
    refine V_iload_n (q := 21) dX4_addField_20 rfl rfl rfl ?_
    refine V_iast (q := 22) (n := 10) dX4_addField_21 rfl (by omega) (by rw [hT.1.2.2.2.1]) (by omega) (fun M21_2 eM21_2 => ?_)
    refine V_aload_n (q := 23) dX4_addField_22 rfl rfl rfl ?_
    refine V_dup (q := 24) dX4_addField_23 rfl (show (3 : Nat) ≠ 2 by decide) ?_
    refine V_getI (q := 27) 8 dX4_addField_24 rfl flX4_49 (by omega) (congrArg Prod.fst (show _ = (5, 0) by rw [hT.1.1])) rfl rfl (fun z24_2 ez24_2 rz24_2 => ?_)
    rw [eM21_2, mu_t _ _ _ _ (by omega), eM14_2, mu_t _ _ _ _ (by omega), hf] at ez24_2
    obtain rfl : fc = z24_2 := ez24_2.symm
    refine V_iconst (q := 28) dX4_addField_27 rfl (by decide) ?_
    refine V_iadd (q := 29) dX4_addField_28 rfl (by omega) (fun z28_2 ez28_2 => ?_)
    refine V_putI (q := 32) 8 dX4_addField_29 rfl flX4_49 (Or.inl rfl) (by omega) (congrArg Prod.fst (show _ = (5, 0) by rw [hT.1.1])) rfl rfl (fun M29_2 eM29_2 => ?_)
    exact V_vret dX4_addField_32 (Nat.le_of_ble_eq_true rfl) (Nat.le_of_ble_eq_true rfl) ⟨rfl, rfl, by { rw [eM29_2, eM21_2, eM14_2, ez28_2]; first | rw [if_pos (by omega)] | rw [if_neg (by omega)] }⟩
theorem BoN_c {b : Int} {α α1 : Sh} {μ μ1 : Mem} (h : ∀ t, b ≤ t → t < b + 2 → α1 t = α t ∧ μ1 t = μ t) (N : BoN b α μ) : BoN b α1 μ1 := by
  unfold BoN BoS at N ⊢
  rw [(h b (by omega) (by omega)).1, (h b (by omega) (by omega)).2, (h (b + 1) (by omega) (by omega)).1, (h (b + 1) (by omega) (by omega)).2]
  exact N
theorem tX4_addMethod {Γ : GC} {α : Sh} {μ : Mem} {T nm B mc : Int} (hT0 : 59 ≤ T) (hT : TyS T α μ) (hm : 0 ≤ nm ∧ nm ≤ 9) (hf : μ T 10 = mc) (h6 : 0 ≤ mc ∧ mc < 4) (hB : B = T + 20 + 2 * nm) (f1 : (α B).1 = 0) (f2 : (α (B + 1)).1 = 0) : MT Γ yX4_addMethod cX4_addMethod 2 none 2 2 14 [(3, T), (0, nm)] α μ (QN fun α1 μ1 => BoN B α1 μ1 ∧ μ1 (T + 4) nm = B ∧ μ1 T 10 = mc + 1 ∧ (∀ u i : Int, ¬ (u = B ∨ u = B + 1 ∨ (u = T + 4 ∧ i = nm) ∨ (u = T ∧ i = 10)) → μ1 u i = μ u i) ∧ ∀ u : Int, u ≠ B → u ≠ B + 1 → α1 u = α u) := by
  refine MT_of (k := 0) [(3, T), (0, nm)] pn_X4_addMethod rfl rfl (fun ad0 => ?_)
  refine V_aload_n (q := 1) dX4_addMethod_0 rfl rfl rfl ?_
  refine V_getA (q := 4) 9 dX4_addMethod_1 rfl flX4_23 (by omega) (congrArg Prod.fst (show _ = (5, 0) by rw [hT.1.1])) rfl rfl (fun z1 ez1 rz1 => ?_)
  rw [hT.2.2.2.2.1] at ez1
  obtain rfl : z1 = (T + 4) := ez1
  refine V_iload_n (q := 5) dX4_addMethod_4 rfl rfl rfl ?_
  refine V_new (q := 8) (ci := 1) B dX4_addMethod_5 rfl ckX4_21 f1 (by omega) (Nat.le_of_ble_eq_true rfl) (Nat.le_of_ble_eq_true rfl) (fun A5 M5 eA5 eM5 => ?_)
  refine V_dup (q := 9) dX4_addMethod_8 rfl (show (3 : Nat) ≠ 2 by decide) ?_
  have fB : ∀ t, B < t → t < B + 2 → (A5 t).1 = 0 := fun t h1 h2 => by { have ht : t = B + 1 := (by omega); rw [ht, eA5, sa_t _ _ _ (by omega)]; exact f2 }
  refine V_chN (q := 12) (As := []) (tX1_init (b := B) (by omega) (by rw [eA5, sa_s]) (by rw [eM5, mn_s] <;> rfl) fB) dX4_addMethod_9 rfl mnX4_27 mw_X1_init im_X1_init rfl md_X1_init (by omega) rfl rfl (by decide) (by decide) (Nat.le_of_ble_eq_true rfl) (Nat.le_of_ble_eq_true rfl) (Nat.le_of_ble_eq_true rfl) (fun A9 M9 x9 h9 => ?_)
  obtain ⟨N9, f9⟩ := h9
  refine V_aast (q := 13) (n := 10) (ta := 24) (ci := 1) dX4_addMethod_12 rfl (by omega) (by rw [(f9 (T + 4) (by omega)).1, eA5, sa_t _ _ _ (by omega), hT.1.2.2.2.2.1]) rfl (by decide) (by decide) (by omega) (by omega) (congrArg Prod.fst (show _ = (2, 0) by rw [N9.1.1])) (fun M12 eM12 => ?_)
  refine V_aload_n (q := 14) dX4_addMethod_13 rfl rfl rfl ?_
  refine V_dup (q := 15) dX4_addMethod_14 rfl (show (3 : Nat) ≠ 2 by decide) ?_
  refine V_getI (q := 18) 10 dX4_addMethod_15 rfl flX4_52 (by omega) (congrArg Prod.fst (show _ = (5, 0) by rw [(f9 T (by omega)).1, eA5, sa_t _ _ _ (by omega), hT.1.1])) rfl rfl (fun z15 ez15 rz15 => ?_)
  rw [eM12, mu_t _ _ _ _ (by omega), (f9 T (by omega)).2, eM5, mn_t _ _ _ (by omega), hf] at ez15
  obtain rfl : mc = z15 := ez15.symm
  refine V_iconst (q := 19) dX4_addMethod_18 rfl (by decide) ?_
  refine V_iadd (q := 20) dX4_addMethod_19 rfl (by omega) (fun z19 ez19 => ?_)
  refine V_putI (q := 23) 10 dX4_addMethod_20 rfl flX4_52 (Or.inl rfl) (by omega) (congrArg Prod.fst (show _ = (5, 0) by rw [(f9 T (by omega)).1, eA5, sa_t _ _ _ (by omega), hT.1.1])) rfl rfl (fun M20 eM20 => ?_)
  refine V_vret dX4_addMethod_23 (Nat.le_of_ble_eq_true rfl) (Nat.le_of_ble_eq_true rfl) ⟨rfl, BoN_c (fun t h1 h2 => ⟨rfl, ?_⟩) N9, ?_, ?_, fun u i h => ?_, fun u h1 h2 => ?_⟩
  · rw [eM20, mu_f _ _ _ _ (by omega), eM12, mu_f _ _ _ _ (by omega)]
  · rw [eM20, mu_t _ _ _ _ (by omega), eM12, mu_s]
  · rw [eM20, mu_s]; omega
  · rw [eM20, mu_ne (by omega), eM12, mu_ne (by omega), (f9 u (by omega)).2, eM5, mn_t _ _ _ (by omega)]
  · rw [(f9 u (by omega)).1, eA5, sa_t _ _ _ h1]
theorem tX2_forgetFields {Γ : GC} {α : Sh} {μ : Mem} (a0 : α 110 = (3, 0)) (a2 : α 112 = (20, 400)) (m2 : μ 110 2 = 112) : MT Γ yX2_forgetFields cX2_forgetFields 1 none 1 0 0 [(3, 110)] α μ (QN fun α1 μ1 => α1 = α ∧ (∀ u, u ≠ 112 → μ1 u = μ u) ∧ ∀ i : Int, 0 ≤ i → i < 400 → μ1 112 i = -1) := by
  refine MT_of (k := 0) [(3, 110)] pn_X2_forgetFields rfl rfl (fun ad0 => ?_)
  refine V_aload_n (q := 1) dX2_forgetFields_0 rfl rfl rfl ?_
  refine V_getA (q := 4) 2 dX2_forgetFields_1 rfl flX2_17 (by decide) (congrArg Prod.fst (show _ = (3, 0) by rw [a0])) rfl rfl (fun z1 ez1 rz1 => ?_)
  rw [m2] at ez1
  obtain rfl : z1 = 112 := ez1
  refine V_iconst (q := 5) dX2_forgetFields_4 rfl (by decide) ?_
  refine V_chS (q := 8) (As := [(3, 112), (0, (-1))]) (tJ7_fill_53178 (by decide) (by rw [a2]) (by decide)) dX2_forgetFields_5 rfl mlX2_28 mw_J7_fill_53178 sm_J7_fill_53178 md_J7_fill_53178 rfl rfl (by decide) (by decide) (Nat.le_of_ble_eq_true rfl) (Nat.le_of_ble_eq_true rfl) (Nat.le_of_ble_eq_true rfl) (fun A5 M5 xA5 hM5 => ?_)
  obtain ⟨eAA5, fM5, gM5⟩ := hM5
  exact V_vret dX2_forgetFields_8 (Nat.le_of_ble_eq_true rfl) (Nat.le_of_ble_eq_true rfl) ⟨rfl, eAA5, fM5, gM5⟩
theorem uX2_leadsTo {Γ : GC} {α : Sh} {μ : Mem} {a b T : Int} (hT0 : 0 ≤ T) (a0 : α 110 = (3, 0)) (a1 : α 111 = (23, 40)) (m0 : μ 110 0 = 111) (hk : μ 111 a = T) (aT : α T = (5, 0)) (ha : 0 ≤ a ∧ a < 40) (hb : 0 ≤ b ∧ b < 40) : MT Γ yX2_leadsTo cX2_leadsTo 3 (some .boolean) 0 0 0 [(3, 110), (0, a), (0, b)] α μ (QI fun r α1 μ1 => α1 = α ∧ μ1 = μ ∧ (0 ≤ r ∧ r ≤ 1) ∧ (r = 1 ↔ bt (μ T 5) b.toNat = true)) := by
  refine MT_of (k := 0) [(3, 110), (0, a), (0, b)] pn_X2_leadsTo rfl rfl (fun ad0 => ?_)
  refine V_aload_n (q := 1) dX2_leadsTo_0 rfl rfl rfl ?_
  refine V_getA (q := 4) 0 dX2_leadsTo_1 rfl flX2_11 (by decide) (congrArg Prod.fst (show _ = (3, 0) by rw [a0])) rfl rfl (fun z1 ez1 rz1 => ?_)
  rw [m0] at ez1
  obtain rfl : z1 = 111 := ez1
  refine V_iload_n (q := 5) dX2_leadsTo_4 rfl rfl rfl ?_
  refine V_aald (q := 6) (n := 40) (ta := 23) (ci := 4) dX2_leadsTo_5 rfl (by decide) (by rw [a1]) rfl (by decide) (by omega) (fun z5 ez5 rz5 => ?_)
  rw [hk] at ez5
  obtain rfl : T = z5 := ez5.symm
  refine V_getJ (q := 9) 5 dX2_leadsTo_6 rfl flX2_41 (by omega) (congrArg Prod.fst (show _ = (5, 0) by rw [aT])) rfl rfl (fun z6 ez6 rz6 => ?_)
  refine V_iload_n (q := 10) dX2_leadsTo_9 rfl rfl rfl ?_
  refine V_lshr (q := 11) dX2_leadsTo_10 rfl (by omega) (fun z10 ez10 rz10 => ?_)
  refine V_lconst (q := 12) (x := 1) dX2_leadsTo_11 rfl rfl ?_
  refine V_land (q := 13) dX2_leadsTo_12 rfl (fun z12 ez12 rz12 => ?_)
  refine V_lconst (q := 14) (x := 0) dX2_leadsTo_13 rfl rfl ?_
  refine V_lcmp0 (q := 15) dX2_leadsTo_14 rfl (fun z14 ez14 => ?_)
  have hq : z14 ≠ 0 ↔ bt (μ T 5) b.toNat = true := (not_congr (ez14.trans (bt_test (s := b.toNat) (by omega) ez10 ez12 rz12))).trans (by rw [ez6, Bool.not_eq_false])
  refine V_if_eq (q := 18) (tgt := 22) dX2_leadsTo_15 (by decide) rfl (fun c15 => ?_) (fun c15 => ?_)
  · refine V_iconst (q := 23) dX2_leadsTo_22 rfl (by decide) ?_
    exact V_zret dX2_leadsTo_23 (by decide) (Nat.le_of_ble_eq_true rfl) (Nat.le_of_ble_eq_true rfl) ⟨_, rfl, rfl, rfl, by omega, ⟨fun h => absurd h (by decide), fun h => absurd (hq.mpr h) (by omega)⟩⟩
  · refine V_iconst (q := 19) dX2_leadsTo_18 rfl (by decide) ?_
    refine V_goto (tgt := 23) dX2_leadsTo_19 (by decide) ?_
    exact V_zret dX2_leadsTo_23 (by decide) (Nat.le_of_ble_eq_true rfl) (Nat.le_of_ble_eq_true rfl) ⟨_, rfl, rfl, rfl, by omega, ⟨fun _ => hq.mp (by omega), fun _ => rfl⟩⟩
theorem tX2_append {Γ : GC} {α : Sh} {μ : Mem} {T U ab n : Int} (hT0 : 1000 ≤ T) (a0 : α 110 = (3, 0)) (a1 : α 111 = (23, 40)) (m0 : μ 110 0 = 111) (m1 : μ 110 1 = n) (hn : 0 ≤ n ∧ n < 40) (aT : α T = (5, 0)) (hab : μ T 2 = ab) (hl : μ T 5 = 0) (hu : 0 ≤ ab → ab < n ∧ μ 111 ab = U ∧ α U = (5, 0) ∧ 1000 ≤ U ∧ U ≠ T) : MT Γ yX2_append cX2_append 2 (some .int) 0 0 0 [(3, 110), (3, T)] α μ (QI fun r α1 μ1 => α1 = α ∧ r = n ∧ ∃ Lb : Int, μ1 = mu (mu (mu μ T 5 Lb) 111 n T) 110 1 (n + 1) ∧ ∀ j : Nat, j < 64 → bt Lb j = (bt (μ T 5) j || (decide (0 ≤ ab) && (decide (j = ab.toNat) || bt (μ U 5) j)))) := by
  refine MT_of (k := 0) [(3, 110), (3, T)] pn_X2_append rfl rfl (fun ad0 => ?_)
  refine V_aload_n (q := 1) dX2_append_0 rfl rfl rfl ?_
  refine V_getI (q := 4) 2 dX2_append_1 rfl flX2_38 (by omega) (congrArg Prod.fst (show _ = (5, 0) by rw [aT])) rfl rfl (fun z1 ez1 rz1 => ?_)
  rw [hab] at ez1
  obtain rfl : ab = z1 := ez1.symm
  refine V_if_lt (q := 7) (tgt := 30) dX2_append_4 (by decide) rfl (fun c4 => ?_) (fun c4 => ?_)
  · refine V_aload_n (q := 31) dX2_append_30 rfl rfl rfl ?_
    refine V_getA (q := 34) 0 dX2_append_31 rfl flX2_11 (by decide) (congrArg Prod.fst (show _ = (3, 0) by rw [a0])) rfl rfl (fun z31 ez31 rz31 => ?_)
    rw [m0] at ez31
    obtain rfl : z31 = 111 := ez31
    refine V_aload_n (q := 35) dX2_append_34 rfl rfl rfl ?_
    refine V_getI (q := 38) 1 dX2_append_35 rfl flX2_34 (by decide) (congrArg Prod.fst (show _ = (3, 0) by rw [a0])) rfl rfl (fun z35 ez35 rz35 => ?_)
    rw [m1] at ez35
    obtain rfl : n = z35 := ez35.symm
    refine V_aload_n (q := 39) dX2_append_38 rfl rfl rfl ?_
    refine V_aast (q := 40) (n := 40) (ta := 23) (ci := 4) dX2_append_39 rfl (by decide) (by rw [a1]) rfl (by decide) (by decide) (by omega) (by omega) (congrArg Prod.fst (show _ = (5, 0) by rw [aT])) (fun M39 eM39 => ?_)
    refine V_aload_n (q := 41) dX2_append_40 rfl rfl rfl ?_
    refine V_dup (q := 42) dX2_append_41 rfl (show (3 : Nat) ≠ 2 by decide) ?_
    refine V_getI (q := 45) 1 dX2_append_42 rfl flX2_34 (by decide) (congrArg Prod.fst (show _ = (3, 0) by rw [a0])) rfl rfl (fun z42 ez42 rz42 => ?_)
    rw [eM39, mu_t _ _ _ _ (by omega), m1] at ez42
    obtain rfl : n = z42 := ez42.symm
    refine V_iconst (q := 46) dX2_append_45 rfl (by decide) ?_
    refine V_iadd (q := 47) dX2_append_46 rfl (by omega) (fun z46 ez46 => ?_)
    refine V_putI (q := 50) 1 dX2_append_47 rfl flX2_34 (Or.inl rfl) (by decide) (congrArg Prod.fst (show _ = (3, 0) by rw [a0])) rfl rfl (fun M47 eM47 => ?_)
    refine V_aload_n (q := 51) dX2_append_50 rfl rfl rfl ?_
    refine V_getI (q := 54) 1 dX2_append_51 rfl flX2_34 (by decide) (congrArg Prod.fst (show _ = (3, 0) by rw [a0])) rfl rfl (fun z51 ez51 rz51 => ?_)
    rw [eM47, mu_s] at ez51
    obtain rfl : z46 = z51 := ez51.symm
    refine V_iconst (q := 55) dX2_append_54 rfl (by decide) ?_
    refine V_isub (q := 56) dX2_append_55 rfl (by omega) (fun z55 ez55 => ?_)
    refine V_iret dX2_append_56 (Nat.le_of_ble_eq_true rfl) (Nat.le_of_ble_eq_true rfl) ⟨_, rfl, rfl, by omega, ?_⟩
    refine ⟨μ T 5, ?_, fun j hj => by rw [decide_eq_false (show ¬ 0 ≤ ab by omega), Bool.false_and, Bool.or_false]⟩
    have e5 : mu μ T 5 (μ T 5) = μ := funext fun t => funext fun i => by { by_cases hh : t = T ∧ i = 5; · { rw [hh.1, hh.2, mu_s] }; · { exact mu_ne hh } }
    rw [e5, eM47, eM39, show z46 = n + 1 by omega]
  · have hU := hu (by omega)
    refine V_aload_n (q := 8) dX2_append_7 rfl rfl rfl ?_
    refine V_lconst (q := 9) (x := 1) dX2_append_8 rfl rfl ?_
    refine V_aload_n (q := 10) dX2_append_9 rfl rfl rfl ?_
    refine V_getI (q := 13) 2 dX2_append_10 rfl flX2_38 (by omega) (congrArg Prod.fst (show _ = (5, 0) by rw [aT])) rfl rfl (fun z10 ez10 rz10 => ?_)
    rw [hab] at ez10
    obtain rfl : ab = z10 := ez10.symm
    refine V_lshl (q := 14) dX2_append_13 rfl (by omega) (fun z13 ez13 rz13 => ?_)
    refine V_aload_n (q := 15) dX2_append_14 rfl rfl rfl ?_
    refine V_getA (q := 18) 0 dX2_append_15 rfl flX2_11 (by decide) (congrArg Prod.fst (show _ = (3, 0) by rw [a0])) rfl rfl (fun z15 ez15 rz15 => ?_)
    rw [m0] at ez15
    obtain rfl : z15 = 111 := ez15
    refine V_aload_n (q := 19) dX2_append_18 rfl rfl rfl ?_
    refine V_getI (q := 22) 2 dX2_append_19 rfl flX2_38 (by omega) (congrArg Prod.fst (show _ = (5, 0) by rw [aT])) rfl rfl (fun z19 ez19 rz19 => ?_)
    rw [hab] at ez19
    obtain rfl : ab = z19 := ez19.symm
    refine V_aald (q := 23) (n := 40) (ta := 23) (ci := 4) dX2_append_22 rfl (by decide) (by rw [a1]) rfl (by decide) (by omega) (fun z22 ez22 rz22 => ?_)
    rw [hU.2.1] at ez22
    obtain rfl : U = z22 := ez22.symm
    refine V_getJ (q := 26) 5 dX2_append_23 rfl flX2_41 (by omega) (congrArg Prod.fst (show _ = (5, 0) by rw [hU.2.2.1])) rfl rfl (fun z23 ez23 rz23 => ?_)
    refine V_lor (q := 27) dX2_append_26 rfl (fun z26 ez26 rz26 => ?_)
    refine V_putJ (q := 30) 5 dX2_append_27 rfl flX2_41 (Or.inl rfl) (by omega) (congrArg Prod.fst (show _ = (5, 0) by rw [aT])) rfl rfl (fun M27 eM27 => ?_)
    refine V_aload_n (q := 31) dX2_append_30 rfl rfl rfl ?_
    refine V_getA (q := 34) 0 dX2_append_31 rfl flX2_11 (by decide) (congrArg Prod.fst (show _ = (3, 0) by rw [a0])) rfl rfl (fun z31_2 ez31_2 rz31_2 => ?_)
    rw [eM27, mu_t _ _ _ _ (by omega), m0] at ez31_2
    obtain rfl : z31_2 = 111 := ez31_2
    refine V_aload_n (q := 35) dX2_append_34 rfl rfl rfl ?_
    refine V_getI (q := 38) 1 dX2_append_35 rfl flX2_34 (by decide) (congrArg Prod.fst (show _ = (3, 0) by rw [a0])) rfl rfl (fun z35_2 ez35_2 rz35_2 => ?_)
    rw [eM27, mu_t _ _ _ _ (by omega), m1] at ez35_2
    obtain rfl : n = z35_2 := ez35_2.symm
    refine V_aload_n (q := 39) dX2_append_38 rfl rfl rfl ?_
    refine V_aast (q := 40) (n := 40) (ta := 23) (ci := 4) dX2_append_39 rfl (by decide) (by rw [a1]) rfl (by decide) (by decide) (by omega) (by omega) (congrArg Prod.fst (show _ = (5, 0) by rw [aT])) (fun M39_2 eM39_2 => ?_)
    refine V_aload_n (q := 41) dX2_append_40 rfl rfl rfl ?_
    refine V_dup (q := 42) dX2_append_41 rfl (show (3 : Nat) ≠ 2 by decide) ?_
    refine V_getI (q := 45) 1 dX2_append_42 rfl flX2_34 (by decide) (congrArg Prod.fst (show _ = (3, 0) by rw [a0])) rfl rfl (fun z42_2 ez42_2 rz42_2 => ?_)
    rw [eM39_2, mu_t _ _ _ _ (by omega), eM27, mu_t _ _ _ _ (by omega), m1] at ez42_2
    obtain rfl : n = z42_2 := ez42_2.symm
    refine V_iconst (q := 46) dX2_append_45 rfl (by decide) ?_
    refine V_iadd (q := 47) dX2_append_46 rfl (by omega) (fun z46_2 ez46_2 => ?_)
    refine V_putI (q := 50) 1 dX2_append_47 rfl flX2_34 (Or.inl rfl) (by decide) (congrArg Prod.fst (show _ = (3, 0) by rw [a0])) rfl rfl (fun M47_2 eM47_2 => ?_)
    refine V_aload_n (q := 51) dX2_append_50 rfl rfl rfl ?_
    refine V_getI (q := 54) 1 dX2_append_51 rfl flX2_34 (by decide) (congrArg Prod.fst (show _ = (3, 0) by rw [a0])) rfl rfl (fun z51_2 ez51_2 rz51_2 => ?_)
    rw [eM47_2, mu_s] at ez51_2
    obtain rfl : z46_2 = z51_2 := ez51_2.symm
    refine V_iconst (q := 55) dX2_append_54 rfl (by decide) ?_
    refine V_isub (q := 56) dX2_append_55 rfl (by omega) (fun z55_2 ez55_2 => ?_)
    refine V_iret dX2_append_56 (Nat.le_of_ble_eq_true rfl) (Nat.le_of_ble_eq_true rfl) ⟨_, rfl, rfl, by omega, ?_⟩
    refine ⟨z26, by rw [eM47_2, eM39_2, eM27, show z46_2 = n + 1 by omega], fun j hj => ?_⟩
    rw [ez26, bt_one ez13 j hj, ez23, hl, bt_0, Bool.false_or, decide_eq_true (show 0 ≤ ab by omega), Bool.true_and]
theorem tX2_putUnder {Γ : GC} {α : Sh} {μ : Mem} {t f T c n : Int} (eT : T = tk t) (hDe : DeS α μ) (m1 : μ 110 1 = n) (hn : n ≤ 40) (hty : ∀ i : Int, 0 ≤ i → i < n → μ 111 i = tk i ∧ α (tk i) = (5, 0)) (hT : TyS T α μ) (ht : 0 ≤ t ∧ t < n) (hf : 0 ≤ f ∧ f < n) (hc : μ T 4 = c) (h4 : 0 ≤ c ∧ c < 4) : MT Γ yX2_putUnder cX2_putUnder 7 none 2 0 0 [(3, 110), (0, t), (0, f)] α μ (QN fun α1 μ1 => α1 = α ∧ μ1 (T + 1) c = f ∧ μ1 T 4 = c + 1 ∧ (∀ i : Int, 0 ≤ i → i < n → ∀ j : Nat, j < 64 → bt (μ1 (tk i) 5) j = (bt (μ (tk i) 5) j || ((decide (i = t) || bt (μ (tk i) 5) t.toNat) && (decide (j = f.toNat) || bt (μ (tk f) 5) j)))) ∧ (∀ i : Int, 0 ≤ i → i < 400 → μ1 112 i = -1) ∧ ∀ u i : Int, ¬ (u = 112 ∨ (u = T + 1 ∧ i = c) ∨ (u = T ∧ i = 4) ∨ (1000 ≤ u ∧ u % 1000 = 0 ∧ i = 5)) → μ1 u i = μ u i) := by
  have hT1 : T = 1000 * (t + 1) := eT
  obtain ⟨F, eF⟩ : ∃ F : Int, F = tk f := ⟨_, rfl⟩
  have hF1 : F = 1000 * (f + 1) := eF
  have aF := (hty f hf.1 hf.2).2
  have kF := (hty f hf.1 hf.2).1
  have kT := (hty t ht.1 ht.2).1
  rw [← eF] at aF kF
  rw [← eT] at kT
  refine MT_of (k := 4) [(3, 110), (0, t), (0, f), (9, 0), (9, 0), (9, 0), (9, 0)] pn_X2_putUnder rfl rfl (fun ad0 => ?_)
  have loop : ∀ g : Int, (∀ j : Nat, j < 64 → bt g j = (decide (j = f.toNat) || bt (μ F 5) j)) → ∀ (m : Mem) (i : Int), ((∀ u k : Int, ¬ ((u = T + 1 ∧ k = c) ∨ (u = T ∧ k = 4) ∨ (1000 ≤ u ∧ u % 1000 = 0 ∧ k = 5)) → m u k = μ u k) ∧ m (T + 1) c = f ∧ m T 4 = c + 1 ∧ 0 ≤ i ∧ i ≤ n ∧ (∀ x : Int, 0 ≤ x → x < n → ∀ j : Nat, j < 64 → bt (m (tk x) 5) j = (bt (μ (tk x) 5) j || (decide (x < i) && ((decide (x = t) || bt (μ (tk x) 5) t.toNat) && (decide (j = f.toNat) || bt (μ F 5) j)))))) → V Γ α ad0 (ZM Γ α ad0 (QN fun α1 μ1 => α1 = α ∧ μ1 (T + 1) c = f ∧ μ1 T 4 = c + 1 ∧ (∀ i : Int, 0 ≤ i → i < n → ∀ j : Nat, j < 64 → bt (μ1 (tk i) 5) j = (bt (μ (tk i) 5) j || ((decide (i = t) || bt (μ (tk i) 5) t.toNat) && (decide (j = f.toNat) || bt (μ (tk f) 5) j)))) ∧ (∀ i : Int, 0 ≤ i → i < 400 → μ1 112 i = -1) ∧ ∀ u i : Int, ¬ (u = 112 ∨ (u = T + 1 ∧ i = c) ∨ (u = T ∧ i = 4) ∨ (1000 ≤ u ∧ u % 1000 = 0 ∧ i = 5)) → μ1 u i = μ u i) 0 0) (RM 2 0 0) RX2 cX2_putUnder 7 none yX2_putUnder.name 45 [] [(3, 110), (0, t), (0, f), (3, T), (2, g), (9, 0), (0, i)] α m 0 0 := by
    intro g hg
    refine loop2 _ (fun _ i => (n - i).toNat) _ ?_
    rintro m i ⟨fr, g1, g2, h1, h2, hb⟩ ih
    refine V_iload (q := 47) dX2_putUnder_45 rfl rfl ?_
    refine V_aload_n (q := 48) dX2_putUnder_47 rfl rfl rfl ?_
    refine V_getI (q := 51) 1 dX2_putUnder_48 rfl flX2_34 (by decide) (congrArg Prod.fst (show _ = (3, 0) by rw [hDe.1.1])) rfl rfl (fun z48 ez48 rz48 => ?_)
    rw [fr 110 1 (by omega), m1] at ez48
    obtain rfl : n = z48 := ez48.symm
    refine V_icmp_ge (q := 54) (tgt := 93) dX2_putUnder_51 (by decide) rfl (fun c51 => ?_) (fun c51 => ?_)
    · refine V_aload_n (q := 94) dX2_putUnder_93 rfl rfl rfl ?_
      refine V_chV (q := 97) (As := []) (tX2_forgetFields hDe.1.1 hDe.1.2.2.1 (by rw [fr 110 2 (by omega)]; exact hDe.2.2.1)) dX2_putUnder_94 rfl mlX2_55 mw_X2_forgetFields im_X2_forgetFields sl_X2_forgetFields md_X2_forgetFields rfl (by decide) (by decide) (congrArg Prod.fst (show _ = (3, 0) by rw [hDe.1.1])) rfl rfl (by decide) (by decide) (Nat.le_of_ble_eq_true rfl) (Nat.le_of_ble_eq_true rfl) (Nat.le_of_ble_eq_true rfl) (fun A94 M94 xM94 hM94 => ?_)
      obtain ⟨hAA, fM94, gM94⟩ := hM94
      replace hAA := hAA.symm
      subst hAA
      refine V_vret dX2_putUnder_97 (Nat.le_of_ble_eq_true rfl) (Nat.le_of_ble_eq_true rfl) ⟨rfl, rfl, ?_, ?_, fun x x0 x1 j hj => ?_, gM94, fun u k hk => ?_⟩
      · rw [fM94 (T + 1) (by omega)]; exact g1
      · rw [fM94 T (by omega)]; exact g2
      · rw [fM94 (tk x) (by have := tk_eq x; omega), hb x x0 x1 j hj, decide_eq_true (show x < i by omega), Bool.true_and, ← eF]
      · rw [fM94 u (by omega)]; exact fr u k (by omega)
    · have hU := hty i h1 (by omega)
      obtain ⟨U, eU⟩ : ∃ U : Int, U = tk i := ⟨_, rfl⟩
      have hU1 : U = 1000 * (i + 1) := eU
      rw [← eU] at hU
      have hbi := hb i h1 (by omega)
      rw [← eU] at hbi
      rw [decide_eq_false (show ¬ i < i by omega)] at hbi
      simp only [Bool.false_and, Bool.or_false] at hbi
      refine V_iload (q := 56) dX2_putUnder_54 rfl rfl ?_
      refine V_iload_n (q := 57) dX2_putUnder_56 rfl rfl rfl ?_
      refine V_icmp_eq (q := 60) (tgt := 70) dX2_putUnder_57 (by decide) rfl (fun c57 => ?_) (fun c57 => ?_)
      · refine V_aload_n (q := 71) dX2_putUnder_70 rfl rfl rfl ?_
        refine V_getA (q := 74) 0 dX2_putUnder_71 rfl flX2_11 (by decide) (congrArg Prod.fst (show _ = (3, 0) by rw [hDe.1.1])) rfl rfl (fun z71 ez71 rz71 => ?_)
        rw [fr 110 0 (by omega), hDe.2.1] at ez71
        obtain rfl : z71 = 111 := ez71
        refine V_iload (q := 76) dX2_putUnder_74 rfl rfl ?_
        refine V_aald (q := 77) (n := 40) (ta := 23) (ci := 4) dX2_putUnder_76 rfl (by decide) (by rw [hDe.1.2.1]) rfl (by decide) (by omega) (fun z76 ez76 rz76 => ?_)
        rw [fr 111 i (by omega), hU.1] at ez76
        obtain rfl : U = z76 := ez76.symm
        refine V_dup (q := 78) dX2_putUnder_77 rfl (show (3 : Nat) ≠ 2 by decide) ?_
        refine V_getJ (q := 81) 5 dX2_putUnder_78 rfl flX2_41 (by omega) (congrArg Prod.fst (show _ = (5, 0) by rw [hU.2])) rfl rfl (fun z78 ez78 rz78 => ?_)
        refine V_lload (q := 83) dX2_putUnder_81 rfl rfl ?_
        refine V_lor (q := 84) dX2_putUnder_83 rfl (fun z83 ez83 rz83 => ?_)
        refine V_putJ (q := 87) 5 dX2_putUnder_84 rfl flX2_41 (Or.inl rfl) (by omega) (congrArg Prod.fst (show _ = (5, 0) by rw [hU.2])) rfl rfl (fun M84 eM84 => ?_)
        refine V_iinc (q := 90) dX2_putUnder_87 rfl rfl (by decide) rfl (by omega) (fun z87 lz87 ez87 hlz87 => ?_)
        obtain rfl : lz87 = [(3, 110), (0, t), (0, f), (3, T), (2, g), (9, 0), (0, z87)] := hlz87
        refine V_goto (tgt := 45) dX2_putUnder_90 (by decide) ?_
        refine ih M84 z87 ⟨fun u k hk => by { rw [eM84, mu_ne (by omega)]; exact fr u k hk }, by { rw [eM84, mu_t _ _ _ _ (by omega)]; exact g1 }, by { rw [eM84, mu_ne (by omega)]; exact g2 }, by omega, by omega, fun x x0 x1 j hj => ?_⟩ (by omega)
        have hyes : (decide (i = t) || bt (μ U 5) t.toNat) = true := by { rw [decide_eq_true (show i = t by omega), Bool.true_or] }
        by_cases hx : x = i
        · subst hx
          rw [← eU, eM84, mu_s, ez83, ez78, hbi j hj, hg j hj, hyes, decide_eq_true (show x < z87 by omega), Bool.true_and, Bool.true_and]
        · rw [eM84, mu_ne (by have := tk_eq x; omega), hb x x0 x1 j hj]
          rw [show decide (x < z87) = decide (x < i) from by { by_cases h9 : x < i; · { rw [decide_eq_true h9, decide_eq_true (show x < z87 by omega)] }; · { rw [decide_eq_false h9, decide_eq_false (show ¬ x < z87 by omega)] } }]
      · refine V_aload_n (q := 61) dX2_putUnder_60 rfl rfl rfl ?_
        refine V_iload (q := 63) dX2_putUnder_61 rfl rfl ?_
        refine V_iload_n (q := 64) dX2_putUnder_63 rfl rfl rfl ?_
        refine V_rdV (q := 67) (As := [(0, i), (0, t)]) (uX2_leadsTo (T := U) (by omega) hDe.1.1 hDe.1.2.1 (by rw [fr 110 0 (by omega)]; exact hDe.2.1) (by rw [fr 111 i (by omega)]; exact hU.1) hU.2 ⟨h1, by omega⟩ ⟨ht.1, by omega⟩) dX2_putUnder_64 rfl mlX2_45 mw_X2_leadsTo im_X2_leadsTo sl_X2_leadsTo md_X2_leadsTo rfl (by decide) (by decide) (congrArg Prod.fst (show _ = (3, 0) by rw [hDe.1.1])) rfl rfl (by decide) (by decide) (Nat.le_of_ble_eq_true rfl) (Nat.le_of_ble_eq_true rfl) (Nat.le_of_ble_eq_true rfl) (fun z64 rz64 hz64 => ?_)
        obtain ⟨bz64, hz64⟩ := hz64
        refine V_if_eq (q := 70) (tgt := 87) dX2_putUnder_67 (by decide) rfl (fun c67 => ?_) (fun c67 => ?_)
        · refine V_iinc (q := 90) dX2_putUnder_87 rfl rfl (by decide) rfl (by omega) (fun z87_2 lz87_2 ez87_2 hlz87_2 => ?_)
          obtain rfl : lz87_2 = [(3, 110), (0, t), (0, f), (3, T), (2, g), (9, 0), (0, z87_2)] := hlz87_2
          refine V_goto (tgt := 45) dX2_putUnder_90 (by decide) ?_
          refine ih m z87_2 ⟨fr, g1, g2, by omega, by omega, fun x x0 x1 j hj => ?_⟩ (by omega)
          rw [hb x x0 x1 j hj]
          by_cases hx : x = i
          · subst hx
            have hno : bt (μ U 5) t.toNat = false := by { have q := hbi t.toNat (by omega); rw [← q]; exact Bool.eq_false_iff.mpr (fun q2 => absurd (hz64.mpr q2) (by omega)) }
            rw [← eU, hno, decide_eq_false (show ¬ x = t by omega), Bool.or_false, Bool.false_and, Bool.and_false, Bool.and_false]
          · rw [show decide (x < z87_2) = decide (x < i) from by { by_cases h9 : x < i; · { rw [decide_eq_true h9, decide_eq_true (show x < z87_2 by omega)] }; · { rw [decide_eq_false h9, decide_eq_false (show ¬ x < z87_2 by omega)] } }]
        · refine V_aload_n (q := 71) dX2_putUnder_70 rfl rfl rfl ?_
          refine V_getA (q := 74) 0 dX2_putUnder_71 rfl flX2_11 (by decide) (congrArg Prod.fst (show _ = (3, 0) by rw [hDe.1.1])) rfl rfl (fun z71_2 ez71_2 rz71_2 => ?_)
          rw [fr 110 0 (by omega), hDe.2.1] at ez71_2
          obtain rfl : z71_2 = 111 := ez71_2
          refine V_iload (q := 76) dX2_putUnder_74 rfl rfl ?_
          refine V_aald (q := 77) (n := 40) (ta := 23) (ci := 4) dX2_putUnder_76 rfl (by decide) (by rw [hDe.1.2.1]) rfl (by decide) (by omega) (fun z76_2 ez76_2 rz76_2 => ?_)
          rw [fr 111 i (by omega), hU.1] at ez76_2
          obtain rfl : U = z76_2 := ez76_2.symm
          refine V_dup (q := 78) dX2_putUnder_77 rfl (show (3 : Nat) ≠ 2 by decide) ?_
          refine V_getJ (q := 81) 5 dX2_putUnder_78 rfl flX2_41 (by omega) (congrArg Prod.fst (show _ = (5, 0) by rw [hU.2])) rfl rfl (fun z78_2 ez78_2 rz78_2 => ?_)
          refine V_lload (q := 83) dX2_putUnder_81 rfl rfl ?_
          refine V_lor (q := 84) dX2_putUnder_83 rfl (fun z83_2 ez83_2 rz83_2 => ?_)
          refine V_putJ (q := 87) 5 dX2_putUnder_84 rfl flX2_41 (Or.inl rfl) (by omega) (congrArg Prod.fst (show _ = (5, 0) by rw [hU.2])) rfl rfl (fun M84_2 eM84_2 => ?_)
          refine V_iinc (q := 90) dX2_putUnder_87 rfl rfl (by decide) rfl (by omega) (fun z87_3 lz87_3 ez87_3 hlz87_3 => ?_)
          obtain rfl : lz87_3 = [(3, 110), (0, t), (0, f), (3, T), (2, g), (9, 0), (0, z87_3)] := hlz87_3
          refine V_goto (tgt := 45) dX2_putUnder_90 (by decide) ?_
          refine ih M84_2 z87_3 ⟨fun u k hk => by { rw [eM84_2, mu_ne (by omega)]; exact fr u k hk }, by { rw [eM84_2, mu_t _ _ _ _ (by omega)]; exact g1 }, by { rw [eM84_2, mu_ne (by omega)]; exact g2 }, by omega, by omega, fun x x0 x1 j hj => ?_⟩ (by omega)
          have hyes : (decide (i = t) || bt (μ U 5) t.toNat) = true := by { rw [← hbi t.toNat (by omega), hz64.mp (by omega), Bool.or_true] }
          by_cases hx : x = i
          · subst hx
            rw [← eU, eM84_2, mu_s, ez83_2, ez78_2, hbi j hj, hg j hj, hyes, decide_eq_true (show x < z87_3 by omega), Bool.true_and, Bool.true_and]
          · rw [eM84_2, mu_ne (by have := tk_eq x; omega), hb x x0 x1 j hj]
            rw [show decide (x < z87_3) = decide (x < i) from by { by_cases h9 : x < i; · { rw [decide_eq_true h9, decide_eq_true (show x < z87_3 by omega)] }; · { rw [decide_eq_false h9, decide_eq_false (show ¬ x < z87_3 by omega)] } }]
  refine V_aload_n (q := 1) dX2_putUnder_0 rfl rfl rfl ?_
  refine V_getA (q := 4) 0 dX2_putUnder_1 rfl flX2_11 (by decide) (congrArg Prod.fst (show _ = (3, 0) by rw [hDe.1.1])) rfl rfl (fun z1 ez1 rz1 => ?_)
  rw [hDe.2.1] at ez1
  obtain rfl : z1 = 111 := ez1
  refine V_iload_n (q := 5) dX2_putUnder_4 rfl rfl rfl ?_
  refine V_aald (q := 6) (n := 40) (ta := 23) (ci := 4) dX2_putUnder_5 rfl (by decide) (by rw [hDe.1.2.1]) rfl (by decide) (by omega) (fun z5 ez5 rz5 => ?_)
  rw [kT] at ez5
  obtain rfl : T = z5 := ez5.symm
  refine V_astore_n (q := 7) (lv1 := [(3, 110), (0, t), (0, f), (3, T), (9, 0), (9, 0), (9, 0)]) dX2_putUnder_6 rfl rfl (by decide) rfl rfl ?_
  refine V_aload_n (q := 8) dX2_putUnder_7 rfl rfl rfl ?_
  refine V_getA (q := 11) 3 dX2_putUnder_8 rfl flX2_49 (by omega) (congrArg Prod.fst (show _ = (5, 0) by rw [hT.1.1])) rfl rfl (fun z8 ez8 rz8 => ?_)
  rw [hT.2.1] at ez8
  obtain rfl : z8 = (T + 1) := ez8
  refine V_aload_n (q := 12) dX2_putUnder_11 rfl rfl rfl ?_
  refine V_getI (q := 15) 4 dX2_putUnder_12 rfl flX2_52 (by omega) (congrArg Prod.fst (show _ = (5, 0) by rw [hT.1.1])) rfl rfl (fun z12 ez12 rz12 => ?_)
  rw [hc] at ez12
  obtain rfl : c = z12 := ez12.symm
  refine V_iload_n (q := 16) dX2_putUnder_15 rfl rfl rfl ?_
  refine V_iast (q := 17) (n := 4) dX2_putUnder_16 rfl (by omega) (by rw [hT.1.2.1]) (by omega) (fun M16 eM16 => ?_)
  refine V_aload_n (q := 18) dX2_putUnder_17 rfl rfl rfl ?_
  refine V_dup (q := 19) dX2_putUnder_18 rfl (show (3 : Nat) ≠ 2 by decide) ?_
  refine V_getI (q := 22) 4 dX2_putUnder_19 rfl flX2_52 (by omega) (congrArg Prod.fst (show _ = (5, 0) by rw [hT.1.1])) rfl rfl (fun z19 ez19 rz19 => ?_)
  rw [eM16, mu_ne (by omega), hc] at ez19
  obtain rfl : c = z19 := ez19.symm
  refine V_iconst (q := 23) dX2_putUnder_22 rfl (by decide) ?_
  refine V_iadd (q := 24) dX2_putUnder_23 rfl (by omega) (fun z23 ez23 => ?_)
  refine V_putI (q := 27) 4 dX2_putUnder_24 rfl flX2_52 (Or.inl rfl) (by omega) (congrArg Prod.fst (show _ = (5, 0) by rw [hT.1.1])) rfl rfl (fun M24 eM24 => ?_)
  refine V_lconst (q := 28) (x := 1) dX2_putUnder_27 rfl rfl ?_
  refine V_iload_n (q := 29) dX2_putUnder_28 rfl rfl rfl ?_
  refine V_lshl (q := 30) dX2_putUnder_29 rfl (by omega) (fun z29 ez29 rz29 => ?_)
  refine V_aload_n (q := 31) dX2_putUnder_30 rfl rfl rfl ?_
  refine V_getA (q := 34) 0 dX2_putUnder_31 rfl flX2_11 (by decide) (congrArg Prod.fst (show _ = (3, 0) by rw [hDe.1.1])) rfl rfl (fun z31 ez31 rz31 => ?_)
  rw [eM24, mu_ne (by omega), eM16, mu_ne (by omega), hDe.2.1] at ez31
  obtain rfl : z31 = 111 := ez31
  refine V_iload_n (q := 35) dX2_putUnder_34 rfl rfl rfl ?_
  refine V_aald (q := 36) (n := 40) (ta := 23) (ci := 4) dX2_putUnder_35 rfl (by decide) (by rw [hDe.1.2.1]) rfl (by decide) (by omega) (fun z35 ez35 rz35 => ?_)
  rw [eM24, mu_ne (by omega), eM16, mu_ne (by omega), kF] at ez35
  obtain rfl : F = z35 := ez35.symm
  refine V_getJ (q := 39) 5 dX2_putUnder_36 rfl flX2_41 (by omega) (congrArg Prod.fst (show _ = (5, 0) by rw [aF])) rfl rfl (fun z36 ez36 rz36 => ?_)
  rw [eM24, mu_ne (by omega), eM16, mu_ne (by omega)] at ez36
  refine V_lor (q := 40) dX2_putUnder_39 rfl (fun z39 ez39 rz39 => ?_)
  refine V_lstore (q := 42) (lv1 := [(3, 110), (0, t), (0, f), (3, T), (2, z39), (9, 0), (9, 0)]) dX2_putUnder_40 rfl (by decide) rfl rfl ?_
  refine V_iconst (q := 43) dX2_putUnder_42 rfl (by decide) ?_
  refine V_istore (q := 45) (lv1 := [(3, 110), (0, t), (0, f), (3, T), (2, z39), (9, 0), (0, 0)]) dX2_putUnder_43 rfl (by decide) rfl rfl ?_
  exact loop z39 (fun j hj => by { rw [ez39, bt_one ez29 j hj, ez36] }) M24 0 ⟨fun u k hk => by rw [eM24, mu_ne (by omega), eM16, mu_ne (by omega)], by rw [eM24, mu_t _ _ _ _ (by omega), eM16, mu_s], by { rw [eM24, mu_s]; omega }, by decide, by omega, fun x x0 x1 j hj => by { rw [decide_eq_false (show ¬ x < 0 by omega), Bool.false_and, Bool.or_false, eM24, mu_ne (by omega), eM16, mu_ne (by have := tk_eq x; omega)] }⟩
