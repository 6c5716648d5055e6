/-! THE CLASS: world -/
theorem tX6_world {Γ : GC} {α : Sh} {μ : Mem} {M : Mem} (w : WFD M) (D : DesR M α μ) (B : BenR M α μ) (Wo : WosR M α μ) (ww : WFW M) : MT Γ yX6_world cX6_world 1 (some .int) 2 6 793 [(3, 100)] α μ (QI fun r α1 μ1 => r = worldR M ∧ BenR (worldM M) α1 μ1 ∧ WosR (worldM M) α1 μ1 ∧ ∀ t, t < 100 ∨ (109 < t ∧ t < 115) ∨ 1000 ≤ t → α1 t = α t ∧ μ1 t = μ t) := by
  have hn := w.n
  have hw := w.w
  obtain ⟨x, hx⟩ : ∃ x : Int, x = M 17 0 := ⟨_, rfl⟩
  obtain ⟨W, eW⟩ : ∃ W : Int, W = 200 + 10 * x := ⟨_, rfl⟩
  obtain ⟨p1, p2, hh, p3, p4, p5, p6, p7⟩ := id Wo
  refine MT_of (k := 0) [(3, 100)] pn_X6_world rfl rfl (fun ad0 => ?_)
  refine V_aload_n (q := 1) dX6_world_0 rfl rfl rfl ?_
  refine V_getI (q := 4) 2 dX6_world_1 rfl flX6_22 (by decide) (congrArg Prod.fst (show _ = (7, 0) by rw [B.1.1.1])) rfl rfl (fun z1 ez1 rz1 => ?_)
  rw [B.2] at ez1
  refine V_bipush (q := 6) dX6_world_4 rfl (by decide) ?_
  refine V_icmp_lt (q := 9) (tgt := 12) dX6_world_6 (by decide) rfl (fun c6 => ?_) (fun c6 => ?_)
  · refine V_aload_n (q := 13) dX6_world_12 rfl rfl rfl ?_
    refine V_getA (q := 16) 0 dX6_world_13 rfl flX6_10 (by decide) (congrArg Prod.fst (show _ = (7, 0) by rw [B.1.1.1])) rfl rfl (fun z13 ez13 rz13 => ?_)
    rw [B.1.2.1] at ez13
    obtain rfl : z13 = 110 := ez13
    refine V_getI (q := 19) 1 dX6_world_16 rfl flX6_49 (by decide) (congrArg Prod.fst (show _ = (3, 0) by rw [D.1.1.1])) rfl rfl (fun z16 ez16 rz16 => ?_)
    rw [D.2.1] at ez16
    refine V_if_ne (q := 22) (tgt := 25) dX6_world_19 (by decide) rfl (fun c19 => ?_) (fun c19 => ?_)
    · refine V_aload_n (q := 26) dX6_world_25 rfl rfl rfl ?_
      refine V_getA (q := 29) 1 dX6_world_26 rfl flX6_18 (by decide) (congrArg Prod.fst (show _ = (7, 0) by rw [B.1.1.1])) rfl rfl (fun z26 ez26 rz26 => ?_)
      rw [B.1.2.2.1] at ez26
      obtain rfl : z26 = 101 := ez26
      refine V_aload_n (q := 30) dX6_world_29 rfl rfl rfl ?_
      refine V_getI (q := 33) 2 dX6_world_30 rfl flX6_22 (by decide) (congrArg Prod.fst (show _ = (7, 0) by rw [B.1.1.1])) rfl rfl (fun z30 ez30 rz30 => ?_)
      rw [B.2] at ez30
      refine V_aald (q := 34) (n := 12) (ta := 26) (ci := 5) dX6_world_33 rfl (by decide) (by rw [B.1.1.2]) rfl (by decide) (by omega) (fun z33 ez33 rz33 => ?_)
      have e34 : μ 101 x = z33 := by { rw [ez33]; congr 1; omega }
      refine V_ifnonnull (q := 37) (tgt := 56) dX6_world_34 (by decide) rfl (fun c34 => ?_) (fun c34 => ?_)
      · have hhx : x < hh := by { rcases (show x < hh ∨ hh ≤ x by omega) with q | q; · { exact q }; · { have := (p6 x q (by omega)).1; omega } }
        have k101 : μ 101 x = W := by { rw [eW]; exact (p5 x (by omega) hhx).1 }
        have sW : WoS W α μ := by { rw [eW]; exact (p5 x (by omega) hhx).2 }
        refine V_aload_n (q := 57) dX6_world_56 rfl rfl rfl ?_
        refine V_getA (q := 60) 1 dX6_world_57 rfl flX6_18 (by decide) (congrArg Prod.fst (show _ = (7, 0) by rw [B.1.1.1])) rfl rfl (fun z57 ez57 rz57 => ?_)
        rw [B.1.2.2.1] at ez57
        obtain rfl : z57 = 101 := ez57
        refine V_aload_n (q := 61) dX6_world_60 rfl rfl rfl ?_
        refine V_getI (q := 64) 2 dX6_world_61 rfl flX6_22 (by decide) (congrArg Prod.fst (show _ = (7, 0) by rw [B.1.1.1])) rfl rfl (fun z61 ez61 rz61 => ?_)
        rw [B.2] at ez61
        refine V_aald (q := 65) (n := 12) (ta := 26) (ci := 5) dX6_world_64 rfl (by decide) (by rw [B.1.1.2]) rfl (by decide) (by omega) (fun z64 ez64 rz64 => ?_)
        rw [(show μ 101 z61 = W by { rw [show z61 = x by omega]; exact k101 })] at ez64
        obtain rfl : W = z64 := ez64.symm
        refine V_chV (q := 68) (As := []) (tX5_clear (W := W) (by omega) sW) dX6_world_65 rfl mlX6_156 mw_X5_clear im_X5_clear sl_X5_clear md_X5_clear rfl (by decide) (by omega) (congrArg Prod.fst (show _ = (6, 0) by rw [sW.1.1])) rfl rfl (by decide) (by decide) (Nat.le_of_ble_eq_true rfl) (Nat.le_of_ble_eq_true rfl) (Nat.le_of_ble_eq_true rfl) (fun A8 M8 x8 h8 => ?_)
        obtain ⟨hAA, y1, y2, y3, y4, y5, y6⟩ := h8
        replace hAA := hAA.symm
        subst hAA
        refine V_aload_n (q := 69) dX6_world_68 rfl rfl rfl ?_
        refine V_dup (q := 70) dX6_world_69 rfl (show (3 : Nat) ≠ 2 by decide) ?_
        refine V_getI (q := 73) 2 dX6_world_70 rfl flX6_22 (by decide) (congrArg Prod.fst (show _ = (7, 0) by rw [B.1.1.1])) rfl rfl (fun z70 ez70 rz70 => ?_)
        rw [y6 100 (by omega) (by omega) (by omega) (by omega), B.2] at ez70
        refine V_iconst (q := 74) dX6_world_73 rfl (by decide) ?_
        refine V_iadd (q := 75) dX6_world_74 rfl (by omega) (fun z74 ez74 => ?_)
        refine V_putI (q := 78) 2 dX6_world_75 rfl flX6_22 (Or.inl rfl) (by decide) (congrArg Prod.fst (show _ = (7, 0) by rw [B.1.1.1])) rfl rfl (fun M75 eM75 => ?_)
        refine V_aload_n (q := 79) dX6_world_78 rfl rfl rfl ?_
        refine V_getI (q := 82) 2 dX6_world_79 rfl flX6_22 (by decide) (congrArg Prod.fst (show _ = (7, 0) by rw [B.1.1.1])) rfl rfl (fun z79 ez79 rz79 => ?_)
        rw [eM75, mu_s] at ez79
        obtain rfl : z74 = z79 := ez79.symm
        refine V_iconst (q := 83) dX6_world_82 rfl (by decide) ?_
        refine V_isub (q := 84) dX6_world_83 rfl (by omega) (fun z83 ez83 => ?_)
        have hr : worldR M = x := by { unfold worldR; rw [if_neg (by omega), if_neg (by omega), hx] }
        have hwm : worldM M = newW M x := by { unfold worldM; rw [hr, if_pos (by omega), hx] }
        have F8 : ∀ t, t < W ∨ W + 6 ≤ t → α t = α t ∧ M8 t = μ t := fun t ht => ⟨rfl, y6 t (by omega) (by omega) (by omega) (by omega)⟩
        have G : ∀ t, t ≠ 100 → t ≠ 101 → M75 t = M8 t := fun t h1 h2 => by rw [eM75, mu_f _ _ _ _ (by omega)]
        have G100 : ∀ i, i ≠ 2 → M75 100 i = μ 100 i := fun i hi => by rw [eM75, mu_ne (by omega), (F8 100 (by omega)).2]
        have G2 : M75 100 2 = x + 1 := by { rw [eM75, mu_s]; omega }
        have G1 : M75 101 x = W := by { rw [eM75, mu_t _ _ _ _ (by decide), (F8 101 (by omega)).2]; exact k101 }
        have Gi : ∀ i, i ≠ x → M75 101 i = μ 101 i := fun i hi => by rw [eM75, mu_t _ _ _ _ (by decide), (F8 101 (by omega)).2]
        have gw : ∀ t, W ≤ t → t < W + 6 → M75 t = M8 t := fun t a b => G t (by omega) (by omega)
        have sW1 : WoS W α M75 := by { unfold WoS at sW ⊢; rw [gw W (by omega) (by omega), y5 0 (by omega), y5 1 (by omega), y5 2 (by omega), y5 4 (by omega), y5 8 (by omega)]; exact sW }
        have hb : BenR (newW M x) α M75 := by { refine ⟨⟨⟨?_, ?_⟩, ?_, ?_, ?_⟩, ?_⟩; · { rw [(F8 100 (by omega)).1]; exact B.1.1.1 }; · { rw [(F8 101 (by omega)).1]; exact B.1.1.2 }; · { rw [G100 0 (by decide)]; exact B.1.2.1 }; · { rw [G100 1 (by decide)]; exact B.1.2.2.1 }; · { rw [G100 3 (by decide)]; exact B.1.2.2.2 }; · { rw [G2, nw_17] } }
        have hwo : WosR (newW M x) α M75 := WosR_nw w ww Wo hx (by omega) eW sW1 (fun i a b => by { rw [gw (W + 1) (by omega) (by omega)]; exact y1 i a b }) (fun i a b => by { rw [gw (W + 2) (by omega) (by omega)]; exact y2 i a b }) (by { rw [gw W (by omega) (by omega)]; exact y3 }) (fun i a b => by { rw [gw (W + 5) (by omega) (by omega)]; exact y4 i a b }) (fun t a b c => ⟨(F8 t (by omega)).1, by rw [G t (by omega) (by omega), (F8 t (by omega)).2]⟩) G1 Gi
        exact V_iret dX6_world_84 (Nat.le_of_ble_eq_true rfl) (Nat.le_of_ble_eq_true rfl) ⟨_, rfl, by { rw [hr]; omega }, by { rw [hwm]; exact hb }, by { rw [hwm]; exact hwo }, fun t ht => ⟨(F8 t (by omega)).1, by rw [G t (by omega) (by omega), (F8 t (by omega)).2]⟩⟩
      · have hhx : hh ≤ x := by { rcases (show x < hh ∨ hh ≤ x by omega) with q | q; · { have := (p5 x (by omega) q).1; omega }; · { exact q } }
        have hfr : ∀ t, W ≤ t → t < W + 10 → (α t).1 = 0 := fun t a b => (p6 x hhx (by omega)).2 t (by omega) (by omega)
        refine V_aload_n (q := 38) dX6_world_37 rfl rfl rfl ?_
        refine V_getA (q := 41) 1 dX6_world_38 rfl flX6_18 (by decide) (congrArg Prod.fst (show _ = (7, 0) by rw [B.1.1.1])) rfl rfl (fun z38 ez38 rz38 => ?_)
        rw [B.1.2.2.1] at ez38
        obtain rfl : z38 = 101 := ez38
        refine V_aload_n (q := 42) dX6_world_41 rfl rfl rfl ?_
        refine V_getI (q := 45) 2 dX6_world_42 rfl flX6_22 (by decide) (congrArg Prod.fst (show _ = (7, 0) by rw [B.1.1.1])) rfl rfl (fun z42 ez42 rz42 => ?_)
        rw [B.2] at ez42
        refine V_new (q := 48) (ci := 5) W dX6_world_45 rfl ckX6_16 (hfr W (by omega) (by omega)) (by omega) (Nat.le_of_ble_eq_true rfl) (Nat.le_of_ble_eq_true rfl) (fun A45 M45 eA45 eM45 => ?_)
        refine V_dup (q := 49) dX6_world_48 rfl (show (3 : Nat) ≠ 2 by decide) ?_
        refine V_chN (q := 52) (As := []) (tX5_init (b := W) (by omega) (by rw [eA45, sa_s]) (by rw [eM45, mn_s] <;> rfl) (by rw [eM45, mn_s] <;> rfl) (fun t h1 h2 => by { rw [eA45, sa_t _ _ _ (by omega)]; exact hfr t (by omega) (by omega) })) dX6_world_49 rfl mnX6_26 mw_X5_init im_X5_init rfl md_X5_init (by omega) rfl rfl (by decide) (by decide) (Nat.le_of_ble_eq_true rfl) (Nat.le_of_ble_eq_true rfl) (Nat.le_of_ble_eq_true rfl) (fun A9 M9 x9 h9 => ?_)
        obtain ⟨N9, f9⟩ := h9
        have F9 : ∀ t, t < W ∨ W + 6 ≤ t → A9 t = α t ∧ M9 t = μ t := fun t ht => by { rw [(f9 t ht).1, (f9 t ht).2, eA45, eM45, sa_t _ _ _ (by omega), mn_t _ _ _ (by omega)]; exact ⟨rfl, rfl⟩ }
        refine V_aast (q := 53) (n := 12) (ta := 26) (ci := 5) dX6_world_52 rfl (by decide) (by rw [(F9 101 (by omega)).1, B.1.1.2]) rfl (by decide) (by decide) (by omega) (by omega) (congrArg Prod.fst (show _ = (6, 0) by rw [N9.1.1.1])) (fun M52 eM52 => ?_)
        refine V_goto (tgt := 68) dX6_world_53 (by decide) ?_
        refine V_aload_n (q := 69) dX6_world_68 rfl rfl rfl ?_
        refine V_dup (q := 70) dX6_world_69 rfl (show (3 : Nat) ≠ 2 by decide) ?_
        refine V_getI (q := 73) 2 dX6_world_70 rfl flX6_22 (by decide) (congrArg Prod.fst (show _ = (7, 0) by rw [(F9 100 (by omega)).1, B.1.1.1])) rfl rfl (fun z70_2 ez70_2 rz70_2 => ?_)
        rw [eM52, mu_ne (by omega), (F9 100 (by omega)).2, B.2] at ez70_2
        refine V_iconst (q := 74) dX6_world_73 rfl (by decide) ?_
        refine V_iadd (q := 75) dX6_world_74 rfl (by omega) (fun z74_2 ez74_2 => ?_)
        refine V_putI (q := 78) 2 dX6_world_75 rfl flX6_22 (Or.inl rfl) (by decide) (congrArg Prod.fst (show _ = (7, 0) by rw [(F9 100 (by omega)).1, B.1.1.1])) rfl rfl (fun M75_2 eM75_2 => ?_)
        refine V_aload_n (q := 79) dX6_world_78 rfl rfl rfl ?_
        refine V_getI (q := 82) 2 dX6_world_79 rfl flX6_22 (by decide) (congrArg Prod.fst (show _ = (7, 0) by rw [(F9 100 (by omega)).1, B.1.1.1])) rfl rfl (fun z79_2 ez79_2 rz79_2 => ?_)
        rw [eM75_2, mu_s] at ez79_2
        obtain rfl : z74_2 = z79_2 := ez79_2.symm
        refine V_iconst (q := 83) dX6_world_82 rfl (by decide) ?_
        refine V_isub (q := 84) dX6_world_83 rfl (by omega) (fun z83_2 ez83_2 => ?_)
        have hr : worldR M = x := by { unfold worldR; rw [if_neg (by omega), if_neg (by omega), hx] }
        have hwm : worldM M = newW M x := by { unfold worldM; rw [hr, if_pos (by omega), hx] }
        have G : ∀ t, t ≠ 100 → t ≠ 101 → M75_2 t = M9 t := fun t h1 h2 => by rw [eM75_2, mu_f _ _ _ _ (by omega), eM52, mu_f _ _ _ _ (by omega)]
        have G100 : ∀ i, i ≠ 2 → M75_2 100 i = μ 100 i := fun i hi => by rw [eM75_2, mu_ne (by omega), eM52, mu_ne (by omega), (F9 100 (by omega)).2]
        have G2 : M75_2 100 2 = x + 1 := by { rw [eM75_2, mu_s]; omega }
        have G1 : M75_2 101 x = W := by { rw [eM75_2, mu_t _ _ _ _ (by decide), eM52, mu_ix (by omega)] }
        have Gi : ∀ i, i ≠ x → M75_2 101 i = μ 101 i := fun i hi => by rw [eM75_2, mu_t _ _ _ _ (by decide), eM52, mu_i _ _ _ _ (by omega), (F9 101 (by omega)).2]
        have NW : WoN W A9 M75_2 := WoN_c (fun t a b => ⟨rfl, G t (by omega) (by omega)⟩) N9
        have hb : BenR (newW M x) A9 M75_2 := by { refine ⟨⟨⟨?_, ?_⟩, ?_, ?_, ?_⟩, ?_⟩; · { rw [(F9 100 (by omega)).1]; exact B.1.1.1 }; · { rw [(F9 101 (by omega)).1]; exact B.1.1.2 }; · { rw [G100 0 (by decide)]; exact B.1.2.1 }; · { rw [G100 1 (by decide)]; exact B.1.2.2.1 }; · { rw [G100 3 (by decide)]; exact B.1.2.2.2 }; · { rw [G2, nw_17] } }
        have hwo : WosR (newW M x) A9 M75_2 := WosR_nw w ww Wo hx (by omega) eW NW.1 (fun i _ _ => NW.2.2.1 i) (fun i _ _ => NW.2.2.2.1 i) ⟨NW.2.1.1, NW.2.1.2.1, NW.2.1.2.2.1, NW.2.1.2.2.2⟩ (fun i _ _ => NW.2.2.2.2.2.2 i) (fun t a b c => ⟨(F9 t (by omega)).1, by rw [G t (by omega) (by omega), (F9 t (by omega)).2]⟩) G1 Gi
        exact V_iret dX6_world_84 (Nat.le_of_ble_eq_true rfl) (Nat.le_of_ble_eq_true rfl) ⟨_, rfl, by { rw [hr]; omega }, by { rw [hwm]; exact hb }, by { rw [hwm]; exact hwo }, fun t ht => ⟨(F9 t (by omega)).1, by rw [G t (by omega) (by omega), (F9 t (by omega)).2]⟩⟩
    · refine V_bipush (q := 24) dX6_world_22 rfl (by decide) ?_
      have hr : worldR M = (-5) := by { unfold worldR; rw [if_neg (by omega), if_pos (by omega)] }
      have hwm : worldM M = M := by { unfold worldM; rw [hr, if_neg (by decide)] }
      exact V_iret dX6_world_24 (Nat.le_of_ble_eq_true rfl) (Nat.le_of_ble_eq_true rfl) ⟨_, rfl, hr.symm, by { rw [hwm]; exact B }, by { rw [hwm]; exact Wo }, fun _ _ => ⟨rfl, rfl⟩⟩
  · refine V_bipush (q := 11) dX6_world_9 rfl (by decide) ?_
    have hr : worldR M = (-4) := by { unfold worldR; rw [if_pos (by omega)] }
    have hwm : worldM M = M := by { unfold worldM; rw [hr, if_neg (by decide)] }
    exact V_iret dX6_world_11 (Nat.le_of_ble_eq_true rfl) (Nat.le_of_ble_eq_true rfl) ⟨_, rfl, hr.symm, by { rw [hwm]; exact B }, by { rw [hwm]; exact Wo }, fun _ _ => ⟨rfl, rfl⟩⟩
