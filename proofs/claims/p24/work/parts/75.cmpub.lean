/-! THE CLASS: the calls that describe -/
/-- what lies below the types is the same, but for the description's own cells -/
def MF (α : Sh) (μ : Mem) (α1 : Sh) (μ1 : Mem) : Prop := (∀ t, t < 1000 → α1 t = α t) ∧ ∀ t, t < 1000 → t ≠ 110 → t ≠ 111 → t ≠ 112 → μ1 t = μ t
theorem MF.rf {α : Sh} {μ : Mem} : MF α μ α μ := ⟨fun _ _ => rfl, fun _ _ _ _ _ => rfl⟩
def adR (M : Mem) : Int := if 0 < M 17 0 then -3 else if M 0 0 = 40 then -4 else M 0 0
theorem tX6_addType {Γ : GC} {α : Sh} {μ : Mem} {fc sp ab up : Int} {M : Mem} (w : WFD M) (D : DesR M α μ) (B : BenR M α μ) (hfc : 0 ≤ fc ∧ fc ≤ 1) (hsp : 0 ≤ sp ∧ sp ≤ 1) (hup : -1 ≤ up ∧ up < M 0 0) (hab : ab = if up < 0 then -6 else up) (hf : fc = 1 → up = -1) (hc : 0 ≤ up → M 1 up ≠ 1) : MT Γ yX6_addType cX6_addType 4 (some .int) 3 8 102 [(3, 100), (0, fc), (0, sp), (0, ab)] α μ (QI fun r α1 μ1 => r = adR M ∧ MF α μ α1 μ1 ∧ DesR (if 0 ≤ adR M then mkM M fc sp up else M) α1 μ1) := by
  have hn := w.n
  have hw := w.w
  obtain ⟨T, hT⟩ : ∃ T : Int, T = tk (M 0 0) := ⟨_, rfl⟩
  have hT1 : T = 1000 * (M 0 0 + 1) := hT
  refine MT_of (k := 0) [(3, 100), (0, fc), (0, sp), (0, ab)] pn_X6_addType rfl rfl (fun ad0 => ?_)
  refine V_aload_n (q := 1) dX6_addType_0 rfl rfl rfl ?_
  refine V_getI (q := 4) 2 dX6_addType_1 rfl flX6_22 (by decide) (congrArg Prod.fst (show _ = (7, 0) by rw [B.1.1.1])) rfl rfl (fun z1 ez1 rz1 => ?_)
  rw [B.2] at ez1
  refine V_if_le (q := 7) (tgt := 10) dX6_addType_4 (by decide) rfl (fun c4 => ?_) (fun c4 => ?_)
  · refine V_aload_n (q := 11) dX6_addType_10 rfl rfl rfl ?_
    refine V_getA (q := 14) 0 dX6_addType_11 rfl flX6_10 (by decide) (congrArg Prod.fst (show _ = (7, 0) by rw [B.1.1.1])) rfl rfl (fun z11 ez11 rz11 => ?_)
    rw [B.1.2.1] at ez11
    obtain rfl : z11 = 110 := ez11
    refine V_getI (q := 17) 1 dX6_addType_14 rfl flX6_49 (by decide) (congrArg Prod.fst (show _ = (3, 0) by rw [D.1.1.1])) rfl rfl (fun z14 ez14 rz14 => ?_)
    rw [D.2.1] at ez14
    refine V_bipush (q := 19) dX6_addType_17 rfl (by decide) ?_
    refine V_icmp_lt (q := 22) (tgt := 27) dX6_addType_19 (by decide) rfl (fun c19 => ?_) (fun c19 => ?_)
    · refine V_aload_n (q := 28) dX6_addType_27 rfl rfl rfl ?_
      refine V_getA (q := 31) 0 dX6_addType_28 rfl flX6_10 (by decide) (congrArg Prod.fst (show _ = (7, 0) by rw [B.1.1.1])) rfl rfl (fun z28 ez28 rz28 => ?_)
      rw [B.1.2.1] at ez28
      obtain rfl : z28 = 110 := ez28
      refine V_new (q := 34) (ci := 4) T dX6_addType_31 rfl ckX6_40 (D.2.2.2.2.2 T (by omega)) (by omega) (Nat.le_of_ble_eq_true rfl) (Nat.le_of_ble_eq_true rfl) (fun A31 M31 eA31 eM31 => ?_)
      refine V_dup (q := 35) dX6_addType_34 rfl (show (3 : Nat) ≠ 2 by decide) ?_
      refine V_iload_n (q := 36) dX6_addType_35 rfl rfl rfl ?_
      refine V_iload_n (q := 37) dX6_addType_36 rfl rfl rfl ?_
      refine V_iload_n (q := 38) dX6_addType_37 rfl rfl rfl ?_
      refine V_chI (q := 41) (As := [(0, fc), (0, sp), (0, ab)]) (tX4_init (b := T) (by omega) (by rw [eA31, sa_s]) hfc hsp (fun i => by rw [eM31, mn_s]) (fun t h1 h2 => by { rw [eA31, sa_t _ _ _ (by omega)]; exact D.2.2.2.2.2 t (by omega) })) dX6_addType_38 rfl mlX6_52 mw_X4_init im_X4_init rfl md_X4_init (by omega) rfl rfl (by decide) (by decide) (Nat.le_of_ble_eq_true rfl) (Nat.le_of_ble_eq_true rfl) (Nat.le_of_ble_eq_true rfl) (fun A38 M38 x38 h38 => ?_)
      obtain ⟨N38, f38⟩ := h38
      have F38 : ∀ t, t < T ∨ T + 8 ≤ t → A38 t = α t ∧ M38 t = μ t := fun t ht => by { rw [(f38 t ht).1, (f38 t ht).2, eA31, eM31, sa_t _ _ _ (by omega), mn_t _ _ _ (by omega)]; exact ⟨rfl, rfl⟩ }
      have ehab := hab
      have hu : 0 ≤ ab → ab < M 0 0 ∧ M38 111 ab = tk ab ∧ A38 (tk ab) = (5, 0) ∧ 1000 ≤ tk ab ∧ tk ab ≠ T := fun q0 => by { have e := tk_eq ab; have q1 : ab = up := (by { rw [hab] at q0 ⊢; split at q0; · { omega }; · { rename_i h9; rw [if_neg h9] } }); have q2 := D.2.2.1 ab q0 (by omega); refine ⟨by omega, ?_, ?_, by omega, by omega⟩; · { rw [(F38 111 (by omega)).2]; exact q2.1 }; · { rw [(F38 (tk ab) (by omega)).1]; exact q2.2.1.1.1 } }
      refine V_chVi (q := 44) (As := [(3, T)]) (tX2_append (T := T) (U := tk ab) (ab := ab) (n := M 0 0) (by omega) (by rw [(F38 110 (by omega)).1]; exact D.1.1.1) (by rw [(F38 111 (by omega)).1]; exact D.1.1.2.1) (by rw [(F38 110 (by omega)).2]; exact D.1.2.1) (by rw [(F38 110 (by omega)).2]; exact D.2.1) (by omega) N38.1.1.1 N38.2.1.2.2.1 N38.2.1.2.2.2.2.1 hu) dX6_addType_41 rfl mlX6_55 mw_X2_append im_X2_append sl_X2_append md_X2_append rfl (by decide) (by decide) (congrArg Prod.fst (show _ = (3, 0) by rw [(F38 110 (by omega)).1, D.1.1.1])) rfl rfl (by decide) (by decide) (Nat.le_of_ble_eq_true rfl) (Nat.le_of_ble_eq_true rfl) (Nat.le_of_ble_eq_true rfl) (fun z41 r41 A41 M41 x41 h41 => ?_)
      obtain ⟨hAA, rfl, Lb, eM41, hLb⟩ := h41
      replace hAA := hAA.symm
      subst hAA
      have hr : adR M = M 0 0 := by { unfold adR; (repeat' (first | rw [if_pos (by omega)] | rw [if_neg (by omega)])) }
      have hmf : MF α μ A38 M41 := ⟨fun t ht => (F38 t (by omega)).1, fun t ht h1 h2 h3 => by rw [eM41, mu_f _ _ _ _ h1, mu_f _ _ _ _ h2, mu_f _ _ _ _ (by omega), (F38 t (by omega)).2]⟩
      have hw1 := WFD_mk (a := fc) (b := sp) w (by omega) hup hf hc
      exact V_iret dX6_addType_44 (Nat.le_of_ble_eq_true rfl) (Nat.le_of_ble_eq_true rfl) ⟨_, rfl, hr.symm, hmf, by { rw [if_pos (by omega)]; exact DesR_mk w hw1 D (by omega) hup hab hT N38 F38 eM41 hLb }⟩
    · refine V_bipush (q := 24) dX6_addType_22 rfl (by decide) ?_
      refine V_goto (tgt := 44) dX6_addType_24 (by decide) ?_
      have hr : adR M = (-4) := by { unfold adR; (repeat' (first | rw [if_pos (by omega)] | rw [if_neg (by omega)])) }
      exact V_iret dX6_addType_44 (Nat.le_of_ble_eq_true rfl) (Nat.le_of_ble_eq_true rfl) ⟨_, rfl, hr.symm, MF.rf, by { rw [hr, if_neg (by decide)]; exact D }⟩
  · refine V_bipush (q := 9) dX6_addType_7 rfl (by decide) ?_
    have hr : adR M = (-3) := by { unfold adR; (repeat' (first | rw [if_pos (by omega)] | rw [if_neg (by omega)])) }
    exact V_iret dX6_addType_9 (Nat.le_of_ble_eq_true rfl) (Nat.le_of_ble_eq_true rfl) ⟨_, rfl, hr.symm, MF.rf, by { rw [hr, if_neg (by decide)]; exact D }⟩
theorem cls_ad {M : Mem} {up op : Int} (h1 : up = -1 ∨ (0 ≤ up ∧ up < M 0 0)) (h2 : up ≠ -1 → M 1 up ≠ 1) : clsR M up = adR M ∧ clsM M up op = if 0 ≤ adR M then mkM M 0 op up else M := by
  have e : clsR M up = adR M := by
    unfold clsR adR
    rw [if_neg (by omega), if_neg (fun q => h2 q.1 q.2)]
  refine ⟨e, ?_⟩
  unfold clsM
  rw [e]
theorem cls_no {M : Mem} {up op : Int} (h : clsR M up < 0) : clsM M up op = M := if_neg (by omega)
theorem tX6_cls {Γ : GC} {α : Sh} {μ : Mem} {up op : Int} {M : Mem} (w : WFD M) (D : DesR M α μ) (B : BenR M α μ) (ho : 0 ≤ op ∧ op ≤ 1) : MT Γ yX6_cls cX6_cls 3 (some .int) 4 8 102 [(3, 100), (0, up), (0, op)] α μ (QI fun r α1 μ1 => r = clsR M up ∧ MF α μ α1 μ1 ∧ DesR (clsM M up op) α1 μ1) := by
  have hn := w.n
  have hw := w.w
  refine MT_of (k := 0) [(3, 100), (0, up), (0, op)] pn_X6_cls rfl rfl (fun ad0 => ?_)
  refine V_iload_n (q := 1) dX6_cls_0 rfl rfl rfl ?_
  refine V_iconst (q := 2) dX6_cls_1 rfl (by decide) ?_
  refine V_icmp_eq (q := 5) (tgt := 18) dX6_cls_2 (by decide) rfl (fun c2 => ?_) (fun c2 => ?_)
  · refine V_iload_n (q := 19) dX6_cls_18 rfl rfl rfl ?_
    refine V_iconst (q := 20) dX6_cls_19 rfl (by decide) ?_
    refine V_icmp_eq (q := 23) (tgt := 41) dX6_cls_20 (by decide) rfl (fun c20 => ?_) (fun c20 => ?_)
    · refine V_aload_n (q := 42) dX6_cls_41 rfl rfl rfl ?_
      refine V_iconst (q := 43) dX6_cls_42 rfl (by decide) ?_
      refine V_iload_n (q := 44) dX6_cls_43 rfl rfl rfl ?_
      refine V_iload_n (q := 45) dX6_cls_44 rfl rfl rfl ?_
      refine V_iconst (q := 46) dX6_cls_45 rfl (by decide) ?_
      refine V_icmp_ne (q := 49) (tgt := 54) dX6_cls_46 (by decide) rfl (fun c46 => ?_) (fun c46 => ?_)
      · refine V_iload_n (q := 55) dX6_cls_54 rfl rfl rfl ?_
        refine V_chVi (q := 58) (As := [(0, 0), (0, op), (0, up)]) (tX6_addType (up := up) w D B ⟨by decide, by decide⟩ ho (by omega) (by rw [if_neg (by omega)]) (fun q => absurd q (by decide)) (fun q => by omega)) dX6_cls_55 rfl mlX6_45 mw_X6_addType im_X6_addType sl_X6_addType md_X6_addType rfl (by decide) (by decide) (congrArg Prod.fst (show _ = (7, 0) by rw [B.1.1.1])) rfl rfl (by decide) (by decide) (Nat.le_of_ble_eq_true rfl) (Nat.le_of_ble_eq_true rfl) (Nat.le_of_ble_eq_true rfl) (fun z55 rz55 A55 M55 xM55 hM55 => ?_)
        obtain ⟨ez55, mfM55, DM55⟩ := hM55
        have hca := cls_ad (M := M) (op := op) (up := up) (by omega) (fun q => by omega)
        exact V_iret dX6_cls_58 (Nat.le_of_ble_eq_true rfl) (Nat.le_of_ble_eq_true rfl) ⟨_, rfl, by rw [ez55, hca.1], mfM55, by { rw [hca.2]; exact DM55 }⟩
      · refine V_bipush (q := 51) dX6_cls_49 rfl (by decide) ?_
        refine V_goto (tgt := 55) dX6_cls_51 (by decide) ?_
        refine V_chVi (q := 58) (As := [(0, 0), (0, op), (0, (-6))]) (tX6_addType (up := up) w D B ⟨by decide, by decide⟩ ho (by omega) (by rw [if_pos (by omega)]) (fun q => absurd q (by decide)) (fun q => by omega)) dX6_cls_55 rfl mlX6_45 mw_X6_addType im_X6_addType sl_X6_addType md_X6_addType rfl (by decide) (by decide) (congrArg Prod.fst (show _ = (7, 0) by rw [B.1.1.1])) rfl rfl (by decide) (by decide) (Nat.le_of_ble_eq_true rfl) (Nat.le_of_ble_eq_true rfl) (Nat.le_of_ble_eq_true rfl) (fun z55_2 rz55_2 A55_2 M55_2 xM55_2 hM55_2 => ?_)
        obtain ⟨ez55_2, mfM55_2, DM55_2⟩ := hM55_2
        have hca := cls_ad (M := M) (op := op) (up := up) (by omega) (fun q => by omega)
        exact V_iret dX6_cls_58 (Nat.le_of_ble_eq_true rfl) (Nat.le_of_ble_eq_true rfl) ⟨_, rfl, by rw [ez55_2, hca.1], mfM55_2, by { rw [hca.2]; exact DM55_2 }⟩
    · have ht : 0 ≤ up ∧ up < M 0 0 := by omega
      obtain ⟨T, hT⟩ : ∃ T : Int, T = tk up := ⟨_, rfl⟩
      obtain ⟨kT, yT⟩ := D.2.2.1 up ht.1 ht.2
      rw [← hT] at kT
      unfold TypR at yT
      rw [← hT] at yT
      replace hT : T = 1000 * (up + 1) := hT
      refine V_aload_n (q := 24) dX6_cls_23 rfl rfl rfl ?_
      refine V_getA (q := 27) 0 dX6_cls_24 rfl flX6_10 (by decide) (congrArg Prod.fst (show _ = (7, 0) by rw [B.1.1.1])) rfl rfl (fun z24 ez24 rz24 => ?_)
      rw [B.1.2.1] at ez24
      obtain rfl : z24 = 110 := ez24
      refine V_getA (q := 30) 0 dX6_cls_27 rfl flX6_35 (by decide) (congrArg Prod.fst (show _ = (3, 0) by rw [D.1.1.1])) rfl rfl (fun z27 ez27 rz27 => ?_)
      rw [D.1.2.1] at ez27
      obtain rfl : z27 = 111 := ez27
      refine V_iload_n (q := 31) dX6_cls_30 rfl rfl rfl ?_
      refine V_aald (q := 32) (n := 40) (ta := 23) (ci := 4) dX6_cls_31 rfl (by decide) (by rw [D.1.1.2.1]) rfl (by decide) (by omega) (fun z31 ez31 rz31 => ?_)
      rw [kT] at ez31
      obtain rfl : T = z31 := ez31.symm
      refine V_getZ (q := 35) 0 dX6_cls_32 rfl flX6_39 (by omega) (congrArg Prod.fst (show _ = (5, 0) by rw [yT.1.1.1])) rfl rfl (fun z32 ez32 rz32 => ?_)
      rw [yT.2.1.1] at ez32
      refine V_if_eq (q := 38) (tgt := 41) dX6_cls_35 (by decide) rfl (fun c35 => ?_) (fun c35 => ?_)
      · refine V_aload_n (q := 42) dX6_cls_41 rfl rfl rfl ?_
        refine V_iconst (q := 43) dX6_cls_42 rfl (by decide) ?_
        refine V_iload_n (q := 44) dX6_cls_43 rfl rfl rfl ?_
        refine V_iload_n (q := 45) dX6_cls_44 rfl rfl rfl ?_
        refine V_iconst (q := 46) dX6_cls_45 rfl (by decide) ?_
        refine V_icmp_ne (q := 49) (tgt := 54) dX6_cls_46 (by decide) rfl (fun c46_2 => ?_) (fun c46_2 => ?_)
        · refine V_iload_n (q := 55) dX6_cls_54 rfl rfl rfl ?_
          refine V_chVi (q := 58) (As := [(0, 0), (0, op), (0, up)]) (tX6_addType (up := up) w D B ⟨by decide, by decide⟩ ho (by omega) (by rw [if_neg (by omega)]) (fun q => absurd q (by decide)) (fun q => by omega)) dX6_cls_55 rfl mlX6_45 mw_X6_addType im_X6_addType sl_X6_addType md_X6_addType rfl (by decide) (by decide) (congrArg Prod.fst (show _ = (7, 0) by rw [B.1.1.1])) rfl rfl (by decide) (by decide) (Nat.le_of_ble_eq_true rfl) (Nat.le_of_ble_eq_true rfl) (Nat.le_of_ble_eq_true rfl) (fun z55_3 rz55_3 A55_3 M55_3 xM55_3 hM55_3 => ?_)
          obtain ⟨ez55_3, mfM55_3, DM55_3⟩ := hM55_3
          have hca := cls_ad (M := M) (op := op) (up := up) (by omega) (fun q => by omega)
          exact V_iret dX6_cls_58 (Nat.le_of_ble_eq_true rfl) (Nat.le_of_ble_eq_true rfl) ⟨_, rfl, by rw [ez55_3, hca.1], mfM55_3, by { rw [hca.2]; exact DM55_3 }⟩
        · refine V_bipush (q := 51) dX6_cls_49 rfl (by decide) ?_
          refine V_goto (tgt := 55) dX6_cls_51 (by decide) ?_
          refine V_chVi (q := 58) (As := [(0, 0), (0, op), (0, (-6))]) (tX6_addType (up := up) w D B ⟨by decide, by decide⟩ ho (by omega) (by rw [if_pos (by omega)]) (fun q => absurd q (by decide)) (fun q => by omega)) dX6_cls_55 rfl mlX6_45 mw_X6_addType im_X6_addType sl_X6_addType md_X6_addType rfl (by decide) (by decide) (congrArg Prod.fst (show _ = (7, 0) by rw [B.1.1.1])) rfl rfl (by decide) (by decide) (Nat.le_of_ble_eq_true rfl) (Nat.le_of_ble_eq_true rfl) (Nat.le_of_ble_eq_true rfl) (fun z55_4 rz55_4 A55_4 M55_4 xM55_4 hM55_4 => ?_)
          obtain ⟨ez55_4, mfM55_4, DM55_4⟩ := hM55_4
          have hca := cls_ad (M := M) (op := op) (up := up) (by omega) (fun q => by omega)
          exact V_iret dX6_cls_58 (Nat.le_of_ble_eq_true rfl) (Nat.le_of_ble_eq_true rfl) ⟨_, rfl, by rw [ez55_4, hca.1], mfM55_4, by { rw [hca.2]; exact DM55_4 }⟩
      · refine V_bipush (q := 40) dX6_cls_38 rfl (by decide) ?_
        first | (exfalso; omega) | (have hr : clsR M up = (-2) := by { unfold clsR; (repeat' (first | rw [if_pos (by omega)] | rw [if_neg (by omega)])) }; exact V_iret dX6_cls_40 (Nat.le_of_ble_eq_true rfl) (Nat.le_of_ble_eq_true rfl) ⟨_, rfl, hr.symm, MF.rf, by { rw [cls_no (by rw [hr]; decide)]; exact D }⟩)
  · refine V_aload_n (q := 6) dX6_cls_5 rfl rfl rfl ?_
    refine V_getA (q := 9) 0 dX6_cls_6 rfl flX6_10 (by decide) (congrArg Prod.fst (show _ = (7, 0) by rw [B.1.1.1])) rfl rfl (fun z6 ez6 rz6 => ?_)
    rw [B.1.2.1] at ez6
    obtain rfl : z6 = 110 := ez6
    refine V_iload_n (q := 10) dX6_cls_9 rfl rfl rfl ?_
    refine V_rdV (q := 13) (As := [(0, up)]) (tX2_knows D.1.1.1) dX6_cls_10 rfl mlX6_31 mw_X2_knows im_X2_knows sl_X2_knows md_X2_knows rfl (by decide) (by decide) (congrArg Prod.fst (show _ = (3, 0) by rw [D.1.1.1])) rfl rfl (by decide) (by decide) (Nat.le_of_ble_eq_true rfl) (Nat.le_of_ble_eq_true rfl) (Nat.le_of_ble_eq_true rfl) (fun z10 rz10 hz10 => ?_)
    obtain ⟨bz10, hz10⟩ := hz10
    rw [D.2.1] at hz10
    refine V_if_ne (q := 16) (tgt := 18) dX6_cls_13 (by decide) rfl (fun c13 => ?_) (fun c13 => ?_)
    · refine V_iload_n (q := 19) dX6_cls_18 rfl rfl rfl ?_
      refine V_iconst (q := 20) dX6_cls_19 rfl (by decide) ?_
      refine V_icmp_eq (q := 23) (tgt := 41) dX6_cls_20 (by decide) rfl (fun c20_2 => ?_) (fun c20_2 => ?_)
      · refine V_aload_n (q := 42) dX6_cls_41 rfl rfl rfl ?_
        refine V_iconst (q := 43) dX6_cls_42 rfl (by decide) ?_
        refine V_iload_n (q := 44) dX6_cls_43 rfl rfl rfl ?_
        refine V_iload_n (q := 45) dX6_cls_44 rfl rfl rfl ?_
        refine V_iconst (q := 46) dX6_cls_45 rfl (by decide) ?_
        refine V_icmp_ne (q := 49) (tgt := 54) dX6_cls_46 (by decide) rfl (fun c46_3 => ?_) (fun c46_3 => ?_)
        · refine V_iload_n (q := 55) dX6_cls_54 rfl rfl rfl ?_
          refine V_chVi (q := 58) (As := [(0, 0), (0, op), (0, up)]) (tX6_addType (up := up) w D B ⟨by decide, by decide⟩ ho (by omega) (by rw [if_neg (by omega)]) (fun q => absurd q (by decide)) (fun q => by omega)) dX6_cls_55 rfl mlX6_45 mw_X6_addType im_X6_addType sl_X6_addType md_X6_addType rfl (by decide) (by decide) (congrArg Prod.fst (show _ = (7, 0) by rw [B.1.1.1])) rfl rfl (by decide) (by decide) (Nat.le_of_ble_eq_true rfl) (Nat.le_of_ble_eq_true rfl) (Nat.le_of_ble_eq_true rfl) (fun z55_5 rz55_5 A55_5 M55_5 xM55_5 hM55_5 => ?_)
          obtain ⟨ez55_5, mfM55_5, DM55_5⟩ := hM55_5
          have hca := cls_ad (M := M) (op := op) (up := up) (by omega) (fun q => by omega)
          exact V_iret dX6_cls_58 (Nat.le_of_ble_eq_true rfl) (Nat.le_of_ble_eq_true rfl) ⟨_, rfl, by rw [ez55_5, hca.1], mfM55_5, by { rw [hca.2]; exact DM55_5 }⟩
        · refine V_bipush (q := 51) dX6_cls_49 rfl (by decide) ?_
          refine V_goto (tgt := 55) dX6_cls_51 (by decide) ?_
          refine V_chVi (q := 58) (As := [(0, 0), (0, op), (0, (-6))]) (tX6_addType (up := up) w D B ⟨by decide, by decide⟩ ho (by omega) (by rw [if_pos (by omega)]) (fun q => absurd q (by decide)) (fun q => by omega)) dX6_cls_55 rfl mlX6_45 mw_X6_addType im_X6_addType sl_X6_addType md_X6_addType rfl (by decide) (by decide) (congrArg Prod.fst (show _ = (7, 0) by rw [B.1.1.1])) rfl rfl (by decide) (by decide) (Nat.le_of_ble_eq_true rfl) (Nat.le_of_ble_eq_true rfl) (Nat.le_of_ble_eq_true rfl) (fun z55_6 rz55_6 A55_6 M55_6 xM55_6 hM55_6 => ?_)
          obtain ⟨ez55_6, mfM55_6, DM55_6⟩ := hM55_6
          have hca := cls_ad (M := M) (op := op) (up := up) (by omega) (fun q => by omega)
          exact V_iret dX6_cls_58 (Nat.le_of_ble_eq_true rfl) (Nat.le_of_ble_eq_true rfl) ⟨_, rfl, by rw [ez55_6, hca.1], mfM55_6, by { rw [hca.2]; exact DM55_6 }⟩
      · have ht : 0 ≤ up ∧ up < M 0 0 := by omega
        obtain ⟨T, hT⟩ : ∃ T : Int, T = tk up := ⟨_, rfl⟩
        obtain ⟨kT, yT⟩ := D.2.2.1 up ht.1 ht.2
        rw [← hT] at kT
        unfold TypR at yT
        rw [← hT] at yT
        replace hT : T = 1000 * (up + 1) := hT
        refine V_aload_n (q := 24) dX6_cls_23 rfl rfl rfl ?_
        refine V_getA (q := 27) 0 dX6_cls_24 rfl flX6_10 (by decide) (congrArg Prod.fst (show _ = (7, 0) by rw [B.1.1.1])) rfl rfl (fun z24_2 ez24_2 rz24_2 => ?_)
        rw [B.1.2.1] at ez24_2
        obtain rfl : z24_2 = 110 := ez24_2
        refine V_getA (q := 30) 0 dX6_cls_27 rfl flX6_35 (by decide) (congrArg Prod.fst (show _ = (3, 0) by rw [D.1.1.1])) rfl rfl (fun z27_2 ez27_2 rz27_2 => ?_)
        rw [D.1.2.1] at ez27_2
        obtain rfl : z27_2 = 111 := ez27_2
        refine V_iload_n (q := 31) dX6_cls_30 rfl rfl rfl ?_
        refine V_aald (q := 32) (n := 40) (ta := 23) (ci := 4) dX6_cls_31 rfl (by decide) (by rw [D.1.1.2.1]) rfl (by decide) (by omega) (fun z31_2 ez31_2 rz31_2 => ?_)
        rw [kT] at ez31_2
        obtain rfl : T = z31_2 := ez31_2.symm
        refine V_getZ (q := 35) 0 dX6_cls_32 rfl flX6_39 (by omega) (congrArg Prod.fst (show _ = (5, 0) by rw [yT.1.1.1])) rfl rfl (fun z32_2 ez32_2 rz32_2 => ?_)
        rw [yT.2.1.1] at ez32_2
        refine V_if_eq (q := 38) (tgt := 41) dX6_cls_35 (by decide) rfl (fun c35_2 => ?_) (fun c35_2 => ?_)
        · refine V_aload_n (q := 42) dX6_cls_41 rfl rfl rfl ?_
          refine V_iconst (q := 43) dX6_cls_42 rfl (by decide) ?_
          refine V_iload_n (q := 44) dX6_cls_43 rfl rfl rfl ?_
          refine V_iload_n (q := 45) dX6_cls_44 rfl rfl rfl ?_
          refine V_iconst (q := 46) dX6_cls_45 rfl (by decide) ?_
          refine V_icmp_ne (q := 49) (tgt := 54) dX6_cls_46 (by decide) rfl (fun c46_4 => ?_) (fun c46_4 => ?_)
          · refine V_iload_n (q := 55) dX6_cls_54 rfl rfl rfl ?_
            refine V_chVi (q := 58) (As := [(0, 0), (0, op), (0, up)]) (tX6_addType (up := up) w D B ⟨by decide, by decide⟩ ho (by omega) (by rw [if_neg (by omega)]) (fun q => absurd q (by decide)) (fun q => by omega)) dX6_cls_55 rfl mlX6_45 mw_X6_addType im_X6_addType sl_X6_addType md_X6_addType rfl (by decide) (by decide) (congrArg Prod.fst (show _ = (7, 0) by rw [B.1.1.1])) rfl rfl (by decide) (by decide) (Nat.le_of_ble_eq_true rfl) (Nat.le_of_ble_eq_true rfl) (Nat.le_of_ble_eq_true rfl) (fun z55_7 rz55_7 A55_7 M55_7 xM55_7 hM55_7 => ?_)
            obtain ⟨ez55_7, mfM55_7, DM55_7⟩ := hM55_7
            have hca := cls_ad (M := M) (op := op) (up := up) (by omega) (fun q => by omega)
            exact V_iret dX6_cls_58 (Nat.le_of_ble_eq_true rfl) (Nat.le_of_ble_eq_true rfl) ⟨_, rfl, by rw [ez55_7, hca.1], mfM55_7, by { rw [hca.2]; exact DM55_7 }⟩
          · refine V_bipush (q := 51) dX6_cls_49 rfl (by decide) ?_
            refine V_goto (tgt := 55) dX6_cls_51 (by decide) ?_
            refine V_chVi (q := 58) (As := [(0, 0), (0, op), (0, (-6))]) (tX6_addType (up := up) w D B ⟨by decide, by decide⟩ ho (by omega) (by rw [if_pos (by omega)]) (fun q => absurd q (by decide)) (fun q => by omega)) dX6_cls_55 rfl mlX6_45 mw_X6_addType im_X6_addType sl_X6_addType md_X6_addType rfl (by decide) (by decide) (congrArg Prod.fst (show _ = (7, 0) by rw [B.1.1.1])) rfl rfl (by decide) (by decide) (Nat.le_of_ble_eq_true rfl) (Nat.le_of_ble_eq_true rfl) (Nat.le_of_ble_eq_true rfl) (fun z55_8 rz55_8 A55_8 M55_8 xM55_8 hM55_8 => ?_)
            obtain ⟨ez55_8, mfM55_8, DM55_8⟩ := hM55_8
            have hca := cls_ad (M := M) (op := op) (up := up) (by omega) (fun q => by omega)
            exact V_iret dX6_cls_58 (Nat.le_of_ble_eq_true rfl) (Nat.le_of_ble_eq_true rfl) ⟨_, rfl, by rw [ez55_8, hca.1], mfM55_8, by { rw [hca.2]; exact DM55_8 }⟩
        · refine V_bipush (q := 40) dX6_cls_38 rfl (by decide) ?_
          first | (exfalso; omega) | (have hr : clsR M up = (-2) := by { unfold clsR; (repeat' (first | rw [if_pos (by omega)] | rw [if_neg (by omega)])) }; exact V_iret dX6_cls_40 (Nat.le_of_ble_eq_true rfl) (Nat.le_of_ble_eq_true rfl) ⟨_, rfl, hr.symm, MF.rf, by { rw [cls_no (by rw [hr]; decide)]; exact D }⟩)
    · refine V_iconst (q := 17) dX6_cls_16 rfl (by decide) ?_
      first | (exfalso; omega) | (have hr : clsR M up = (-1) := by { unfold clsR; (repeat' (first | rw [if_pos (by omega)] | rw [if_neg (by omega)])) }; exact V_iret dX6_cls_17 (Nat.le_of_ble_eq_true rfl) (Nat.le_of_ble_eq_true rfl) ⟨_, rfl, hr.symm, MF.rf, by { rw [cls_no (by rw [hr]; decide)]; exact D }⟩)
theorem tX6_face {Γ : GC} {α : Sh} {μ : Mem} {d : Int} {M : Mem} (w : WFD M) (D : DesR M α μ) (B : BenR M α μ) (ho : 0 ≤ d ∧ d ≤ 1) : MT Γ yX6_face cX6_face 2 (some .int) 4 8 102 [(3, 100), (0, d)] α μ (QI fun r α1 μ1 => r = faceR M ∧ MF α μ α1 μ1 ∧ DesR (faceM M d) α1 μ1) := by
  have hn := w.n
  refine MT_of (k := 0) [(3, 100), (0, d)] pn_X6_face rfl rfl (fun ad0 => ?_)
  refine V_aload_n (q := 1) dX6_face_0 rfl rfl rfl ?_
  refine V_iconst (q := 2) dX6_face_1 rfl (by decide) ?_
  refine V_iload_n (q := 3) dX6_face_2 rfl rfl rfl ?_
  refine V_bipush (q := 5) dX6_face_3 rfl (by decide) ?_
  refine V_chVi (q := 8) (As := [(0, 1), (0, d), (0, (-6))]) (tX6_addType (up := (-1)) w D B ⟨by decide, by decide⟩ ho (by omega) (by rw [if_pos (by decide)]) (fun _ => rfl) (fun q => absurd q (by decide))) dX6_face_5 rfl mlX6_45 mw_X6_addType im_X6_addType sl_X6_addType md_X6_addType rfl (by decide) (by decide) (congrArg Prod.fst (show _ = (7, 0) by rw [B.1.1.1])) rfl rfl (by decide) (by decide) (Nat.le_of_ble_eq_true rfl) (Nat.le_of_ble_eq_true rfl) (Nat.le_of_ble_eq_true rfl) (fun z5 rz5 A5 M5 xM5 hM5 => ?_)
  obtain ⟨ez5, mfM5, DM5⟩ := hM5
  exact V_iret dX6_face_8 (Nat.le_of_ble_eq_true rfl) (Nat.le_of_ble_eq_true rfl) ⟨_, rfl, ez5, mfM5, DM5⟩
theorem tX6_under {Γ : GC} {α : Sh} {μ : Mem} {t f : Int} {M : Mem} (w : WFD M) (D : DesR M α μ) (B : BenR M α μ)  : MT Γ yX6_under cX6_under 4 (some .int) 3 0 0 [(3, 100), (0, t), (0, f)] α μ (QI fun r α1 μ1 => r = undR M t f ∧ MF α μ α1 μ1 ∧ DesR (undM M t f) α1 μ1) := by
  have hn := w.n
  have hw := w.w
  refine MT_of (k := 1) [(3, 100), (0, t), (0, f), (9, 0)] pn_X6_under rfl rfl (fun ad0 => ?_)
  refine V_aload_n (q := 1) dX6_under_0 rfl rfl rfl ?_
  refine V_getA (q := 4) 0 dX6_under_1 rfl flX6_10 (by decide) (congrArg Prod.fst (show _ = (7, 0) by rw [B.1.1.1])) rfl rfl (fun z1 ez1 rz1 => ?_)
  rw [B.1.2.1] at ez1
  obtain rfl : z1 = 110 := ez1
  refine V_iload_n (q := 5) dX6_under_4 rfl rfl rfl ?_
  refine V_rdV (q := 8) (As := [(0, t)]) (tX2_knows D.1.1.1) dX6_under_5 rfl mlX6_31 mw_X2_knows im_X2_knows sl_X2_knows md_X2_knows rfl (by decide) (by decide) (congrArg Prod.fst (show _ = (3, 0) by rw [D.1.1.1])) rfl rfl (by decide) (by decide) (Nat.le_of_ble_eq_true rfl) (Nat.le_of_ble_eq_true rfl) (Nat.le_of_ble_eq_true rfl) (fun z5 rz5 hz5 => ?_)
  obtain ⟨bz5, hz5⟩ := hz5
  rw [D.2.1] at hz5
  refine V_if_eq (q := 11) (tgt := 22) dX6_under_8 (by decide) rfl (fun c8 => ?_) (fun c8 => ?_)
  · refine V_iconst (q := 23) dX6_under_22 rfl (by decide) ?_
    first | (exfalso; omega) | (have hr : undR M t f = (-1) := by { unfold undR; (repeat' (first | rw [if_pos (by omega)] | rw [if_neg (by omega)])) }; exact V_iret dX6_under_23 (Nat.le_of_ble_eq_true rfl) (Nat.le_of_ble_eq_true rfl) ⟨_, rfl, hr.symm, MF.rf, by { unfold undM; rw [hr, if_neg (by decide)]; exact D }⟩)
  · refine V_aload_n (q := 12) dX6_under_11 rfl rfl rfl ?_
    refine V_getA (q := 15) 0 dX6_under_12 rfl flX6_10 (by decide) (congrArg Prod.fst (show _ = (7, 0) by rw [B.1.1.1])) rfl rfl (fun z12 ez12 rz12 => ?_)
    rw [B.1.2.1] at ez12
    obtain rfl : z12 = 110 := ez12
    refine V_iload_n (q := 16) dX6_under_15 rfl rfl rfl ?_
    refine V_rdV (q := 19) (As := [(0, f)]) (tX2_knows D.1.1.1) dX6_under_16 rfl mlX6_31 mw_X2_knows im_X2_knows sl_X2_knows md_X2_knows rfl (by decide) (by decide) (congrArg Prod.fst (show _ = (3, 0) by rw [D.1.1.1])) rfl rfl (by decide) (by decide) (Nat.le_of_ble_eq_true rfl) (Nat.le_of_ble_eq_true rfl) (Nat.le_of_ble_eq_true rfl) (fun z16 rz16 hz16 => ?_)
    obtain ⟨bz16, hz16⟩ := hz16
    rw [D.2.1] at hz16
    refine V_if_ne (q := 22) (tgt := 24) dX6_under_19 (by decide) rfl (fun c19 => ?_) (fun c19 => ?_)
    · have hf : 0 ≤ f ∧ f < M 0 0 := by omega
      have ht : 0 ≤ t ∧ t < M 0 0 := by omega
      obtain ⟨F, hF⟩ : ∃ T : Int, T = tk f := ⟨_, rfl⟩
      obtain ⟨kF, yF⟩ := D.2.2.1 f hf.1 hf.2
      rw [← hF] at kF
      unfold TypR at yF
      rw [← hF] at yF
      replace hF : F = 1000 * (f + 1) := hF
      refine V_aload_n (q := 25) dX6_under_24 rfl rfl rfl ?_
      refine V_getA (q := 28) 0 dX6_under_25 rfl flX6_10 (by decide) (congrArg Prod.fst (show _ = (7, 0) by rw [B.1.1.1])) rfl rfl (fun z25 ez25 rz25 => ?_)
      rw [B.1.2.1] at ez25
      obtain rfl : z25 = 110 := ez25
      refine V_getA (q := 31) 0 dX6_under_28 rfl flX6_35 (by decide) (congrArg Prod.fst (show _ = (3, 0) by rw [D.1.1.1])) rfl rfl (fun z28 ez28 rz28 => ?_)
      rw [D.1.2.1] at ez28
      obtain rfl : z28 = 111 := ez28
      refine V_iload_n (q := 32) dX6_under_31 rfl rfl rfl ?_
      refine V_aald (q := 33) (n := 40) (ta := 23) (ci := 4) dX6_under_32 rfl (by decide) (by rw [D.1.1.2.1]) rfl (by decide) (by omega) (fun z32 ez32 rz32 => ?_)
      rw [kF] at ez32
      obtain rfl : F = z32 := ez32.symm
      refine V_getZ (q := 36) 0 dX6_under_33 rfl flX6_39 (by omega) (congrArg Prod.fst (show _ = (5, 0) by rw [yF.1.1.1])) rfl rfl (fun z33 ez33 rz33 => ?_)
      rw [yF.2.1.1] at ez33
      refine V_if_ne (q := 39) (tgt := 42) dX6_under_36 (by decide) rfl (fun c36 => ?_) (fun c36 => ?_)
      · refine V_aload_n (q := 43) dX6_under_42 rfl rfl rfl ?_
        refine V_getI (q := 46) 2 dX6_under_43 rfl flX6_22 (by decide) (congrArg Prod.fst (show _ = (7, 0) by rw [B.1.1.1])) rfl rfl (fun z43 ez43 rz43 => ?_)
        rw [B.2] at ez43
        refine V_if_le (q := 49) (tgt := 52) dX6_under_46 (by decide) rfl (fun c46 => ?_) (fun c46 => ?_)
        · obtain ⟨T, hT⟩ : ∃ T : Int, T = tk t := ⟨_, rfl⟩
          have eT := hT
          obtain ⟨kT, yT⟩ := D.2.2.1 t ht.1 ht.2
          rw [← hT] at kT
          unfold TypR at yT
          rw [← hT] at yT
          replace hT : T = 1000 * (t + 1) := hT
          have hct := (w.cnt t ht.1 (by omega)).1
          refine V_aload_n (q := 53) dX6_under_52 rfl rfl rfl ?_
          refine V_getA (q := 56) 0 dX6_under_53 rfl flX6_10 (by decide) (congrArg Prod.fst (show _ = (7, 0) by rw [B.1.1.1])) rfl rfl (fun z53 ez53 rz53 => ?_)
          rw [B.1.2.1] at ez53
          obtain rfl : z53 = 110 := ez53
          refine V_getA (q := 59) 0 dX6_under_56 rfl flX6_35 (by decide) (congrArg Prod.fst (show _ = (3, 0) by rw [D.1.1.1])) rfl rfl (fun z56 ez56 rz56 => ?_)
          rw [D.1.2.1] at ez56
          obtain rfl : z56 = 111 := ez56
          refine V_iload_n (q := 60) dX6_under_59 rfl rfl rfl ?_
          refine V_aald (q := 61) (n := 40) (ta := 23) (ci := 4) dX6_under_60 rfl (by decide) (by rw [D.1.1.2.1]) rfl (by decide) (by omega) (fun z60 ez60 rz60 => ?_)
          rw [kT] at ez60
          obtain rfl : T = z60 := ez60.symm
          refine V_astore_n (q := 62) (lv1 := [(3, 100), (0, t), (0, f), (3, T)]) dX6_under_61 rfl rfl (by decide) rfl rfl ?_
          refine V_aload_n (q := 63) dX6_under_62 rfl rfl rfl ?_
          refine V_getI (q := 66) 4 dX6_under_63 rfl flX6_59 (by omega) (congrArg Prod.fst (show _ = (5, 0) by rw [yT.1.1.1])) rfl rfl (fun z63 ez63 rz63 => ?_)
          rw [yT.2.1.2.2.2.1] at ez63
          refine V_iconst (q := 67) dX6_under_66 rfl (by decide) ?_
          refine V_icmp_lt (q := 70) (tgt := 73) dX6_under_67 (by decide) rfl (fun c67 => ?_) (fun c67 => ?_)
          · refine V_aload_n (q := 74) dX6_under_73 rfl rfl rfl ?_
            refine V_iload_n (q := 75) dX6_under_74 rfl rfl rfl ?_
            refine V_rdV (q := 78) (As := [(0, f)]) (tX4_isUnder w D ht eT) dX6_under_75 rfl mlX6_62 mw_X4_isUnder im_X4_isUnder sl_X4_isUnder md_X4_isUnder rfl (by decide) (by omega) (congrArg Prod.fst (show _ = (5, 0) by rw [yT.1.1.1])) rfl rfl (by decide) (by decide) (Nat.le_of_ble_eq_true rfl) (Nat.le_of_ble_eq_true rfl) (Nat.le_of_ble_eq_true rfl) (fun z75 rz75 hz75 => ?_)
            obtain ⟨bz75, hz75⟩ := hz75
            refine V_if_ne (q := 81) (tgt := 98) dX6_under_78 (by decide) rfl (fun c78 => ?_) (fun c78 => ?_)
            · refine V_bipush (q := 100) dX6_under_98 rfl (by decide) ?_
              have hno9 : undNo M t f := by { first | exact Or.inr (hz75.mp (by omega)) | exact Or.inl (Or.inl (by omega)) | exact Or.inl (Or.inr (hz75.mp (by omega))) }
              have hr : undR M t f = -5 := by { unfold undR; rw [if_neg (by omega), if_neg (by omega), if_neg (by omega), if_neg (by omega), if_pos hno9] }
              exact V_iret dX6_under_100 (Nat.le_of_ble_eq_true rfl) (Nat.le_of_ble_eq_true rfl) ⟨_, rfl, hr.symm, MF.rf, by { unfold undM; rw [hr, if_neg (by decide)]; exact D }⟩
            · refine V_iload_n (q := 82) dX6_under_81 rfl rfl rfl ?_
              refine V_iload_n (q := 83) dX6_under_82 rfl rfl rfl ?_
              refine V_icmp_eq (q := 86) (tgt := 98) dX6_under_83 (by decide) rfl (fun c83 => ?_) (fun c83 => ?_)
              · refine V_bipush (q := 100) dX6_under_98 rfl (by decide) ?_
                have hno9 : undNo M t f := by { first | exact Or.inr (hz75.mp (by omega)) | exact Or.inl (Or.inl (by omega)) | exact Or.inl (Or.inr (hz75.mp (by omega))) }
                have hr : undR M t f = -5 := by { unfold undR; rw [if_neg (by omega), if_neg (by omega), if_neg (by omega), if_neg (by omega), if_pos hno9] }
                exact V_iret dX6_under_100 (Nat.le_of_ble_eq_true rfl) (Nat.le_of_ble_eq_true rfl) ⟨_, rfl, hr.symm, MF.rf, by { unfold undM; rw [hr, if_neg (by decide)]; exact D }⟩
              · refine V_aload_n (q := 87) dX6_under_86 rfl rfl rfl ?_
                refine V_getA (q := 90) 0 dX6_under_87 rfl flX6_10 (by decide) (congrArg Prod.fst (show _ = (7, 0) by rw [B.1.1.1])) rfl rfl (fun z87 ez87 rz87 => ?_)
                rw [B.1.2.1] at ez87
                obtain rfl : z87 = 110 := ez87
                refine V_iload_n (q := 91) dX6_under_90 rfl rfl rfl ?_
                refine V_iload_n (q := 92) dX6_under_91 rfl rfl rfl ?_
                refine V_rdV (q := 95) (As := [(0, f), (0, t)]) (tX2_leadsTo w D hf ⟨ht.1, by omega⟩) dX6_under_92 rfl mlX6_65 mw_X2_leadsTo im_X2_leadsTo sl_X2_leadsTo md_X2_leadsTo rfl (by decide) (by decide) (congrArg Prod.fst (show _ = (3, 0) by rw [D.1.1.1])) rfl rfl (by decide) (by decide) (Nat.le_of_ble_eq_true rfl) (Nat.le_of_ble_eq_true rfl) (Nat.le_of_ble_eq_true rfl) (fun z92 rz92 hz92 => ?_)
                obtain ⟨bz92, hz92⟩ := hz92
                refine V_if_eq (q := 98) (tgt := 101) dX6_under_95 (by decide) rfl (fun c95 => ?_) (fun c95 => ?_)
                · refine V_aload_n (q := 102) dX6_under_101 rfl rfl rfl ?_
                  refine V_getA (q := 105) 0 dX6_under_102 rfl flX6_10 (by decide) (congrArg Prod.fst (show _ = (7, 0) by rw [B.1.1.1])) rfl rfl (fun z102 ez102 rz102 => ?_)
                  rw [B.1.2.1] at ez102
                  obtain rfl : z102 = 110 := ez102
                  refine V_iload_n (q := 106) dX6_under_105 rfl rfl rfl ?_
                  refine V_iload_n (q := 107) dX6_under_106 rfl rfl rfl ?_
                  have hno : ¬ undNo M t f := by { rintro ((h | h) | h); · { omega }; · { exact absurd (hz92.mpr h) (by omega) }; · { exact absurd (hz75.mpr h) (by omega) } }
                  refine V_chV (q := 110) (As := [(0, t), (0, f)]) (tX2_putUnder (c := M 4 t) (n := M 0 0) eT D.1 D.2.1 hn.2 (fun i i0 i1 => ⟨(D.2.2.1 i i0 i1).1, (D.2.2.1 i i0 i1).2.1.1.1⟩) yT.1 ht hf yT.2.1.2.2.2.1 (by omega)) dX6_under_107 rfl mlX6_69 mw_X2_putUnder im_X2_putUnder sl_X2_putUnder md_X2_putUnder rfl (by decide) (by decide) (congrArg Prod.fst (show _ = (3, 0) by rw [D.1.1.1])) rfl rfl (by decide) (by decide) (Nat.le_of_ble_eq_true rfl) (Nat.le_of_ble_eq_true rfl) (Nat.le_of_ble_eq_true rfl) (fun A9 M9 x9 h9 => ?_)
                  obtain ⟨hAA, g1, g2, gl, gm, fr⟩ := h9
                  replace hAA := hAA.symm
                  subst hAA
                  refine V_aload_n (q := 111) dX6_under_110 rfl rfl rfl ?_
                  refine V_getI (q := 114) 4 dX6_under_111 rfl flX6_59 (by omega) (congrArg Prod.fst (show _ = (5, 0) by rw [yT.1.1.1])) rfl rfl (fun z111 ez111 rz111 => ?_)
                  rw [g2] at ez111
                  have hr : undR M t f = M 4 t + 1 := by { unfold undR; rw [if_neg (by omega), if_neg (by omega), if_neg (by omega), if_neg (by omega), if_neg hno] }
                  have hmf : MF α μ α M9 := ⟨fun _ _ => rfl, fun u hu h1 h2 h3 => funext fun k => fr u k (by omega)⟩
                  exact V_iret dX6_under_114 (Nat.le_of_ble_eq_true rfl) (Nat.le_of_ble_eq_true rfl) ⟨_, rfl, by rw [hr]; exact ez111, hmf, by { unfold undM; rw [hr, if_pos (by omega)]; exact DesR_un w D ht.1 ht.2 (by omega) hf.1 hf.2 eT g1 g2 gl gm fr }⟩
                · refine V_bipush (q := 100) dX6_under_98 rfl (by decide) ?_
                  have hno9 : undNo M t f := by { first | exact Or.inr (hz75.mp (by omega)) | exact Or.inl (Or.inl (by omega)) | exact Or.inl (Or.inr (hz92.mp (by omega))) }
                  have hr : undR M t f = -5 := by { unfold undR; rw [if_neg (by omega), if_neg (by omega), if_neg (by omega), if_neg (by omega), if_pos hno9] }
                  exact V_iret dX6_under_100 (Nat.le_of_ble_eq_true rfl) (Nat.le_of_ble_eq_true rfl) ⟨_, rfl, hr.symm, MF.rf, by { unfold undM; rw [hr, if_neg (by decide)]; exact D }⟩
          · refine V_bipush (q := 72) dX6_under_70 rfl (by decide) ?_
            first | (exfalso; omega) | (have hr : undR M t f = (-4) := by { unfold undR; (repeat' (first | rw [if_pos (by omega)] | rw [if_neg (by omega)])) }; exact V_iret dX6_under_72 (Nat.le_of_ble_eq_true rfl) (Nat.le_of_ble_eq_true rfl) ⟨_, rfl, hr.symm, MF.rf, by { unfold undM; rw [hr, if_neg (by decide)]; exact D }⟩)
        · refine V_bipush (q := 51) dX6_under_49 rfl (by decide) ?_
          first | (exfalso; omega) | (have hr : undR M t f = (-3) := by { unfold undR; (repeat' (first | rw [if_pos (by omega)] | rw [if_neg (by omega)])) }; exact V_iret dX6_under_51 (Nat.le_of_ble_eq_true rfl) (Nat.le_of_ble_eq_true rfl) ⟨_, rfl, hr.symm, MF.rf, by { unfold undM; rw [hr, if_neg (by decide)]; exact D }⟩)
      · refine V_bipush (q := 41) dX6_under_39 rfl (by decide) ?_
        first | (exfalso; omega) | (have hr : undR M t f = (-2) := by { unfold undR; (repeat' (first | rw [if_pos (by omega)] | rw [if_neg (by omega)])) }; exact V_iret dX6_under_41 (Nat.le_of_ble_eq_true rfl) (Nat.le_of_ble_eq_true rfl) ⟨_, rfl, hr.symm, MF.rf, by { unfold undM; rw [hr, if_neg (by decide)]; exact D }⟩)
    · refine V_iconst (q := 23) dX6_under_22 rfl (by decide) ?_
      first | (exfalso; omega) | (have hr : undR M t f = (-1) := by { unfold undR; (repeat' (first | rw [if_pos (by omega)] | rw [if_neg (by omega)])) }; exact V_iret dX6_under_23 (Nat.le_of_ble_eq_true rfl) (Nat.le_of_ble_eq_true rfl) ⟨_, rfl, hr.symm, MF.rf, by { unfold undM; rw [hr, if_neg (by decide)]; exact D }⟩)
theorem tX6_refusalOfMember {Γ : GC} {α : Sh} {μ : Mem} {t nm : Int} {M : Mem} (w : WFD M) (D : DesR M α μ) (B : BenR M α μ)  : MT Γ yX6_refusalOfMember cX6_refusalOfMember 3 (some .int) 1 0 0 [(3, 100), (0, t), (0, nm)] α μ (QI fun r α1 μ1 => α1 = α ∧ μ1 = μ ∧ r = (if ¬ (0 ≤ t ∧ t < M 0 0) then -1 else if ¬ (0 ≤ nm ∧ nm ≤ 9) then -2 else if 0 < M 17 0 then -3 else 0)) := by
  have hn := w.n
  have hw := w.w
  refine MT_of (k := 0) [(3, 100), (0, t), (0, nm)] pn_X6_refusalOfMember rfl rfl (fun ad0 => ?_)
  refine V_aload_n (q := 1) dX6_refusalOfMember_0 rfl rfl rfl ?_
  refine V_getA (q := 4) 0 dX6_refusalOfMember_1 rfl flX6_10 (by decide) (congrArg Prod.fst (show _ = (7, 0) by rw [B.1.1.1])) rfl rfl (fun z1 ez1 rz1 => ?_)
  rw [B.1.2.1] at ez1
  obtain rfl : z1 = 110 := ez1
  refine V_iload_n (q := 5) dX6_refusalOfMember_4 rfl rfl rfl ?_
  refine V_rdV (q := 8) (As := [(0, t)]) (tX2_knows D.1.1.1) dX6_refusalOfMember_5 rfl mlX6_31 mw_X2_knows im_X2_knows sl_X2_knows md_X2_knows rfl (by decide) (by decide) (congrArg Prod.fst (show _ = (3, 0) by rw [D.1.1.1])) rfl rfl (by decide) (by decide) (Nat.le_of_ble_eq_true rfl) (Nat.le_of_ble_eq_true rfl) (Nat.le_of_ble_eq_true rfl) (fun z5 rz5 hz5 => ?_)
  obtain ⟨bz5, hz5⟩ := hz5
  rw [D.2.1] at hz5
  refine V_if_ne (q := 11) (tgt := 13) dX6_refusalOfMember_8 (by decide) rfl (fun c8 => ?_) (fun c8 => ?_)
  · refine V_iload_n (q := 14) dX6_refusalOfMember_13 rfl rfl rfl ?_
    refine V_rdS (q := 17) (As := [(0, nm)]) (tX6_isName ) dX6_refusalOfMember_14 rfl mlX6_102 mw_X6_isName sm_X6_isName md_X6_isName rfl rfl (by decide) (by decide) (Nat.le_of_ble_eq_true rfl) (Nat.le_of_ble_eq_true rfl) (Nat.le_of_ble_eq_true rfl) (fun z14 rz14 hz14 => ?_)
    obtain ⟨bz14, hz14⟩ := hz14
    refine V_if_ne (q := 20) (tgt := 23) dX6_refusalOfMember_17 (by decide) rfl (fun c17 => ?_) (fun c17 => ?_)
    · refine V_aload_n (q := 24) dX6_refusalOfMember_23 rfl rfl rfl ?_
      refine V_getI (q := 27) 2 dX6_refusalOfMember_24 rfl flX6_22 (by decide) (congrArg Prod.fst (show _ = (7, 0) by rw [B.1.1.1])) rfl rfl (fun z24 ez24 rz24 => ?_)
      rw [B.2] at ez24
      refine V_if_le (q := 30) (tgt := 35) dX6_refusalOfMember_27 (by decide) rfl (fun c27 => ?_) (fun c27 => ?_)
      · refine V_iconst (q := 36) dX6_refusalOfMember_35 rfl (by decide) ?_
        first | (exfalso; omega) | exact V_iret dX6_refusalOfMember_36 (Nat.le_of_ble_eq_true rfl) (Nat.le_of_ble_eq_true rfl) ⟨_, rfl, rfl, rfl, by { (repeat' (first | rw [if_pos (by omega)] | rw [if_neg (by omega)])) }⟩
      · refine V_bipush (q := 32) dX6_refusalOfMember_30 rfl (by decide) ?_
        refine V_goto (tgt := 36) dX6_refusalOfMember_32 (by decide) ?_
        first | (exfalso; omega) | exact V_iret dX6_refusalOfMember_36 (Nat.le_of_ble_eq_true rfl) (Nat.le_of_ble_eq_true rfl) ⟨_, rfl, rfl, rfl, by { (repeat' (first | rw [if_pos (by omega)] | rw [if_neg (by omega)])) }⟩
    · refine V_bipush (q := 22) dX6_refusalOfMember_20 rfl (by decide) ?_
      first | (exfalso; omega) | exact V_iret dX6_refusalOfMember_22 (Nat.le_of_ble_eq_true rfl) (Nat.le_of_ble_eq_true rfl) ⟨_, rfl, rfl, rfl, by { (repeat' (first | rw [if_pos (by omega)] | rw [if_neg (by omega)])) }⟩
  · refine V_iconst (q := 12) dX6_refusalOfMember_11 rfl (by decide) ?_
    first | (exfalso; omega) | exact V_iret dX6_refusalOfMember_12 (Nat.le_of_ble_eq_true rfl) (Nat.le_of_ble_eq_true rfl) ⟨_, rfl, rfl, rfl, by { (repeat' (first | rw [if_pos (by omega)] | rw [if_neg (by omega)])) }⟩
theorem tX6_field {Γ : GC} {α : Sh} {μ : Mem} {t nm c v : Int} {M : Mem} (w : WFD M) (D : DesR M α μ) (B : BenR M α μ) (hc : 0 ≤ c ∧ c ≤ 1) : MT Γ yX6_field cX6_field 7 (some .int) 2 0 0 [(3, 100), (0, t), (0, nm), (0, c), (0, v)] α μ (QI fun r α1 μ1 => r = fldR M t nm ∧ MF α μ α1 μ1 ∧ DesR (fldM M t nm c v) α1 μ1) := by
  have hn := w.n
  have hw := w.w
  refine MT_of (k := 2) [(3, 100), (0, t), (0, nm), (0, c), (0, v), (9, 0), (9, 0)] pn_X6_field rfl rfl (fun ad0 => ?_)
  refine V_aload_n (q := 1) dX6_field_0 rfl rfl rfl ?_
  refine V_iload_n (q := 2) dX6_field_1 rfl rfl rfl ?_
  refine V_iload_n (q := 3) dX6_field_2 rfl rfl rfl ?_
  refine V_rdV (q := 6) (As := [(0, t), (0, nm)]) (tX6_refusalOfMember w D B) dX6_field_3 rfl mlX6_73 mw_X6_refusalOfMember im_X6_refusalOfMember sl_X6_refusalOfMember md_X6_refusalOfMember rfl (by decide) (by decide) (congrArg Prod.fst (show _ = (7, 0) by rw [B.1.1.1])) rfl rfl (by decide) (by decide) (Nat.le_of_ble_eq_true rfl) (Nat.le_of_ble_eq_true rfl) (Nat.le_of_ble_eq_true rfl) (fun z3 rz3 hz3 => ?_)
  refine V_istore (q := 8) (lv1 := [(3, 100), (0, t), (0, nm), (0, c), (0, v), (0, z3), (9, 0)]) dX6_field_6 rfl (by decide) rfl rfl ?_
  refine V_iload (q := 10) dX6_field_8 rfl rfl ?_
  refine V_if_eq (q := 13) (tgt := 16) dX6_field_10 (by decide) rfl (fun c10 => ?_) (fun c10 => ?_)
  · have hz0 : (0 ≤ t ∧ t < M 0 0) ∧ (0 ≤ nm ∧ nm ≤ 9) ∧ ¬ 0 < M 17 0 := by { repeat' split at hz3; all_goals omega }
    have ht := hz0.1
    have hm := hz0.2.1
    obtain ⟨T, hT⟩ : ∃ T : Int, T = tk t := ⟨_, rfl⟩
    have eT := hT
    obtain ⟨kT, yT⟩ := D.2.2.1 t ht.1 ht.2
    rw [← hT] at kT
    unfold TypR at yT
    rw [← hT] at yT
    replace hT : T = 1000 * (t + 1) := hT
    have hcc := w.cnt t ht.1 (by omega)
    have hfk := (yT.2.2.2.1 nm hm.1 hm.2).1
    have hmm := yT.2.2.2.2.1 nm hm.1 hm.2
    have hpo := pF_oF (M := M) (nm := nm) ht.1
    refine V_aload_n (q := 17) dX6_field_16 rfl rfl rfl ?_
    refine V_getA (q := 20) 0 dX6_field_17 rfl flX6_10 (by decide) (congrArg Prod.fst (show _ = (7, 0) by rw [B.1.1.1])) rfl rfl (fun z17 ez17 rz17 => ?_)
    rw [B.1.2.1] at ez17
    obtain rfl : z17 = 110 := ez17
    refine V_getA (q := 23) 0 dX6_field_20 rfl flX6_35 (by decide) (congrArg Prod.fst (show _ = (3, 0) by rw [D.1.1.1])) rfl rfl (fun z20 ez20 rz20 => ?_)
    rw [D.1.2.1] at ez20
    obtain rfl : z20 = 111 := ez20
    refine V_iload_n (q := 24) dX6_field_23 rfl rfl rfl ?_
    refine V_aald (q := 25) (n := 40) (ta := 23) (ci := 4) dX6_field_24 rfl (by decide) (by rw [D.1.1.2.1]) rfl (by decide) (by omega) (fun z24 ez24 rz24 => ?_)
    rw [kT] at ez24
    obtain rfl : T = z24 := ez24.symm
    refine V_astore (q := 27) (lv1 := [(3, 100), (0, t), (0, nm), (0, c), (0, v), (0, z3), (3, T)]) dX6_field_25 rfl (by decide) rfl rfl ?_
    refine V_aload (q := 29) dX6_field_27 rfl rfl ?_
    refine V_getI (q := 32) 8 dX6_field_29 rfl flX6_77 (by omega) (congrArg Prod.fst (show _ = (5, 0) by rw [yT.1.1.1])) rfl rfl (fun z29 ez29 rz29 => ?_)
    rw [yT.2.1.2.2.2.2.1] at ez29
    refine V_bipush (q := 34) dX6_field_32 rfl (by decide) ?_
    refine V_icmp_lt (q := 37) (tgt := 40) dX6_field_34 (by decide) rfl (fun c34 => ?_) (fun c34 => ?_)
    · refine V_aload (q := 42) dX6_field_40 rfl rfl ?_
      refine V_getA (q := 45) 6 dX6_field_42 rfl flX6_80 (by omega) (congrArg Prod.fst (show _ = (5, 0) by rw [yT.1.1.1])) rfl rfl (fun z42 ez42 rz42 => ?_)
      rw [yT.1.2.2.1] at ez42
      obtain rfl : z42 = (T + 2) := ez42
      refine V_iload_n (q := 46) dX6_field_45 rfl rfl rfl ?_
      refine V_iald (q := 47) (n := 10) dX6_field_46 rfl (by omega) (by rw [yT.1.1.2.2.1]) (by omega) (fun z46 ez46 rz46 => ?_)
      refine V_if_eq (q := 50) (tgt := 53) dX6_field_47 (by decide) rfl (fun c47 => ?_) (fun c47 => ?_)
      · refine V_aload (q := 55) dX6_field_53 rfl rfl ?_
        refine V_iload_n (q := 56) dX6_field_55 rfl rfl rfl ?_
        refine V_iload_n (q := 57) dX6_field_56 rfl rfl rfl ?_
        refine V_iload (q := 59) dX6_field_57 rfl rfl ?_
        have hof : oF M t nm < 0 := by { rcases (show oF M t nm < 0 ∨ 0 ≤ oF M t nm by omega) with q | q; · { exact q }; · { unfold fK at hfk; rw [if_neg (by omega)] at hfk; split at hfk <;> omega } }
        refine V_chV (q := 62) (As := [(0, nm), (0, c), (0, v)]) (tX4_addField (fc := M 6 t) (by omega) yT.1 hm yT.2.1.2.2.2.2.1 (by omega)) dX6_field_59 rfl mlX6_84 mw_X4_addField im_X4_addField sl_X4_addField md_X4_addField rfl (by decide) (by omega) (congrArg Prod.fst (show _ = (5, 0) by rw [yT.1.1.1])) rfl rfl (by decide) (by decide) (Nat.le_of_ble_eq_true rfl) (Nat.le_of_ble_eq_true rfl) (Nat.le_of_ble_eq_true rfl) (fun A8 M8 x8 h8 => ?_)
        obtain ⟨hAA, eM8⟩ := h8
        replace hAA := hAA.symm
        subst hAA
        refine V_aload_n (q := 63) dX6_field_62 rfl rfl rfl ?_
        refine V_getA (q := 66) 0 dX6_field_63 rfl flX6_10 (by decide) (congrArg Prod.fst (show _ = (7, 0) by rw [B.1.1.1])) rfl rfl (fun z63 ez63 rz63 => ?_)
        rw [(show M8 100 = μ 100 by rw [eM8, mu_f _ _ _ _ (by omega), mu_f _ _ _ _ (by omega), mu_f _ _ _ _ (by omega)]), B.1.2.1] at ez63
        obtain rfl : z63 = 110 := ez63
        refine V_chV (q := 69) (As := []) (tX2_forgetFields D.1.1.1 D.1.1.2.2.1 (by rw [eM8, mu_f _ _ _ _ (by omega), mu_f _ _ _ _ (by omega), mu_f _ _ _ _ (by omega)]; exact D.1.2.2.1)) dX6_field_66 rfl mlX6_88 mw_X2_forgetFields im_X2_forgetFields sl_X2_forgetFields md_X2_forgetFields rfl (by decide) (by decide) (congrArg Prod.fst (show _ = (3, 0) by rw [D.1.1.1])) rfl rfl (by decide) (by decide) (Nat.le_of_ble_eq_true rfl) (Nat.le_of_ble_eq_true rfl) (Nat.le_of_ble_eq_true rfl) (fun A9 M9 x9 h9 => ?_)
        obtain ⟨hAA, f9, g9⟩ := h9
        replace hAA := hAA.symm
        subst hAA
        refine V_aload (q := 71) dX6_field_69 rfl rfl ?_
        refine V_getI (q := 74) 8 dX6_field_71 rfl flX6_77 (by omega) (congrArg Prod.fst (show _ = (5, 0) by rw [yT.1.1.1])) rfl rfl (fun z71 ez71 rz71 => ?_)
        rw [f9 T (by omega), (show M8 T 8 = M 6 t + 1 by rw [eM8, mu_s])] at ez71
        have hpf : ¬ 0 ≤ pF M t nm := fun q => by { have := hpo.1.mp q; omega }
        have hr : fldR M t nm = M 6 t + 1 := by { unfold fldR; rw [if_neg (by omega), if_neg (by omega), if_neg (by omega), if_neg (by omega), if_neg hpf] }
        have hmf : MF α μ α M9 := ⟨fun _ _ => rfl, fun u hu h1 h2 h3 => by rw [f9 u h3, eM8, mu_f _ _ _ _ (by omega), mu_f _ _ _ _ (by omega), mu_f _ _ _ _ (by omega)]⟩
        exact V_iret dX6_field_74 (Nat.le_of_ble_eq_true rfl) (Nat.le_of_ble_eq_true rfl) ⟨_, rfl, by rw [hr]; exact ez71, hmf, by { unfold fldM; rw [hr, if_pos (by omega)]; exact DesR_fl w D ht.1 ht.2 hm.1 hm.2 (by omega) hof hc eT (fun u hu => by rw [f9 u hu, eM8]) g9 }⟩
      · refine V_bipush (q := 52) dX6_field_50 rfl (by decide) ?_
        have hof : 0 ≤ oF M t nm := by { rcases (show oF M t nm < 0 ∨ 0 ≤ oF M t nm by omega) with q | q; · { unfold fK at hfk; rw [if_pos q] at hfk; omega }; · { exact q } }
        have hpf := hpo.1.mpr hof
        have hr : fldR M t nm = (-5) := by { unfold fldR; rw [if_neg (by omega), if_neg (by omega), if_neg (by omega), if_neg (by omega), if_pos hpf] }
        exact V_iret dX6_field_52 (Nat.le_of_ble_eq_true rfl) (Nat.le_of_ble_eq_true rfl) ⟨_, rfl, hr.symm, MF.rf, by { unfold fldM; rw [hr, if_neg (by decide)]; exact D }⟩
    · refine V_bipush (q := 39) dX6_field_37 rfl (by decide) ?_
      have hr : fldR M t nm = (-4) := by { unfold fldR; rw [if_neg (by omega), if_neg (by omega), if_neg (by omega), if_pos (by omega)] }
      exact V_iret dX6_field_39 (Nat.le_of_ble_eq_true rfl) (Nat.le_of_ble_eq_true rfl) ⟨_, rfl, hr.symm, MF.rf, by { unfold fldM; rw [hr, if_neg (by decide)]; exact D }⟩
  · refine V_iload (q := 15) dX6_field_13 rfl rfl ?_
    have hr : fldR M t nm = z3 ∧ z3 < 0 := by { unfold fldR; repeat' split at hz3; all_goals (first | omega | (rw [if_pos (by assumption)]; omega) | (rw [if_neg (by assumption), if_pos (by assumption)]; omega) | (rw [if_neg (by assumption), if_neg (by assumption), if_pos (by assumption)]; omega)) }
    exact V_iret dX6_field_15 (Nat.le_of_ble_eq_true rfl) (Nat.le_of_ble_eq_true rfl) ⟨_, rfl, hr.1.symm, MF.rf, by { unfold fldM; rw [if_neg (by omega)]; exact D }⟩
theorem tX6_method {Γ : GC} {α : Sh} {μ : Mem} {t nm : Int} {M : Mem} (w : WFD M) (D : DesR M α μ) (B : BenR M α μ)  : MT Γ yX6_method cX6_method 5 (some .int) 3 2 14 [(3, 100), (0, t), (0, nm)] α μ (QI fun r α1 μ1 => r = mthR M t nm ∧ MF α μ α1 μ1 ∧ DesR (mthM M t nm) α1 μ1) := by
  have hn := w.n
  have hw := w.w
  refine MT_of (k := 2) [(3, 100), (0, t), (0, nm), (9, 0), (9, 0)] pn_X6_method rfl rfl (fun ad0 => ?_)
  refine V_aload_n (q := 1) dX6_method_0 rfl rfl rfl ?_
  refine V_iload_n (q := 2) dX6_method_1 rfl rfl rfl ?_
  refine V_iload_n (q := 3) dX6_method_2 rfl rfl rfl ?_
  refine V_rdV (q := 6) (As := [(0, t), (0, nm)]) (tX6_refusalOfMember w D B) dX6_method_3 rfl mlX6_73 mw_X6_refusalOfMember im_X6_refusalOfMember sl_X6_refusalOfMember md_X6_refusalOfMember rfl (by decide) (by decide) (congrArg Prod.fst (show _ = (7, 0) by rw [B.1.1.1])) rfl rfl (by decide) (by decide) (Nat.le_of_ble_eq_true rfl) (Nat.le_of_ble_eq_true rfl) (Nat.le_of_ble_eq_true rfl) (fun z3 rz3 hz3 => ?_)
  refine V_istore_n (q := 7) (lv1 := [(3, 100), (0, t), (0, nm), (0, z3), (9, 0)]) dX6_method_6 rfl rfl (by decide) rfl rfl ?_
  refine V_iload_n (q := 8) dX6_method_7 rfl rfl rfl ?_
  refine V_if_eq (q := 11) (tgt := 13) dX6_method_8 (by decide) rfl (fun c8 => ?_) (fun c8 => ?_)
  · have hz0 : (0 ≤ t ∧ t < M 0 0) ∧ (0 ≤ nm ∧ nm ≤ 9) ∧ ¬ 0 < M 17 0 := by { repeat' split at hz3; all_goals omega }
    have ht := hz0.1
    have hm := hz0.2.1
    obtain ⟨T, hT⟩ : ∃ T : Int, T = tk t := ⟨_, rfl⟩
    have eT := hT
    obtain ⟨kT, yT⟩ := D.2.2.1 t ht.1 ht.2
    rw [← hT] at kT
    unfold TypR at yT
    rw [← hT] at yT
    replace hT : T = 1000 * (t + 1) := hT
    have hcc := w.cnt t ht.1 (by omega)
    have hfk := (yT.2.2.2.1 nm hm.1 hm.2).1
    have hmm := yT.2.2.2.2.1 nm hm.1 hm.2
    have hpo := pF_oF (M := M) (nm := nm) ht.1
    refine V_aload_n (q := 14) dX6_method_13 rfl rfl rfl ?_
    refine V_getA (q := 17) 0 dX6_method_14 rfl flX6_10 (by decide) (congrArg Prod.fst (show _ = (7, 0) by rw [B.1.1.1])) rfl rfl (fun z14 ez14 rz14 => ?_)
    rw [B.1.2.1] at ez14
    obtain rfl : z14 = 110 := ez14
    refine V_getA (q := 20) 0 dX6_method_17 rfl flX6_35 (by decide) (congrArg Prod.fst (show _ = (3, 0) by rw [D.1.1.1])) rfl rfl (fun z17 ez17 rz17 => ?_)
    rw [D.1.2.1] at ez17
    obtain rfl : z17 = 111 := ez17
    refine V_iload_n (q := 21) dX6_method_20 rfl rfl rfl ?_
    refine V_aald (q := 22) (n := 40) (ta := 23) (ci := 4) dX6_method_21 rfl (by decide) (by rw [D.1.1.2.1]) rfl (by decide) (by omega) (fun z21 ez21 rz21 => ?_)
    rw [kT] at ez21
    obtain rfl : T = z21 := ez21.symm
    refine V_astore (q := 24) (lv1 := [(3, 100), (0, t), (0, nm), (0, z3), (3, T)]) dX6_method_22 rfl (by decide) rfl rfl ?_
    refine V_aload (q := 26) dX6_method_24 rfl rfl ?_
    refine V_getI (q := 29) 10 dX6_method_26 rfl flX6_91 (by omega) (congrArg Prod.fst (show _ = (5, 0) by rw [yT.1.1.1])) rfl rfl (fun z26 ez26 rz26 => ?_)
    rw [yT.2.1.2.2.2.2.2] at ez26
    refine V_iconst (q := 30) dX6_method_29 rfl (by decide) ?_
    refine V_icmp_lt (q := 33) (tgt := 36) dX6_method_30 (by decide) rfl (fun c30 => ?_) (fun c30 => ?_)
    · refine V_aload (q := 38) dX6_method_36 rfl rfl ?_
      refine V_getA (q := 41) 9 dX6_method_38 rfl flX6_94 (by omega) (congrArg Prod.fst (show _ = (5, 0) by rw [yT.1.1.1])) rfl rfl (fun z38 ez38 rz38 => ?_)
      rw [yT.1.2.2.2.2.1] at ez38
      obtain rfl : z38 = (T + 4) := ez38
      refine V_iload_n (q := 42) dX6_method_41 rfl rfl rfl ?_
      refine V_aald (q := 43) (n := 10) (ta := 24) (ci := 1) dX6_method_42 rfl (by omega) (by rw [yT.1.1.2.2.2.2.1]) rfl (by decide) (by omega) (fun z42 ez42 rz42 => ?_)
      refine V_ifnull (q := 46) (tgt := 49) dX6_method_43 (by decide) rfl (fun c43 => ?_) (fun c43 => ?_)
      · refine V_aload (q := 51) dX6_method_49 rfl rfl ?_
        refine V_iload_n (q := 52) dX6_method_51 rfl rfl rfl ?_
        have hom : oM M t nm < 0 := by { rcases (show oM M t nm < 0 ∨ 0 ≤ oM M t nm by omega) with q | q; · { exact q }; · { have := (hmm.2 q).1; omega } }
        have hfr := hmm.1 hom
        refine V_chV (q := 55) (As := [(0, nm)]) (tX4_addMethod (B := T + 20 + 2 * nm) (mc := M 10 t) (by omega) yT.1 hm yT.2.1.2.2.2.2.2 (by omega) rfl (by rw [show T + 20 + 2 * nm = T + (20 + 2 * nm) by omega]; exact hfr.2.1) (by rw [show T + 20 + 2 * nm + 1 = T + (21 + 2 * nm) by omega]; exact hfr.2.2.1)) dX6_method_52 rfl mlX6_98 mw_X4_addMethod im_X4_addMethod sl_X4_addMethod md_X4_addMethod rfl (by decide) (by omega) (congrArg Prod.fst (show _ = (5, 0) by rw [yT.1.1.1])) rfl rfl (by decide) (by decide) (Nat.le_of_ble_eq_true rfl) (Nat.le_of_ble_eq_true rfl) (Nat.le_of_ble_eq_true rfl) (fun A9 M9 x9 h9 => ?_)
        obtain ⟨gb, g4, g10, fr, fα⟩ := h9
        refine V_aload (q := 57) dX6_method_55 rfl rfl ?_
        refine V_getI (q := 60) 10 dX6_method_57 rfl flX6_91 (by omega) (congrArg Prod.fst (show _ = (5, 0) by rw [(show A9 T = (5, 0) by rw [fα T (by omega) (by omega)]; exact yT.1.1.1)])) rfl rfl (fun z57 ez57 rz57 => ?_)
        rw [g10] at ez57
        have hr : mthR M t nm = M 10 t + 1 := by { unfold mthR; rw [if_neg (by omega), if_neg (by omega), if_neg (by omega), if_neg (by omega), if_neg (by omega)] }
        have hmf : MF α μ A9 M9 := ⟨fun u hu => fα u (by omega) (by omega), fun u hu h1 h2 h3 => funext fun k => fr u k (by omega)⟩
        have hw1 := WFD_mt w ht.1 ht.2 hm.1 hm.2 (by omega) hom
        exact V_iret dX6_method_60 (Nat.le_of_ble_eq_true rfl) (Nat.le_of_ble_eq_true rfl) ⟨_, rfl, by rw [hr]; exact ez57, hmf, by { unfold mthM; rw [hr, if_pos (by omega)]; exact DesR_mt w hw1 D ht.1 ht.2 hm.1 hm.2 (by omega) hom eT rfl gb g4 g10 fr fα }⟩
      · refine V_bipush (q := 48) dX6_method_46 rfl (by decide) ?_
        have hom : 0 ≤ oM M t nm := by { rcases (show oM M t nm < 0 ∨ 0 ≤ oM M t nm by omega) with q | q; · { have := (hmm.1 q).1; omega }; · { exact q } }
        have hr : mthR M t nm = (-5) := by { unfold mthR; rw [if_neg (by omega), if_neg (by omega), if_neg (by omega), if_neg (by omega), if_pos hom] }
        exact V_iret dX6_method_48 (Nat.le_of_ble_eq_true rfl) (Nat.le_of_ble_eq_true rfl) ⟨_, rfl, hr.symm, MF.rf, by { unfold mthM; rw [hr, if_neg (by decide)]; exact D }⟩
    · refine V_bipush (q := 35) dX6_method_33 rfl (by decide) ?_
      have hr : mthR M t nm = (-4) := by { unfold mthR; rw [if_neg (by omega), if_neg (by omega), if_neg (by omega), if_pos (by omega)] }
      exact V_iret dX6_method_35 (Nat.le_of_ble_eq_true rfl) (Nat.le_of_ble_eq_true rfl) ⟨_, rfl, hr.symm, MF.rf, by { unfold mthM; rw [hr, if_neg (by decide)]; exact D }⟩
  · refine V_iload_n (q := 12) dX6_method_11 rfl rfl rfl ?_
    have hr : mthR M t nm = z3 ∧ z3 < 0 := by { unfold mthR; repeat' split at hz3; all_goals (first | omega | (rw [if_pos (by assumption)]; omega) | (rw [if_neg (by assumption), if_pos (by assumption)]; omega) | (rw [if_neg (by assumption), if_neg (by assumption), if_pos (by assumption)]; omega)) }
    exact V_iret dX6_method_12 (Nat.le_of_ble_eq_true rfl) (Nat.le_of_ble_eq_true rfl) ⟨_, rfl, hr.1.symm, MF.rf, by { unfold mthM; rw [if_neg (by omega)]; exact D }⟩
