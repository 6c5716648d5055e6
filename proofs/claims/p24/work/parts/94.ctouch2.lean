/-! THE CLASS'S TOUCH: what an action puts through; what catches take -/
theorem tX3_putThrough {Γ : GC} {α : Sh} {μ : Mem} {W a k t n v : Int} {σ : Mem} {M : Mem} (w : WFD M) (D : DesR M α μ) (T : TR M σ W α μ) (hoa : okA a) (ha : AcR α μ a k t n v) (ht : 1 ≤ k → k ≤ 6 → 0 ≤ t ∧ t < M 0 0) (hnm : 1 ≤ k → k ≤ 3 → 0 ≤ n ∧ n ≤ 9) (hr : ¬ RUi M k t n = 1) (h0 : 0 ≤ σ 30 0) (h1 : σ 30 0 ≤ 2147483000) : MT Γ yX3_putThrough cX3_putThrough 3 none 50 0 0 [(3, 150), (3, a)] α μ (QN fun α1 μ1 => α1 = α ∧ TF W μ μ1 ∧ DesR M α μ1 ∧ TR M (thE M k t n v σ) W α μ1 ∧ KP M (-1) σ (thE M k t n v σ) μ μ1) := by
  have hn := w.n
  have hW := T.1
  unfold okA at hoa
  refine MT_of (k := 1) [(3, 150), (3, a), (9, 0)] pn_X3_putThrough rfl rfl (fun ad0 => ?_)
  refine V_aload_n (q := 1) dX3_putThrough_0 rfl rfl rfl ?_
  refine V_getI (q := 4) 0 dX3_putThrough_1 rfl flX3_30 (by omega) (congrArg Prod.fst (show _ = (1, 0) by rw [ha.1])) rfl rfl (fun z1 ez1 rz1 => ?_)
  rw [ha.2.1] at ez1
  obtain rfl : k = z1 := ez1.symm
  refine V_if_ne (q := 7) (tgt := 21) dX3_putThrough_4 (by decide) rfl (fun c4 => ?_) (fun c4 => ?_)
  · refine V_aload_n (q := 22) dX3_putThrough_21 rfl rfl rfl ?_
    refine V_getI (q := 25) 0 dX3_putThrough_22 rfl flX3_30 (by omega) (congrArg Prod.fst (show _ = (1, 0) by rw [ha.1])) rfl rfl (fun z22 ez22 rz22 => ?_)
    rw [ha.2.1] at ez22
    obtain rfl : k = z22 := ez22.symm
    refine V_iconst (q := 26) dX3_putThrough_25 rfl (by decide) ?_
    refine V_icmp_eq (q := 29) (tgt := 37) dX3_putThrough_26 (by decide) rfl (fun c26 => ?_) (fun c26 => ?_)
    · refine V_aload_n (q := 38) dX3_putThrough_37 rfl rfl rfl ?_
      refine V_getA (q := 41) 0 dX3_putThrough_38 rfl flX3_15 (by decide) (congrArg Prod.fst (show _ = (4, 0) by rw [T.2.2.2.1.1])) rfl rfl (fun z38 ez38 rz38 => ?_)
      rw [T.2.2.2.1.2.1] at ez38
      obtain rfl : z38 = 110 := ez38
      refine V_aload_n (q := 42) dX3_putThrough_41 rfl rfl rfl ?_
      refine V_getI (q := 45) 1 dX3_putThrough_42 rfl flX3_79 (by omega) (congrArg Prod.fst (show _ = (1, 0) by rw [ha.1])) rfl rfl (fun z42 ez42 rz42 => ?_)
      rw [ha.2.2.1] at ez42
      obtain rfl : t = z42 := ez42.symm
      refine V_aload_n (q := 46) dX3_putThrough_45 rfl rfl rfl ?_
      refine V_getI (q := 49) 2 dX3_putThrough_46 rfl flX3_56 (by omega) (congrArg Prod.fst (show _ = (1, 0) by rw [ha.1])) rfl rfl (fun z46 ez46 rz46 => ?_)
      rw [ha.2.2.2.1] at ez46
      obtain rfl : n = z46 := ez46.symm
      refine V_chVi (q := 52) (As := [(0, t), (0, n)]) (tX2_fieldOwner w D (by omega) (by omega)) dX3_putThrough_49 rfl mlX3_82 mw_X2_fieldOwner im_X2_fieldOwner sl_X2_fieldOwner md_X2_fieldOwner rfl (by decide) (by decide) (congrArg Prod.fst (show _ = (3, 0) by rw [D.1.1.1])) rfl rfl (by decide) (by decide) (Nat.le_of_ble_eq_true rfl) (Nat.le_of_ble_eq_true rfl) (Nat.le_of_ble_eq_true rfl) (fun z49 rz49 A49 M49 xM49 hM49 => ?_)
      obtain ⟨hA, fM49, DM49, hz49⟩ := hM49
      replace hA := hA.symm
      subst hA
      have hff : ¬ FF M n t < 0 := by { intro q; apply hr; rcases (show k = 1 ∨ k = 2 by omega) with q1 | q1 <;> subst q1; · { rw [RUi_1, if_pos q] }; · { rw [RUi_2, if_pos q] } }
      have TM49 := TR_SF T fM49.sf
      have hfo : 0 ≤ z49 ∧ z49 < M 0 0 ∧ 0 ≤ oF M z49 n ∧ FF M n t = 6 * z49 + oF M z49 n := by { rw [hz49]; rcases FO_rng (nm := n) w (show 0 ≤ t by omega) (show t < M 0 0 by omega) with q | q; · { exact absurd ((FO_m6 w (by omega) (by omega)).mp q) hff }; · { exact q } }
      refine V_istore_n (q := 53) (lv1 := [(3, 150), (3, a), (0, z49)]) dX3_putThrough_52 rfl rfl (by decide) rfl rfl ?_
      refine V_iload_n (q := 54) dX3_putThrough_53 rfl rfl rfl ?_
      refine V_bipush (q := 56) dX3_putThrough_54 rfl (by decide) ?_
      refine V_icmp_eq (q := 59) (tgt := 93) dX3_putThrough_56 (by decide) rfl (fun c56 => ?_) (fun c56 => ?_)
      · refine V_iload_n (q := 94) dX3_putThrough_93 rfl rfl rfl ?_
        refine V_bipush (q := 96) dX3_putThrough_94 rfl (by decide) ?_
        refine V_icmp_eq (q := 99) (tgt := 120) dX3_putThrough_96 (by decide) rfl (fun c96 => ?_) (fun c96 => ?_)
        · exfalso; omega
        · refine V_aload_n (q := 100) dX3_putThrough_99 rfl rfl rfl ?_
          refine V_getA (q := 103) 1 dX3_putThrough_100 rfl flX3_19 (by decide) (congrArg Prod.fst (show _ = (4, 0) by rw [T.2.2.2.1.1])) rfl rfl (fun z100 ez100 rz100 => ?_)
          rw [fM49 150 1 (by omega), T.2.2.2.1.2.2] at ez100
          obtain rfl : W = z100 := ez100.symm
          refine V_getA (q := 106) 1 dX3_putThrough_103 rfl flX3_89 (by omega) (congrArg Prod.fst (show _ = (6, 0) by rw [T.2.1.1.1])) rfl rfl (fun z103 ez103 rz103 => ?_)
          rw [fM49 W 1 (by omega), T.2.1.2.2.1] at ez103
          obtain rfl : z103 = (W + 2) := ez103
          refine V_iload_n (q := 107) dX3_putThrough_106 rfl rfl rfl ?_
          refine V_bipush (q := 109) dX3_putThrough_107 rfl (by decide) ?_
          refine V_imul (q := 110) dX3_putThrough_109 rfl (by omega) (fun z109 ez109 => ?_)
          refine V_aload_n (q := 111) dX3_putThrough_110 rfl rfl rfl ?_
          refine V_getI (q := 114) 2 dX3_putThrough_111 rfl flX3_56 (by omega) (congrArg Prod.fst (show _ = (1, 0) by rw [ha.1])) rfl rfl (fun z111 ez111 rz111 => ?_)
          rw [fM49 a 2 (by omega), ha.2.2.2.1] at ez111
          obtain rfl : n = z111 := ez111.symm
          refine V_iadd (q := 115) dX3_putThrough_114 rfl (by omega) (fun z114 ez114 => ?_)
          refine V_aload_n (q := 116) dX3_putThrough_115 rfl rfl rfl ?_
          refine V_getI (q := 119) 3 dX3_putThrough_116 rfl flX3_35 (by omega) (congrArg Prod.fst (show _ = (1, 0) by rw [ha.1])) rfl rfl (fun z116 ez116 rz116 => ?_)
          rw [fM49 a 3 (by omega), ha.2.2.2.2] at ez116
          obtain rfl : v = z116 := ez116.symm
          refine V_iast (q := 120) (n := 400) dX3_putThrough_119 rfl (by omega) (by rw [T.2.1.1.2.2.1]) (by omega) (fun M119 eM119 => ?_)
          have eth : thE M k t n v σ = mu σ 29 (FF M n t) v := by { unfold thE; rw [if_neg (by omega), if_neg (by omega), if_pos (by omega)] }
          rw [eth]
          have hg : TWF W M49 M119 := by { rw [eM119]; exact TWF.put (by unfold tw; omega) }
          refine V_vret dX3_putThrough_120 (Nat.le_of_ble_eq_true rfl) (Nat.le_of_ble_eq_true rfl) ⟨rfl, rfl, fM49.sf.tf.trans hg.tf, hg.des w hW DM49, ?_, (KP.sfm fM49).trans (KP.twf hW hg (fun u hu => by rw [mu_ne (by omega)]; exact hu))⟩
          rw [eM119]
          exact TR_29 w TM49 (by omega) hfo.2.2.2 hfo.1 hfo.2.1 (by omega) (by omega) hfo.2.2.1
      · refine V_aload_n (q := 60) dX3_putThrough_59 rfl rfl rfl ?_
        refine V_getI (q := 63) 0 dX3_putThrough_60 rfl flX3_30 (by omega) (congrArg Prod.fst (show _ = (1, 0) by rw [ha.1])) rfl rfl (fun z60 ez60 rz60 => ?_)
        rw [fM49 a 0 (by omega), ha.2.1] at ez60
        obtain rfl : k = z60 := ez60.symm
        refine V_iconst (q := 64) dX3_putThrough_63 rfl (by decide) ?_
        refine V_icmp_ne (q := 67) (tgt := 93) dX3_putThrough_64 (by decide) rfl (fun c64 => ?_) (fun c64 => ?_)
        · refine V_iload_n (q := 94) dX3_putThrough_93 rfl rfl rfl ?_
          refine V_bipush (q := 96) dX3_putThrough_94 rfl (by decide) ?_
          refine V_icmp_eq (q := 99) (tgt := 120) dX3_putThrough_96 (by decide) rfl (fun c96_2 => ?_) (fun c96_2 => ?_)
          · exfalso; omega
          · refine V_aload_n (q := 100) dX3_putThrough_99 rfl rfl rfl ?_
            refine V_getA (q := 103) 1 dX3_putThrough_100 rfl flX3_19 (by decide) (congrArg Prod.fst (show _ = (4, 0) by rw [T.2.2.2.1.1])) rfl rfl (fun z100_2 ez100_2 rz100_2 => ?_)
            rw [fM49 150 1 (by omega), T.2.2.2.1.2.2] at ez100_2
            obtain rfl : W = z100_2 := ez100_2.symm
            refine V_getA (q := 106) 1 dX3_putThrough_103 rfl flX3_89 (by omega) (congrArg Prod.fst (show _ = (6, 0) by rw [T.2.1.1.1])) rfl rfl (fun z103_2 ez103_2 rz103_2 => ?_)
            rw [fM49 W 1 (by omega), T.2.1.2.2.1] at ez103_2
            obtain rfl : z103_2 = (W + 2) := ez103_2
            refine V_iload_n (q := 107) dX3_putThrough_106 rfl rfl rfl ?_
            refine V_bipush (q := 109) dX3_putThrough_107 rfl (by decide) ?_
            refine V_imul (q := 110) dX3_putThrough_109 rfl (by omega) (fun z109_2 ez109_2 => ?_)
            refine V_aload_n (q := 111) dX3_putThrough_110 rfl rfl rfl ?_
            refine V_getI (q := 114) 2 dX3_putThrough_111 rfl flX3_56 (by omega) (congrArg Prod.fst (show _ = (1, 0) by rw [ha.1])) rfl rfl (fun z111_2 ez111_2 rz111_2 => ?_)
            rw [fM49 a 2 (by omega), ha.2.2.2.1] at ez111_2
            obtain rfl : n = z111_2 := ez111_2.symm
            refine V_iadd (q := 115) dX3_putThrough_114 rfl (by omega) (fun z114_2 ez114_2 => ?_)
            refine V_aload_n (q := 116) dX3_putThrough_115 rfl rfl rfl ?_
            refine V_getI (q := 119) 3 dX3_putThrough_116 rfl flX3_35 (by omega) (congrArg Prod.fst (show _ = (1, 0) by rw [ha.1])) rfl rfl (fun z116_2 ez116_2 rz116_2 => ?_)
            rw [fM49 a 3 (by omega), ha.2.2.2.2] at ez116_2
            obtain rfl : v = z116_2 := ez116_2.symm
            refine V_iast (q := 120) (n := 400) dX3_putThrough_119 rfl (by omega) (by rw [T.2.1.1.2.2.1]) (by omega) (fun M119_2 eM119_2 => ?_)
            have eth : thE M k t n v σ = mu σ 29 (FF M n t) v := by { unfold thE; rw [if_neg (by omega), if_neg (by omega), if_pos (by omega)] }
            rw [eth]
            have hg : TWF W M49 M119_2 := by { rw [eM119_2]; exact TWF.put (by unfold tw; omega) }
            refine V_vret dX3_putThrough_120 (Nat.le_of_ble_eq_true rfl) (Nat.le_of_ble_eq_true rfl) ⟨rfl, rfl, fM49.sf.tf.trans hg.tf, hg.des w hW DM49, ?_, (KP.sfm fM49).trans (KP.twf hW hg (fun u hu => by rw [mu_ne (by omega)]; exact hu))⟩
            rw [eM119_2]
            exact TR_29 w TM49 (by omega) hfo.2.2.2 hfo.1 hfo.2.1 (by omega) (by omega) hfo.2.2.1
        · refine V_aload_n (q := 68) dX3_putThrough_67 rfl rfl rfl ?_
          refine V_getA (q := 71) 1 dX3_putThrough_68 rfl flX3_19 (by decide) (congrArg Prod.fst (show _ = (4, 0) by rw [T.2.2.2.1.1])) rfl rfl (fun z68 ez68 rz68 => ?_)
          rw [fM49 150 1 (by omega), T.2.2.2.1.2.2] at ez68
          obtain rfl : W = z68 := ez68.symm
          refine V_aload_n (q := 72) dX3_putThrough_71 rfl rfl rfl ?_
          refine V_getA (q := 75) 0 dX3_putThrough_72 rfl flX3_15 (by decide) (congrArg Prod.fst (show _ = (4, 0) by rw [T.2.2.2.1.1])) rfl rfl (fun z72 ez72 rz72 => ?_)
          rw [fM49 150 0 (by omega), T.2.2.2.1.2.1] at ez72
          obtain rfl : z72 = 110 := ez72
          refine V_aload_n (q := 76) dX3_putThrough_75 rfl rfl rfl ?_
          refine V_getA (q := 79) 1 dX3_putThrough_76 rfl flX3_19 (by decide) (congrArg Prod.fst (show _ = (4, 0) by rw [T.2.2.2.1.1])) rfl rfl (fun z76 ez76 rz76 => ?_)
          rw [fM49 150 1 (by omega), T.2.2.2.1.2.2] at ez76
          obtain rfl : W = z76 := ez76.symm
          refine V_iload_n (q := 80) dX3_putThrough_79 rfl rfl rfl ?_
          refine V_aload_n (q := 81) dX3_putThrough_80 rfl rfl rfl ?_
          refine V_getI (q := 84) 2 dX3_putThrough_81 rfl flX3_56 (by omega) (congrArg Prod.fst (show _ = (1, 0) by rw [ha.1])) rfl rfl (fun z81 ez81 rz81 => ?_)
          rw [fM49 a 2 (by omega), ha.2.2.2.1] at ez81
          obtain rfl : n = z81 := ez81.symm
          have hxv := TM49.2.2.1.2.1 z49 n hfo.1 hfo.2.1 (by omega) (by omega)
          rw [if_pos hfo.2.2.1, ← hfo.2.2.2] at hxv
          replace hxv : M49 (W + 2) (10 * z49 + n) = σ 29 (FF M n t) := hxv
          refine V_rdV (q := 87) (As := [(3, W), (0, z49), (0, n)]) (tX2_valueT w DM49 TM49.2.1 hxv (by omega) ⟨hfo.1, hfo.2.1⟩ (by omega) hfo.2.2.1) dX3_putThrough_84 rfl mlX3_85 mw_X2_valueOf im_X2_valueOf sl_X2_valueOf md_X2_valueOf rfl (by decide) (by decide) (congrArg Prod.fst (show _ = (3, 0) by rw [D.1.1.1])) rfl rfl (by decide) (by decide) (Nat.le_of_ble_eq_true rfl) (Nat.le_of_ble_eq_true rfl) (Nat.le_of_ble_eq_true rfl) (fun z84 rz84 hz84 => ?_)
          refine V_chV (q := 90) (As := [(0, z84)]) (tX5_putOnTape TM49 h0 h1) dX3_putThrough_87 rfl mlX3_73 mw_X5_putOnTape im_X5_putOnTape sl_X5_putOnTape md_X5_putOnTape rfl (by decide) (by omega) (congrArg Prod.fst (show _ = (6, 0) by rw [T.2.1.1.1])) rfl rfl (by decide) (by decide) (Nat.le_of_ble_eq_true rfl) (Nat.le_of_ble_eq_true rfl) (Nat.le_of_ble_eq_true rfl) (fun A87 M87 xM87 hM87 => ?_)
          obtain ⟨hA, hM87⟩ := hM87
          replace hA := hA.symm
          subst hA
          obtain ⟨gM87, TM87⟩ := hM87
          refine V_goto (tgt := 120) dX3_putThrough_90 (by decide) ?_
          have eth : thE M k t n v σ = onT z84 σ := by { unfold thE; rw [if_neg (by omega), if_pos (by omega), hz84, hfo.2.2.2] }
          rw [eth]
          exact V_vret dX3_putThrough_120 (Nat.le_of_ble_eq_true rfl) (Nat.le_of_ble_eq_true rfl) ⟨rfl, rfl, fM49.sf.tf.trans gM87.tf, gM87.des w hW DM49, TM87, (KP.sfm fM49).trans (KP.twf hW gM87 (fun u hu => by rw [onT_o (by decide) (by decide)]; exact hu))⟩
    · refine V_aload_n (q := 30) dX3_putThrough_29 rfl rfl rfl ?_
      refine V_getI (q := 33) 0 dX3_putThrough_30 rfl flX3_30 (by omega) (congrArg Prod.fst (show _ = (1, 0) by rw [ha.1])) rfl rfl (fun z30 ez30 rz30 => ?_)
      rw [ha.2.1] at ez30
      obtain rfl : k = z30 := ez30.symm
      refine V_iconst (q := 34) dX3_putThrough_33 rfl (by decide) ?_
      refine V_icmp_ne (q := 37) (tgt := 120) dX3_putThrough_34 (by decide) rfl (fun c34 => ?_) (fun c34 => ?_)
      · first
          | (exfalso; omega)
          | (have eth : thE M k t n v σ = σ := by { unfold thE; rw [if_neg (by omega), if_neg (by omega), if_neg (by omega)] }
             rw [eth]
             exact V_vret dX3_putThrough_120 (Nat.le_of_ble_eq_true rfl) (Nat.le_of_ble_eq_true rfl) ⟨rfl, rfl, TF.rf, D, T, KP.rf⟩)
      · refine V_aload_n (q := 38) dX3_putThrough_37 rfl rfl rfl ?_
        refine V_getA (q := 41) 0 dX3_putThrough_38 rfl flX3_15 (by decide) (congrArg Prod.fst (show _ = (4, 0) by rw [T.2.2.2.1.1])) rfl rfl (fun z38_2 ez38_2 rz38_2 => ?_)
        rw [T.2.2.2.1.2.1] at ez38_2
        obtain rfl : z38_2 = 110 := ez38_2
        refine V_aload_n (q := 42) dX3_putThrough_41 rfl rfl rfl ?_
        refine V_getI (q := 45) 1 dX3_putThrough_42 rfl flX3_79 (by omega) (congrArg Prod.fst (show _ = (1, 0) by rw [ha.1])) rfl rfl (fun z42_2 ez42_2 rz42_2 => ?_)
        rw [ha.2.2.1] at ez42_2
        obtain rfl : t = z42_2 := ez42_2.symm
        refine V_aload_n (q := 46) dX3_putThrough_45 rfl rfl rfl ?_
        refine V_getI (q := 49) 2 dX3_putThrough_46 rfl flX3_56 (by omega) (congrArg Prod.fst (show _ = (1, 0) by rw [ha.1])) rfl rfl (fun z46_2 ez46_2 rz46_2 => ?_)
        rw [ha.2.2.2.1] at ez46_2
        obtain rfl : n = z46_2 := ez46_2.symm
        refine V_chVi (q := 52) (As := [(0, t), (0, n)]) (tX2_fieldOwner w D (by omega) (by omega)) dX3_putThrough_49 rfl mlX3_82 mw_X2_fieldOwner im_X2_fieldOwner sl_X2_fieldOwner md_X2_fieldOwner rfl (by decide) (by decide) (congrArg Prod.fst (show _ = (3, 0) by rw [D.1.1.1])) rfl rfl (by decide) (by decide) (Nat.le_of_ble_eq_true rfl) (Nat.le_of_ble_eq_true rfl) (Nat.le_of_ble_eq_true rfl) (fun z49_2 rz49_2 A49_2 M49_2 xM49_2 hM49_2 => ?_)
        obtain ⟨hA, fM49_2, DM49_2, hz49_2⟩ := hM49_2
        replace hA := hA.symm
        subst hA
        have hff : ¬ FF M n t < 0 := by { intro q; apply hr; rcases (show k = 1 ∨ k = 2 by omega) with q1 | q1 <;> subst q1; · { rw [RUi_1, if_pos q] }; · { rw [RUi_2, if_pos q] } }
        have TM49_2 := TR_SF T fM49_2.sf
        have hfo : 0 ≤ z49_2 ∧ z49_2 < M 0 0 ∧ 0 ≤ oF M z49_2 n ∧ FF M n t = 6 * z49_2 + oF M z49_2 n := by { rw [hz49_2]; rcases FO_rng (nm := n) w (show 0 ≤ t by omega) (show t < M 0 0 by omega) with q | q; · { exact absurd ((FO_m6 w (by omega) (by omega)).mp q) hff }; · { exact q } }
        refine V_istore_n (q := 53) (lv1 := [(3, 150), (3, a), (0, z49_2)]) dX3_putThrough_52 rfl rfl (by decide) rfl rfl ?_
        refine V_iload_n (q := 54) dX3_putThrough_53 rfl rfl rfl ?_
        refine V_bipush (q := 56) dX3_putThrough_54 rfl (by decide) ?_
        refine V_icmp_eq (q := 59) (tgt := 93) dX3_putThrough_56 (by decide) rfl (fun c56_2 => ?_) (fun c56_2 => ?_)
        · refine V_iload_n (q := 94) dX3_putThrough_93 rfl rfl rfl ?_
          refine V_bipush (q := 96) dX3_putThrough_94 rfl (by decide) ?_
          refine V_icmp_eq (q := 99) (tgt := 120) dX3_putThrough_96 (by decide) rfl (fun c96_3 => ?_) (fun c96_3 => ?_)
          · exfalso; omega
          · refine V_aload_n (q := 100) dX3_putThrough_99 rfl rfl rfl ?_
            refine V_getA (q := 103) 1 dX3_putThrough_100 rfl flX3_19 (by decide) (congrArg Prod.fst (show _ = (4, 0) by rw [T.2.2.2.1.1])) rfl rfl (fun z100_3 ez100_3 rz100_3 => ?_)
            rw [fM49_2 150 1 (by omega), T.2.2.2.1.2.2] at ez100_3
            obtain rfl : W = z100_3 := ez100_3.symm
            refine V_getA (q := 106) 1 dX3_putThrough_103 rfl flX3_89 (by omega) (congrArg Prod.fst (show _ = (6, 0) by rw [T.2.1.1.1])) rfl rfl (fun z103_3 ez103_3 rz103_3 => ?_)
            rw [fM49_2 W 1 (by omega), T.2.1.2.2.1] at ez103_3
            obtain rfl : z103_3 = (W + 2) := ez103_3
            refine V_iload_n (q := 107) dX3_putThrough_106 rfl rfl rfl ?_
            refine V_bipush (q := 109) dX3_putThrough_107 rfl (by decide) ?_
            refine V_imul (q := 110) dX3_putThrough_109 rfl (by omega) (fun z109_3 ez109_3 => ?_)
            refine V_aload_n (q := 111) dX3_putThrough_110 rfl rfl rfl ?_
            refine V_getI (q := 114) 2 dX3_putThrough_111 rfl flX3_56 (by omega) (congrArg Prod.fst (show _ = (1, 0) by rw [ha.1])) rfl rfl (fun z111_3 ez111_3 rz111_3 => ?_)
            rw [fM49_2 a 2 (by omega), ha.2.2.2.1] at ez111_3
            obtain rfl : n = z111_3 := ez111_3.symm
            refine V_iadd (q := 115) dX3_putThrough_114 rfl (by omega) (fun z114_3 ez114_3 => ?_)
            refine V_aload_n (q := 116) dX3_putThrough_115 rfl rfl rfl ?_
            refine V_getI (q := 119) 3 dX3_putThrough_116 rfl flX3_35 (by omega) (congrArg Prod.fst (show _ = (1, 0) by rw [ha.1])) rfl rfl (fun z116_3 ez116_3 rz116_3 => ?_)
            rw [fM49_2 a 3 (by omega), ha.2.2.2.2] at ez116_3
            obtain rfl : v = z116_3 := ez116_3.symm
            refine V_iast (q := 120) (n := 400) dX3_putThrough_119 rfl (by omega) (by rw [T.2.1.1.2.2.1]) (by omega) (fun M119_3 eM119_3 => ?_)
            have eth : thE M k t n v σ = mu σ 29 (FF M n t) v := by { unfold thE; rw [if_neg (by omega), if_neg (by omega), if_pos (by omega)] }
            rw [eth]
            have hg : TWF W M49_2 M119_3 := by { rw [eM119_3]; exact TWF.put (by unfold tw; omega) }
            refine V_vret dX3_putThrough_120 (Nat.le_of_ble_eq_true rfl) (Nat.le_of_ble_eq_true rfl) ⟨rfl, rfl, fM49_2.sf.tf.trans hg.tf, hg.des w hW DM49_2, ?_, (KP.sfm fM49_2).trans (KP.twf hW hg (fun u hu => by rw [mu_ne (by omega)]; exact hu))⟩
            rw [eM119_3]
            exact TR_29 w TM49_2 (by omega) hfo.2.2.2 hfo.1 hfo.2.1 (by omega) (by omega) hfo.2.2.1
        · refine V_aload_n (q := 60) dX3_putThrough_59 rfl rfl rfl ?_
          refine V_getI (q := 63) 0 dX3_putThrough_60 rfl flX3_30 (by omega) (congrArg Prod.fst (show _ = (1, 0) by rw [ha.1])) rfl rfl (fun z60_2 ez60_2 rz60_2 => ?_)
          rw [fM49_2 a 0 (by omega), ha.2.1] at ez60_2
          obtain rfl : k = z60_2 := ez60_2.symm
          refine V_iconst (q := 64) dX3_putThrough_63 rfl (by decide) ?_
          refine V_icmp_ne (q := 67) (tgt := 93) dX3_putThrough_64 (by decide) rfl (fun c64_2 => ?_) (fun c64_2 => ?_)
          · refine V_iload_n (q := 94) dX3_putThrough_93 rfl rfl rfl ?_
            refine V_bipush (q := 96) dX3_putThrough_94 rfl (by decide) ?_
            refine V_icmp_eq (q := 99) (tgt := 120) dX3_putThrough_96 (by decide) rfl (fun c96_4 => ?_) (fun c96_4 => ?_)
            · exfalso; omega
            · refine V_aload_n (q := 100) dX3_putThrough_99 rfl rfl rfl ?_
              refine V_getA (q := 103) 1 dX3_putThrough_100 rfl flX3_19 (by decide) (congrArg Prod.fst (show _ = (4, 0) by rw [T.2.2.2.1.1])) rfl rfl (fun z100_4 ez100_4 rz100_4 => ?_)
              rw [fM49_2 150 1 (by omega), T.2.2.2.1.2.2] at ez100_4
              obtain rfl : W = z100_4 := ez100_4.symm
              refine V_getA (q := 106) 1 dX3_putThrough_103 rfl flX3_89 (by omega) (congrArg Prod.fst (show _ = (6, 0) by rw [T.2.1.1.1])) rfl rfl (fun z103_4 ez103_4 rz103_4 => ?_)
              rw [fM49_2 W 1 (by omega), T.2.1.2.2.1] at ez103_4
              obtain rfl : z103_4 = (W + 2) := ez103_4
              refine V_iload_n (q := 107) dX3_putThrough_106 rfl rfl rfl ?_
              refine V_bipush (q := 109) dX3_putThrough_107 rfl (by decide) ?_
              refine V_imul (q := 110) dX3_putThrough_109 rfl (by omega) (fun z109_4 ez109_4 => ?_)
              refine V_aload_n (q := 111) dX3_putThrough_110 rfl rfl rfl ?_
              refine V_getI (q := 114) 2 dX3_putThrough_111 rfl flX3_56 (by omega) (congrArg Prod.fst (show _ = (1, 0) by rw [ha.1])) rfl rfl (fun z111_4 ez111_4 rz111_4 => ?_)
              rw [fM49_2 a 2 (by omega), ha.2.2.2.1] at ez111_4
              obtain rfl : n = z111_4 := ez111_4.symm
              refine V_iadd (q := 115) dX3_putThrough_114 rfl (by omega) (fun z114_4 ez114_4 => ?_)
              refine V_aload_n (q := 116) dX3_putThrough_115 rfl rfl rfl ?_
              refine V_getI (q := 119) 3 dX3_putThrough_116 rfl flX3_35 (by omega) (congrArg Prod.fst (show _ = (1, 0) by rw [ha.1])) rfl rfl (fun z116_4 ez116_4 rz116_4 => ?_)
              rw [fM49_2 a 3 (by omega), ha.2.2.2.2] at ez116_4
              obtain rfl : v = z116_4 := ez116_4.symm
              refine V_iast (q := 120) (n := 400) dX3_putThrough_119 rfl (by omega) (by rw [T.2.1.1.2.2.1]) (by omega) (fun M119_4 eM119_4 => ?_)
              have eth : thE M k t n v σ = mu σ 29 (FF M n t) v := by { unfold thE; rw [if_neg (by omega), if_neg (by omega), if_pos (by omega)] }
              rw [eth]
              have hg : TWF W M49_2 M119_4 := by { rw [eM119_4]; exact TWF.put (by unfold tw; omega) }
              refine V_vret dX3_putThrough_120 (Nat.le_of_ble_eq_true rfl) (Nat.le_of_ble_eq_true rfl) ⟨rfl, rfl, fM49_2.sf.tf.trans hg.tf, hg.des w hW DM49_2, ?_, (KP.sfm fM49_2).trans (KP.twf hW hg (fun u hu => by rw [mu_ne (by omega)]; exact hu))⟩
              rw [eM119_4]
              exact TR_29 w TM49_2 (by omega) hfo.2.2.2 hfo.1 hfo.2.1 (by omega) (by omega) hfo.2.2.1
          · refine V_aload_n (q := 68) dX3_putThrough_67 rfl rfl rfl ?_
            refine V_getA (q := 71) 1 dX3_putThrough_68 rfl flX3_19 (by decide) (congrArg Prod.fst (show _ = (4, 0) by rw [T.2.2.2.1.1])) rfl rfl (fun z68_2 ez68_2 rz68_2 => ?_)
            rw [fM49_2 150 1 (by omega), T.2.2.2.1.2.2] at ez68_2
            obtain rfl : W = z68_2 := ez68_2.symm
            refine V_aload_n (q := 72) dX3_putThrough_71 rfl rfl rfl ?_
            refine V_getA (q := 75) 0 dX3_putThrough_72 rfl flX3_15 (by decide) (congrArg Prod.fst (show _ = (4, 0) by rw [T.2.2.2.1.1])) rfl rfl (fun z72_2 ez72_2 rz72_2 => ?_)
            rw [fM49_2 150 0 (by omega), T.2.2.2.1.2.1] at ez72_2
            obtain rfl : z72_2 = 110 := ez72_2
            refine V_aload_n (q := 76) dX3_putThrough_75 rfl rfl rfl ?_
            refine V_getA (q := 79) 1 dX3_putThrough_76 rfl flX3_19 (by decide) (congrArg Prod.fst (show _ = (4, 0) by rw [T.2.2.2.1.1])) rfl rfl (fun z76_2 ez76_2 rz76_2 => ?_)
            rw [fM49_2 150 1 (by omega), T.2.2.2.1.2.2] at ez76_2
            obtain rfl : W = z76_2 := ez76_2.symm
            refine V_iload_n (q := 80) dX3_putThrough_79 rfl rfl rfl ?_
            refine V_aload_n (q := 81) dX3_putThrough_80 rfl rfl rfl ?_
            refine V_getI (q := 84) 2 dX3_putThrough_81 rfl flX3_56 (by omega) (congrArg Prod.fst (show _ = (1, 0) by rw [ha.1])) rfl rfl (fun z81_2 ez81_2 rz81_2 => ?_)
            rw [fM49_2 a 2 (by omega), ha.2.2.2.1] at ez81_2
            obtain rfl : n = z81_2 := ez81_2.symm
            have hxv := TM49_2.2.2.1.2.1 z49_2 n hfo.1 hfo.2.1 (by omega) (by omega)
            rw [if_pos hfo.2.2.1, ← hfo.2.2.2] at hxv
            replace hxv : M49_2 (W + 2) (10 * z49_2 + n) = σ 29 (FF M n t) := hxv
            refine V_rdV (q := 87) (As := [(3, W), (0, z49_2), (0, n)]) (tX2_valueT w DM49_2 TM49_2.2.1 hxv (by omega) ⟨hfo.1, hfo.2.1⟩ (by omega) hfo.2.2.1) dX3_putThrough_84 rfl mlX3_85 mw_X2_valueOf im_X2_valueOf sl_X2_valueOf md_X2_valueOf rfl (by decide) (by decide) (congrArg Prod.fst (show _ = (3, 0) by rw [D.1.1.1])) rfl rfl (by decide) (by decide) (Nat.le_of_ble_eq_true rfl) (Nat.le_of_ble_eq_true rfl) (Nat.le_of_ble_eq_true rfl) (fun z84_2 rz84_2 hz84_2 => ?_)
            refine V_chV (q := 90) (As := [(0, z84_2)]) (tX5_putOnTape TM49_2 h0 h1) dX3_putThrough_87 rfl mlX3_73 mw_X5_putOnTape im_X5_putOnTape sl_X5_putOnTape md_X5_putOnTape rfl (by decide) (by omega) (congrArg Prod.fst (show _ = (6, 0) by rw [T.2.1.1.1])) rfl rfl (by decide) (by decide) (Nat.le_of_ble_eq_true rfl) (Nat.le_of_ble_eq_true rfl) (Nat.le_of_ble_eq_true rfl) (fun A87_2 M87_2 xM87_2 hM87_2 => ?_)
            obtain ⟨hA, hM87_2⟩ := hM87_2
            replace hA := hA.symm
            subst hA
            obtain ⟨gM87_2, TM87_2⟩ := hM87_2
            refine V_goto (tgt := 120) dX3_putThrough_90 (by decide) ?_
            have eth : thE M k t n v σ = onT z84_2 σ := by { unfold thE; rw [if_neg (by omega), if_pos (by omega), hz84_2, hfo.2.2.2] }
            rw [eth]
            exact V_vret dX3_putThrough_120 (Nat.le_of_ble_eq_true rfl) (Nat.le_of_ble_eq_true rfl) ⟨rfl, rfl, fM49_2.sf.tf.trans gM87_2.tf, gM87_2.des w hW DM49_2, TM87_2, (KP.sfm fM49_2).trans (KP.twf hW gM87_2 (fun u hu => by rw [onT_o (by decide) (by decide)]; exact hu))⟩
  · refine V_aload_n (q := 8) dX3_putThrough_7 rfl rfl rfl ?_
    refine V_getA (q := 11) 1 dX3_putThrough_8 rfl flX3_19 (by decide) (congrArg Prod.fst (show _ = (4, 0) by rw [T.2.2.2.1.1])) rfl rfl (fun z8 ez8 rz8 => ?_)
    rw [T.2.2.2.1.2.2] at ez8
    obtain rfl : W = z8 := ez8.symm
    refine V_aload_n (q := 12) dX3_putThrough_11 rfl rfl rfl ?_
    refine V_getI (q := 15) 3 dX3_putThrough_12 rfl flX3_35 (by omega) (congrArg Prod.fst (show _ = (1, 0) by rw [ha.1])) rfl rfl (fun z12 ez12 rz12 => ?_)
    rw [ha.2.2.2.2] at ez12
    obtain rfl : v = z12 := ez12.symm
    refine V_chV (q := 18) (As := [(0, v)]) (tX5_putOnTape T h0 h1) dX3_putThrough_15 rfl mlX3_73 mw_X5_putOnTape im_X5_putOnTape sl_X5_putOnTape md_X5_putOnTape rfl (by decide) (by omega) (congrArg Prod.fst (show _ = (6, 0) by rw [T.2.1.1.1])) rfl rfl (by decide) (by decide) (Nat.le_of_ble_eq_true rfl) (Nat.le_of_ble_eq_true rfl) (Nat.le_of_ble_eq_true rfl) (fun A15 M15 xM15 hM15 => ?_)
    obtain ⟨hA, hM15⟩ := hM15
    replace hA := hA.symm
    subst hA
    obtain ⟨gM15, TM15⟩ := hM15
    refine V_goto (tgt := 120) dX3_putThrough_18 (by decide) ?_
    have eth : thE M k t n v σ = onT v σ := by { unfold thE; rw [if_pos (by omega)] }
    rw [eth]
    exact V_vret dX3_putThrough_120 (Nat.le_of_ble_eq_true rfl) (Nat.le_of_ble_eq_true rfl) ⟨rfl, rfl, gM15.tf, gM15.des w hW D, TM15, KP.twf hW gM15 (fun u hu => by rw [onT_o (by decide) (by decide)]; exact hu)⟩
theorem anC_s (M : Mem) (p r : Int) {i fc : Int} (h0 : fc ≤ i) : anC M p r (i + 1 - fc).toNat = ((decide (M 16 (p + (i - fc)) = -1) || decide (M 16 (p + (i - fc)) = r)) || anC M p r (i - fc).toNat) := by
  rw [show (i + 1 - fc).toNat = (i - fc).toNat + 1 by omega]
  unfold anC
  rw [show (((i - fc).toNat : Nat) : Int) = i - fc by omega]
  cases (i - fc).toNat <;> rfl
theorem anC_0 (M : Mem) (p r : Int) : anC M p r 0 = false := rfl
theorem tX3_takeFailure {Γ : GC} {α : Sh} {μ : Mem} {W B A b fc i r : Int} {q : Int × Mem} {M : Mem} (w : WFD M) (D : DesR M α μ) (T : TR M q.2 W α μ) (hb : bodT M b B A) (hr : r = q.1) (hrr : -6 ≤ r ∧ r ≤ 23) (h2 : 0 ≤ fc) (h3 : fc ≤ i) (h4 : i < M 12 b) (h0 : 0 ≤ q.2 30 0) (h1 : q.2 30 0 ≤ 2147483000) : MT Γ yX3_takeFailure cX3_takeFailure 7 (some .int) 1 0 0 [(3, 150), (3, B), (0, fc), (0, i), (0, r)] α μ (QI fun z α1 μ1 => α1 = α ∧ TWF W μ μ1 ∧ TR M (tkE M b fc i q).2 W α μ1 ∧ z = (tkE M b fc i q).1) := by
  have hn := w.n
  have hW := T.1
  have hB := hb.at D
  have hbr := hb.rng w
  have hz := w.size b hbr.1.1 hbr.1.2
  refine MT_of (k := 2) [(3, 150), (3, B), (0, fc), (0, i), (0, r), (9, 0), (9, 0)] pn_X3_takeFailure rfl rfl (fun ad0 => ?_)
  have loop : ¬ r = -6 → ¬ r = 23 → ∀ j : Int, (fc - 1 ≤ j ∧ j < i ∧ anC M (12 * b + fc) r (i - fc).toNat = anC M (12 * b + fc) r (j + 1 - fc).toNat) → V Γ α ad0 (ZM Γ α ad0 (QI fun z α1 μ1 => α1 = α ∧ TWF W μ μ1 ∧ TR M (tkE M b fc i q).2 W α μ1 ∧ z = (tkE M b fc i q).1) 0 0) (RM 1 0 0) RX3 cX3_takeFailure 7 (some .int) yX3_takeFailure.name 22 [] [(3, 150), (3, B), (0, fc), (0, i), (0, r), (0, j), (9, 0)] α μ 0 0 := by
    intro hr6 hr23
    refine loop1 _ (fun j => (j + 1 - fc).toNat) _ ?_
    rintro j ⟨hj1, hj2, hj3⟩ ih
    refine V_iload (q := 24) dX3_takeFailure_22 rfl rfl ?_
    refine V_iload_n (q := 25) dX3_takeFailure_24 rfl rfl rfl ?_
    refine V_icmp_lt (q := 28) (tgt := 75) dX3_takeFailure_25 (by decide) rfl (fun c25 => ?_) (fun c25 => ?_)
    · refine V_iload (q := 77) dX3_takeFailure_75 rfl rfl ?_
      have hany : ¬ anC M (12 * b + fc) q.1 (i - fc).toNat = true := by { rw [← hr, hj3, show (j + 1 - fc).toNat = 0 by omega, anC_0]; decide }
      have eth : tkE M b fc i q = q := by { unfold tkE; rw [if_neg (by omega), if_neg hany] }
      rw [eth]
      exact V_iret dX3_takeFailure_77 (Nat.le_of_ble_eq_true rfl) (Nat.le_of_ble_eq_true rfl) ⟨_, rfl, rfl, TWF.rf, T, hr⟩
    · have hja0 := hB.2.2.1 j (by omega) (by omega)
      obtain ⟨aj, eaj⟩ : ∃ aj : Int, aj = A + j := ⟨_, rfl⟩
      rw [← eaj] at hja0
      have haj := hja0.1
      have hja := hja0.2.1
      have hj16 := hja0.2.2.2.2.2
      have ha0 : 0 ≤ aj := by omega
      refine V_aload_n (q := 29) dX3_takeFailure_28 rfl rfl rfl ?_
      refine V_getA (q := 32) 0 dX3_takeFailure_29 rfl flX3_146 (by omega) (congrArg Prod.fst (show _ = (2, 0) by rw [hB.1.1])) rfl rfl (fun z29 ez29 rz29 => ?_)
      rw [hB.1.2.2] at ez29
      obtain rfl : z29 = (B + 1) := ez29
      refine V_iload (q := 34) dX3_takeFailure_32 rfl rfl ?_
      refine V_aald (q := 35) (n := 12) (ta := 25) (ci := 0) dX3_takeFailure_34 rfl (by omega) (by rw [hB.1.2.1]) rfl (by decide) (by omega) (fun z34 ez34 rz34 => ?_)
      rw [haj] at ez34
      obtain rfl : aj = z34 := ez34.symm
      refine V_getI (q := 38) 3 dX3_takeFailure_35 rfl flX3_35 (by omega) (congrArg Prod.fst (show _ = (1, 0) by rw [hja])) rfl rfl (fun z35 ez35 rz35 => ?_)
      rw [hj16] at ez35
      refine V_istore (q := 40) (lv1 := [(3, 150), (3, B), (0, fc), (0, i), (0, r), (0, j), (0, z35)]) dX3_takeFailure_38 rfl (by decide) rfl rfl ?_
      refine V_iload (q := 42) dX3_takeFailure_40 rfl rfl ?_
      refine V_iconst (q := 43) dX3_takeFailure_42 rfl (by decide) ?_
      refine V_icmp_eq (q := 46) (tgt := 53) dX3_takeFailure_43 (by decide) rfl (fun c43 => ?_) (fun c43 => ?_)
      · refine V_aload_n (q := 54) dX3_takeFailure_53 rfl rfl rfl ?_
        refine V_getA (q := 57) 1 dX3_takeFailure_54 rfl flX3_19 (by decide) (congrArg Prod.fst (show _ = (4, 0) by rw [T.2.2.2.1.1])) rfl rfl (fun z54 ez54 rz54 => ?_)
        rw [T.2.2.2.1.2.2] at ez54
        obtain rfl : W = z54 := ez54.symm
        refine V_sipush (q := 60) dX3_takeFailure_57 rfl (by decide) ?_
        refine V_iload (q := 62) dX3_takeFailure_60 rfl rfl ?_
        refine V_iadd (q := 63) dX3_takeFailure_62 rfl (by omega) (fun z62 ez62 => ?_)
        refine V_chV (q := 66) (As := [(0, z62)]) (tX5_putOnTape T h0 h1) dX3_takeFailure_63 rfl mlX3_73 mw_X5_putOnTape im_X5_putOnTape sl_X5_putOnTape md_X5_putOnTape rfl (by decide) (by omega) (congrArg Prod.fst (show _ = (6, 0) by rw [T.2.1.1.1])) rfl rfl (by decide) (by decide) (Nat.le_of_ble_eq_true rfl) (Nat.le_of_ble_eq_true rfl) (Nat.le_of_ble_eq_true rfl) (fun A63 M63 xM63 hM63 => ?_)
        obtain ⟨hA, hM63⟩ := hM63
        replace hA := hA.symm
        subst hA
        obtain ⟨gM63, TM63⟩ := hM63
        refine V_bipush (q := 68) dX3_takeFailure_66 rfl (by decide) ?_
        have hx : z62 = 1000 + q.1 := by omega
        have hany : anC M (12 * b + fc) q.1 (i - fc).toNat = true := by { rw [← hr, hj3, anC_s _ _ _ (by omega), show 12 * b + fc + (j - fc) = 12 * b + j by omega]; first | (rw [decide_eq_true (show M 16 (12 * b + j) = -1 by omega)]; simp) | (rw [decide_eq_true (show M 16 (12 * b + j) = r by omega)]; simp) }
        have eth : tkE M b fc i q = (-6, onT (1000 + q.1) q.2) := by { unfold tkE; rw [if_neg (by omega), if_pos hany] }
        rw [eth]
        exact V_iret dX3_takeFailure_68 (Nat.le_of_ble_eq_true rfl) (Nat.le_of_ble_eq_true rfl) ⟨_, rfl, rfl, gM63, by { rw [← hx]; exact TM63 }, rfl⟩
      · refine V_iload (q := 48) dX3_takeFailure_46 rfl rfl ?_
        refine V_iload (q := 50) dX3_takeFailure_48 rfl rfl ?_
        refine V_icmp_ne (q := 53) (tgt := 69) dX3_takeFailure_50 (by decide) rfl (fun c50 => ?_) (fun c50 => ?_)
        · refine V_iinc (q := 72) dX3_takeFailure_69 rfl rfl (by decide) rfl (by omega) (fun z69 lz69 ez69 hlz69 => ?_)
          obtain rfl : lz69 = [(3, 150), (3, B), (0, fc), (0, i), (0, r), (0, z69), (0, z35)] := hlz69
          refine V_goto (tgt := 22) dX3_takeFailure_72 (by decide) ?_
          refine V_fgt [(3, 150), (3, B), (0, fc), (0, i), (0, r), (0, z69), (9, 0)] ⟨Or.inl rfl, Or.inl rfl, Or.inl rfl, Or.inl rfl, Or.inl rfl, Or.inl rfl, Or.inr rfl, trivial⟩ ?_
          exact ih z69 ⟨by omega, by omega, by { rw [hj3, anC_s _ _ _ (by omega), show 12 * b + fc + (j - fc) = 12 * b + j by omega, decide_eq_false (show ¬ M 16 (12 * b + j) = -1 by omega), decide_eq_false (show ¬ M 16 (12 * b + j) = r by omega), show z69 + 1 - fc = j - fc by omega]; rfl }⟩ (by omega)
        · refine V_aload_n (q := 54) dX3_takeFailure_53 rfl rfl rfl ?_
          refine V_getA (q := 57) 1 dX3_takeFailure_54 rfl flX3_19 (by decide) (congrArg Prod.fst (show _ = (4, 0) by rw [T.2.2.2.1.1])) rfl rfl (fun z54_2 ez54_2 rz54_2 => ?_)
          rw [T.2.2.2.1.2.2] at ez54_2
          obtain rfl : W = z54_2 := ez54_2.symm
          refine V_sipush (q := 60) dX3_takeFailure_57 rfl (by decide) ?_
          refine V_iload (q := 62) dX3_takeFailure_60 rfl rfl ?_
          refine V_iadd (q := 63) dX3_takeFailure_62 rfl (by omega) (fun z62_2 ez62_2 => ?_)
          refine V_chV (q := 66) (As := [(0, z62_2)]) (tX5_putOnTape T h0 h1) dX3_takeFailure_63 rfl mlX3_73 mw_X5_putOnTape im_X5_putOnTape sl_X5_putOnTape md_X5_putOnTape rfl (by decide) (by omega) (congrArg Prod.fst (show _ = (6, 0) by rw [T.2.1.1.1])) rfl rfl (by decide) (by decide) (Nat.le_of_ble_eq_true rfl) (Nat.le_of_ble_eq_true rfl) (Nat.le_of_ble_eq_true rfl) (fun A63_2 M63_2 xM63_2 hM63_2 => ?_)
          obtain ⟨hA, hM63_2⟩ := hM63_2
          replace hA := hA.symm
          subst hA
          obtain ⟨gM63_2, TM63_2⟩ := hM63_2
          refine V_bipush (q := 68) dX3_takeFailure_66 rfl (by decide) ?_
          have hx : z62_2 = 1000 + q.1 := by omega
          have hany : anC M (12 * b + fc) q.1 (i - fc).toNat = true := by { rw [← hr, hj3, anC_s _ _ _ (by omega), show 12 * b + fc + (j - fc) = 12 * b + j by omega]; first | (rw [decide_eq_true (show M 16 (12 * b + j) = -1 by omega)]; simp) | (rw [decide_eq_true (show M 16 (12 * b + j) = r by omega)]; simp) }
          have eth : tkE M b fc i q = (-6, onT (1000 + q.1) q.2) := by { unfold tkE; rw [if_neg (by omega), if_pos hany] }
          rw [eth]
          exact V_iret dX3_takeFailure_68 (Nat.le_of_ble_eq_true rfl) (Nat.le_of_ble_eq_true rfl) ⟨_, rfl, rfl, gM63_2, by { rw [← hx]; exact TM63_2 }, rfl⟩
  refine V_iload (q := 2) dX3_takeFailure_0 rfl rfl ?_
  refine V_bipush (q := 4) dX3_takeFailure_2 rfl (by decide) ?_
  refine V_icmp_eq (q := 7) (tgt := 14) dX3_takeFailure_4 (by decide) rfl (fun c4 => ?_) (fun c4 => ?_)
  · refine V_iload (q := 16) dX3_takeFailure_14 rfl rfl ?_
    have eth : tkE M b fc i q = q := by { unfold tkE; rw [if_pos (by omega)] }
    rw [eth]
    exact V_iret dX3_takeFailure_16 (Nat.le_of_ble_eq_true rfl) (Nat.le_of_ble_eq_true rfl) ⟨_, rfl, rfl, TWF.rf, T, hr⟩
  · refine V_iload (q := 9) dX3_takeFailure_7 rfl rfl ?_
    refine V_bipush (q := 11) dX3_takeFailure_9 rfl (by decide) ?_
    refine V_icmp_ne (q := 14) (tgt := 17) dX3_takeFailure_11 (by decide) rfl (fun c11 => ?_) (fun c11 => ?_)
    · refine V_iload_n (q := 18) dX3_takeFailure_17 rfl rfl rfl ?_
      refine V_iconst (q := 19) dX3_takeFailure_18 rfl (by decide) ?_
      refine V_isub (q := 20) dX3_takeFailure_19 rfl (by omega) (fun z19 ez19 => ?_)
      refine V_istore (q := 22) (lv1 := [(3, 150), (3, B), (0, fc), (0, i), (0, r), (0, z19), (9, 0)]) dX3_takeFailure_20 rfl (by decide) rfl rfl ?_
      exact loop (by omega) (by omega) z19 ⟨by omega, by omega, by rw [show z19 + 1 - fc = i - fc by omega]⟩
    · refine V_iload (q := 16) dX3_takeFailure_14 rfl rfl ?_
      have eth : tkE M b fc i q = q := by { unfold tkE; rw [if_pos (by omega)] }
      rw [eth]
      exact V_iret dX3_takeFailure_16 (Nat.le_of_ble_eq_true rfl) (Nat.le_of_ble_eq_true rfl) ⟨_, rfl, rfl, TWF.rf, T, hr⟩
