/-! THE CLASS: the calls that read of worlds -/
theorem tX6_state {Γ : GC} {α : Sh} {μ : Mem} {x t : Int} {M : Mem} (w : WFD M) (D : DesR M α μ) (B : BenR M α μ) (Wo : WosR M α μ)  : MT Γ yX6_state cX6_state 3 (some .int) 1 0 0 [(3, 100), (0, x), (0, t)] α μ (QI fun r α1 μ1 => α1 = α ∧ μ1 = μ ∧ r = stateR M x t) := by
  have hn := w.n
  have hw := w.w
  refine MT_of (k := 0) [(3, 100), (0, x), (0, t)] pn_X6_state rfl rfl (fun ad0 => ?_)
  refine V_aload_n (q := 1) dX6_state_0 rfl rfl rfl ?_
  refine V_iload_n (q := 2) dX6_state_1 rfl rfl rfl ?_
  refine V_rdV (q := 5) (As := [(0, x)]) (tX6_isWorld B.1.1.1) dX6_state_2 rfl mlX6_182 mw_X6_isWorld im_X6_isWorld sl_X6_isWorld md_X6_isWorld rfl (by decide) (by decide) (congrArg Prod.fst (show _ = (7, 0) by rw [B.1.1.1])) rfl rfl (by decide) (by decide) (Nat.le_of_ble_eq_true rfl) (Nat.le_of_ble_eq_true rfl) (Nat.le_of_ble_eq_true rfl) (fun z2 rz2 hz2 => ?_)
  obtain ⟨bz2, hz2⟩ := hz2
  rw [B.2] at hz2
  refine V_if_eq (q := 8) (tgt := 19) dX6_state_5 (by decide) rfl (fun c5 => ?_) (fun c5 => ?_)
  · refine V_iconst (q := 20) dX6_state_19 rfl (by decide) ?_
    first | (exfalso; omega) | exact V_iret dX6_state_20 (Nat.le_of_ble_eq_true rfl) (Nat.le_of_ble_eq_true rfl) ⟨_, rfl, rfl, rfl, by { unfold stateR isW isTy; (repeat' (first | rw [if_pos (by omega)] | rw [if_neg (by omega)])); try omega }⟩
  · refine V_aload_n (q := 9) dX6_state_8 rfl rfl rfl ?_
    refine V_getA (q := 12) 0 dX6_state_9 rfl flX6_10 (by decide) (congrArg Prod.fst (show _ = (7, 0) by rw [B.1.1.1])) rfl rfl (fun z9 ez9 rz9 => ?_)
    rw [B.1.2.1] at ez9
    obtain rfl : z9 = 110 := ez9
    refine V_iload_n (q := 13) dX6_state_12 rfl rfl rfl ?_
    refine V_rdV (q := 16) (As := [(0, t)]) (tX2_knows D.1.1.1) dX6_state_13 rfl mlX6_31 mw_X2_knows im_X2_knows sl_X2_knows md_X2_knows rfl (by decide) (by decide) (congrArg Prod.fst (show _ = (3, 0) by rw [D.1.1.1])) rfl rfl (by decide) (by decide) (Nat.le_of_ble_eq_true rfl) (Nat.le_of_ble_eq_true rfl) (Nat.le_of_ble_eq_true rfl) (fun z13 rz13 hz13 => ?_)
    obtain ⟨bz13, hz13⟩ := hz13
    rw [D.2.1] at hz13
    refine V_if_ne (q := 19) (tgt := 21) dX6_state_16 (by decide) rfl (fun c16 => ?_) (fun c16 => ?_)
    · obtain ⟨W, eW⟩ : ∃ W : Int, W = 200 + 10 * x := ⟨_, rfl⟩
      obtain ⟨kW, sW, cW, aW⟩ := Wo.at (w := x) (by omega) (by omega)
      rw [← eW] at kW sW cW aW
      refine V_aload_n (q := 22) dX6_state_21 rfl rfl rfl ?_
      refine V_getA (q := 25) 1 dX6_state_22 rfl flX6_18 (by decide) (congrArg Prod.fst (show _ = (7, 0) by rw [B.1.1.1])) rfl rfl (fun z22 ez22 rz22 => ?_)
      rw [B.1.2.2.1] at ez22
      obtain rfl : z22 = 101 := ez22
      refine V_iload_n (q := 26) dX6_state_25 rfl rfl rfl ?_
      refine V_aald (q := 27) (n := 12) (ta := 26) (ci := 5) dX6_state_26 rfl (by decide) (by rw [B.1.1.2]) rfl (by decide) (by omega) (fun z26 ez26 rz26 => ?_)
      rw [kW] at ez26
      obtain rfl : W = z26 := ez26.symm
      refine V_getA (q := 30) 0 dX6_state_27 rfl flX6_185 (by omega) (congrArg Prod.fst (show _ = (6, 0) by rw [sW.1.1])) rfl rfl (fun z27 ez27 rz27 => ?_)
      rw [sW.2.1] at ez27
      obtain rfl : z27 = (W + 1) := ez27
      refine V_iload_n (q := 31) dX6_state_30 rfl rfl rfl ?_
      refine V_iald (q := 32) (n := 40) dX6_state_31 rfl (by omega) (by rw [sW.1.2.1]) (by omega) (fun z31 ez31 rz31 => ?_)
      rw [cW.1 t (by omega) (by omega)] at ez31
      first | (exfalso; omega) | exact V_iret dX6_state_32 (Nat.le_of_ble_eq_true rfl) (Nat.le_of_ble_eq_true rfl) ⟨_, rfl, rfl, rfl, by { unfold stateR isW isTy; (repeat' (first | rw [if_pos (by omega)] | rw [if_neg (by omega)])); try omega }⟩
    · refine V_iconst (q := 20) dX6_state_19 rfl (by decide) ?_
      first | (exfalso; omega) | exact V_iret dX6_state_20 (Nat.le_of_ble_eq_true rfl) (Nat.le_of_ble_eq_true rfl) ⟨_, rfl, rfl, rfl, by { unfold stateR isW isTy; (repeat' (first | rw [if_pos (by omega)] | rw [if_neg (by omega)])); try omega }⟩
theorem tX6_began {Γ : GC} {α : Sh} {μ : Mem} {x i : Int} {M : Mem} (w : WFD M) (D : DesR M α μ) (B : BenR M α μ) (Wo : WosR M α μ) (ww : WFW M)  : MT Γ yX6_began cX6_began 4 (some .int) 1 0 0 [(3, 100), (0, x), (0, i)] α μ (QI fun r α1 μ1 => α1 = α ∧ μ1 = μ ∧ r = beganR M x i) := by
  have hn := w.n
  have hw := w.w
  refine MT_of (k := 1) [(3, 100), (0, x), (0, i), (9, 0)] pn_X6_began rfl rfl (fun ad0 => ?_)
  refine V_aload_n (q := 1) dX6_began_0 rfl rfl rfl ?_
  refine V_iload_n (q := 2) dX6_began_1 rfl rfl rfl ?_
  refine V_rdV (q := 5) (As := [(0, x)]) (tX6_isWorld B.1.1.1) dX6_began_2 rfl mlX6_182 mw_X6_isWorld im_X6_isWorld sl_X6_isWorld md_X6_isWorld rfl (by decide) (by decide) (congrArg Prod.fst (show _ = (7, 0) by rw [B.1.1.1])) rfl rfl (by decide) (by decide) (Nat.le_of_ble_eq_true rfl) (Nat.le_of_ble_eq_true rfl) (Nat.le_of_ble_eq_true rfl) (fun z2 rz2 hz2 => ?_)
  obtain ⟨bz2, hz2⟩ := hz2
  rw [B.2] at hz2
  refine V_if_ne (q := 8) (tgt := 10) dX6_began_5 (by decide) rfl (fun c5 => ?_) (fun c5 => ?_)
  · obtain ⟨W, eW⟩ : ∃ W : Int, W = 200 + 10 * x := ⟨_, rfl⟩
    obtain ⟨kW, sW, cW, aW⟩ := Wo.at (w := x) (by omega) (by omega)
    rw [← eW] at kW sW cW aW
    have hww := ww x (by omega) (by omega)
    refine V_aload_n (q := 11) dX6_began_10 rfl rfl rfl ?_
    refine V_getA (q := 14) 1 dX6_began_11 rfl flX6_18 (by decide) (congrArg Prod.fst (show _ = (7, 0) by rw [B.1.1.1])) rfl rfl (fun z11 ez11 rz11 => ?_)
    rw [B.1.2.2.1] at ez11
    obtain rfl : z11 = 101 := ez11
    refine V_iload_n (q := 15) dX6_began_14 rfl rfl rfl ?_
    refine V_aald (q := 16) (n := 12) (ta := 26) (ci := 5) dX6_began_15 rfl (by decide) (by rw [B.1.1.2]) rfl (by decide) (by omega) (fun z15 ez15 rz15 => ?_)
    rw [kW] at ez15
    obtain rfl : W = z15 := ez15.symm
    refine V_astore_n (q := 17) (lv1 := [(3, 100), (0, x), (0, i), (3, W)]) dX6_began_16 rfl rfl (by decide) rfl rfl ?_
    refine V_iload_n (q := 18) dX6_began_17 rfl rfl rfl ?_
    refine V_iconst (q := 19) dX6_began_18 rfl (by decide) ?_
    refine V_icmp_ne (q := 22) (tgt := 27) dX6_began_19 (by decide) rfl (fun c19 => ?_) (fun c19 => ?_)
    · refine V_iload_n (q := 28) dX6_began_27 rfl rfl rfl ?_
      refine V_if_lt (q := 31) (tgt := 48) dX6_began_28 (by decide) rfl (fun c28 => ?_) (fun c28 => ?_)
      · refine V_bipush (q := 50) dX6_began_48 rfl (by decide) ?_
        first | (exfalso; omega) | exact V_iret dX6_began_50 (Nat.le_of_ble_eq_true rfl) (Nat.le_of_ble_eq_true rfl) ⟨_, rfl, rfl, rfl, by { unfold beganR isW; (repeat' (first | rw [if_pos (by omega)] | rw [if_neg (by omega)])); try omega }⟩
      · refine V_iload_n (q := 32) dX6_began_31 rfl rfl rfl ?_
        refine V_aload_n (q := 33) dX6_began_32 rfl rfl rfl ?_
        refine V_getI (q := 36) 5 dX6_began_33 rfl flX6_188 (by omega) (congrArg Prod.fst (show _ = (6, 0) by rw [sW.1.1])) rfl rfl (fun z33 ez33 rz33 => ?_)
        rw [cW.2.2.2.1] at ez33
        refine V_icmp_ge (q := 39) (tgt := 48) dX6_began_36 (by decide) rfl (fun c36 => ?_) (fun c36 => ?_)
        · refine V_bipush (q := 50) dX6_began_48 rfl (by decide) ?_
          first | (exfalso; omega) | exact V_iret dX6_began_50 (Nat.le_of_ble_eq_true rfl) (Nat.le_of_ble_eq_true rfl) ⟨_, rfl, rfl, rfl, by { unfold beganR isW; (repeat' (first | rw [if_pos (by omega)] | rw [if_neg (by omega)])); try omega }⟩
        · refine V_aload_n (q := 40) dX6_began_39 rfl rfl rfl ?_
          refine V_getA (q := 43) 4 dX6_began_40 rfl flX6_191 (by omega) (congrArg Prod.fst (show _ = (6, 0) by rw [sW.1.1])) rfl rfl (fun z40 ez40 rz40 => ?_)
          rw [sW.2.2.2.2.1] at ez40
          obtain rfl : z40 = (W + 4) := ez40
          refine V_iload_n (q := 44) dX6_began_43 rfl rfl rfl ?_
          refine V_iald (q := 45) (n := 40) dX6_began_44 rfl (by omega) (by rw [sW.1.2.2.2.2.1]) (by omega) (fun z44 ez44 rz44 => ?_)
          rw [cW.2.2.2.2 i (by omega) (by omega)] at ez44
          refine V_goto (tgt := 50) dX6_began_45 (by decide) ?_
          first | (exfalso; omega) | exact V_iret dX6_began_50 (Nat.le_of_ble_eq_true rfl) (Nat.le_of_ble_eq_true rfl) ⟨_, rfl, rfl, rfl, by { unfold beganR isW; (repeat' (first | rw [if_pos (by omega)] | rw [if_neg (by omega)])); try omega }⟩
    · refine V_aload_n (q := 23) dX6_began_22 rfl rfl rfl ?_
      refine V_getI (q := 26) 5 dX6_began_23 rfl flX6_188 (by omega) (congrArg Prod.fst (show _ = (6, 0) by rw [sW.1.1])) rfl rfl (fun z23 ez23 rz23 => ?_)
      rw [cW.2.2.2.1] at ez23
      first | (exfalso; omega) | exact V_iret dX6_began_26 (Nat.le_of_ble_eq_true rfl) (Nat.le_of_ble_eq_true rfl) ⟨_, rfl, rfl, rfl, by { unfold beganR isW; (repeat' (first | rw [if_pos (by omega)] | rw [if_neg (by omega)])); try omega }⟩
  · refine V_iconst (q := 9) dX6_began_8 rfl (by decide) ?_
    first | (exfalso; omega) | exact V_iret dX6_began_9 (Nat.le_of_ble_eq_true rfl) (Nat.le_of_ble_eq_true rfl) ⟨_, rfl, rfl, rfl, by { unfold beganR isW; (repeat' (first | rw [if_pos (by omega)] | rw [if_neg (by omega)])); try omega }⟩
theorem tX6_tape {Γ : GC} {α : Sh} {μ : Mem} {x i : Int} {M : Mem} (w : WFD M) (D : DesR M α μ) (B : BenR M α μ) (Wo : WosR M α μ)  : MT Γ yX6_tape cX6_tape 4 (some .int) 1 0 0 [(3, 100), (0, x), (0, i)] α μ (QI fun r α1 μ1 => α1 = α ∧ μ1 = μ ∧ r = tapeR M x i) := by
  have hn := w.n
  have hw := w.w
  refine MT_of (k := 1) [(3, 100), (0, x), (0, i), (9, 0)] pn_X6_tape rfl rfl (fun ad0 => ?_)
  refine V_aload_n (q := 1) dX6_tape_0 rfl rfl rfl ?_
  refine V_iload_n (q := 2) dX6_tape_1 rfl rfl rfl ?_
  refine V_rdV (q := 5) (As := [(0, x)]) (tX6_isWorld B.1.1.1) dX6_tape_2 rfl mlX6_182 mw_X6_isWorld im_X6_isWorld sl_X6_isWorld md_X6_isWorld rfl (by decide) (by decide) (congrArg Prod.fst (show _ = (7, 0) by rw [B.1.1.1])) rfl rfl (by decide) (by decide) (Nat.le_of_ble_eq_true rfl) (Nat.le_of_ble_eq_true rfl) (Nat.le_of_ble_eq_true rfl) (fun z2 rz2 hz2 => ?_)
  obtain ⟨bz2, hz2⟩ := hz2
  rw [B.2] at hz2
  refine V_if_ne (q := 8) (tgt := 10) dX6_tape_5 (by decide) rfl (fun c5 => ?_) (fun c5 => ?_)
  · obtain ⟨W, eW⟩ : ∃ W : Int, W = 200 + 10 * x := ⟨_, rfl⟩
    obtain ⟨kW, sW, cW, aW⟩ := Wo.at (w := x) (by omega) (by omega)
    rw [← eW] at kW sW cW aW
    refine V_aload_n (q := 11) dX6_tape_10 rfl rfl rfl ?_
    refine V_getA (q := 14) 1 dX6_tape_11 rfl flX6_18 (by decide) (congrArg Prod.fst (show _ = (7, 0) by rw [B.1.1.1])) rfl rfl (fun z11 ez11 rz11 => ?_)
    rw [B.1.2.2.1] at ez11
    obtain rfl : z11 = 101 := ez11
    refine V_iload_n (q := 15) dX6_tape_14 rfl rfl rfl ?_
    refine V_aald (q := 16) (n := 12) (ta := 26) (ci := 5) dX6_tape_15 rfl (by decide) (by rw [B.1.1.2]) rfl (by decide) (by omega) (fun z15 ez15 rz15 => ?_)
    rw [kW] at ez15
    obtain rfl : W = z15 := ez15.symm
    refine V_astore_n (q := 17) (lv1 := [(3, 100), (0, x), (0, i), (3, W)]) dX6_tape_16 rfl rfl (by decide) rfl rfl ?_
    refine V_iload_n (q := 18) dX6_tape_17 rfl rfl rfl ?_
    refine V_iconst (q := 19) dX6_tape_18 rfl (by decide) ?_
    refine V_icmp_ne (q := 22) (tgt := 27) dX6_tape_19 (by decide) rfl (fun c19 => ?_) (fun c19 => ?_)
    · refine V_iload_n (q := 28) dX6_tape_27 rfl rfl rfl ?_
      refine V_if_lt (q := 31) (tgt := 55) dX6_tape_28 (by decide) rfl (fun c28 => ?_) (fun c28 => ?_)
      · refine V_iconst (q := 56) dX6_tape_55 rfl (by decide) ?_
        first | (exfalso; omega) | exact V_iret dX6_tape_56 (Nat.le_of_ble_eq_true rfl) (Nat.le_of_ble_eq_true rfl) ⟨_, rfl, rfl, rfl, by { unfold tapeR isW; (repeat' (first | rw [if_pos (by omega)] | rw [if_neg (by omega)])); try omega }⟩
      · refine V_iload_n (q := 32) dX6_tape_31 rfl rfl rfl ?_
        refine V_aload_n (q := 33) dX6_tape_32 rfl rfl rfl ?_
        refine V_getI (q := 36) 3 dX6_tape_33 rfl flX6_194 (by omega) (congrArg Prod.fst (show _ = (6, 0) by rw [sW.1.1])) rfl rfl (fun z33 ez33 rz33 => ?_)
        rw [cW.2.2.1.1] at ez33
        refine V_icmp_ge (q := 39) (tgt := 55) dX6_tape_36 (by decide) rfl (fun c36 => ?_) (fun c36 => ?_)
        · refine V_iconst (q := 56) dX6_tape_55 rfl (by decide) ?_
          first | (exfalso; omega) | exact V_iret dX6_tape_56 (Nat.le_of_ble_eq_true rfl) (Nat.le_of_ble_eq_true rfl) ⟨_, rfl, rfl, rfl, by { unfold tapeR isW; (repeat' (first | rw [if_pos (by omega)] | rw [if_neg (by omega)])); try omega }⟩
        · refine V_iload_n (q := 40) dX6_tape_39 rfl rfl rfl ?_
          refine V_sipush (q := 43) dX6_tape_40 rfl (by decide) ?_
          refine V_icmp_ge (q := 46) (tgt := 55) dX6_tape_43 (by decide) rfl (fun c43 => ?_) (fun c43 => ?_)
          · refine V_iconst (q := 56) dX6_tape_55 rfl (by decide) ?_
            first | (exfalso; omega) | exact V_iret dX6_tape_56 (Nat.le_of_ble_eq_true rfl) (Nat.le_of_ble_eq_true rfl) ⟨_, rfl, rfl, rfl, by { unfold tapeR isW; (repeat' (first | rw [if_pos (by omega)] | rw [if_neg (by omega)])); try omega }⟩
          · refine V_aload_n (q := 47) dX6_tape_46 rfl rfl rfl ?_
            refine V_getA (q := 50) 2 dX6_tape_47 rfl flX6_197 (by omega) (congrArg Prod.fst (show _ = (6, 0) by rw [sW.1.1])) rfl rfl (fun z47 ez47 rz47 => ?_)
            rw [sW.2.2.2.1] at ez47
            obtain rfl : z47 = (W + 3) := ez47
            refine V_iload_n (q := 51) dX6_tape_50 rfl rfl rfl ?_
            refine V_iald (q := 52) (n := 300) dX6_tape_51 rfl (by omega) (by rw [sW.1.2.2.2.1]) (by omega) (fun z51 ez51 rz51 => ?_)
            rw [cW.2.2.1.2 i (by omega) (by omega) (by omega)] at ez51
            refine V_goto (tgt := 56) dX6_tape_52 (by decide) ?_
            first | (exfalso; omega) | exact V_iret dX6_tape_56 (Nat.le_of_ble_eq_true rfl) (Nat.le_of_ble_eq_true rfl) ⟨_, rfl, rfl, rfl, by { unfold tapeR isW; (repeat' (first | rw [if_pos (by omega)] | rw [if_neg (by omega)])); try omega }⟩
    · refine V_aload_n (q := 23) dX6_tape_22 rfl rfl rfl ?_
      refine V_getI (q := 26) 3 dX6_tape_23 rfl flX6_194 (by omega) (congrArg Prod.fst (show _ = (6, 0) by rw [sW.1.1])) rfl rfl (fun z23 ez23 rz23 => ?_)
      rw [cW.2.2.1.1] at ez23
      first | (exfalso; omega) | exact V_iret dX6_tape_26 (Nat.le_of_ble_eq_true rfl) (Nat.le_of_ble_eq_true rfl) ⟨_, rfl, rfl, rfl, by { unfold tapeR isW; (repeat' (first | rw [if_pos (by omega)] | rw [if_neg (by omega)])); try omega }⟩
  · refine V_iconst (q := 9) dX6_tape_8 rfl (by decide) ?_
    first | (exfalso; omega) | exact V_iret dX6_tape_9 (Nat.le_of_ble_eq_true rfl) (Nat.le_of_ble_eq_true rfl) ⟨_, rfl, rfl, rfl, by { unfold tapeR isW; (repeat' (first | rw [if_pos (by omega)] | rw [if_neg (by omega)])); try omega }⟩
theorem tX6_failed {Γ : GC} {α : Sh} {μ : Mem} {x i : Int} {M : Mem} (w : WFD M) (D : DesR M α μ) (B : BenR M α μ) (Wo : WosR M α μ)  : MT Γ yX6_failed cX6_failed 3 (some .int) 1 0 0 [(3, 100), (0, x), (0, i)] α μ (QI fun r α1 μ1 => α1 = α ∧ μ1 = μ ∧ r = failedR M x i) := by
  have hn := w.n
  have hw := w.w
  refine MT_of (k := 0) [(3, 100), (0, x), (0, i)] pn_X6_failed rfl rfl (fun ad0 => ?_)
  refine V_aload_n (q := 1) dX6_failed_0 rfl rfl rfl ?_
  refine V_iload_n (q := 2) dX6_failed_1 rfl rfl rfl ?_
  refine V_rdV (q := 5) (As := [(0, x)]) (tX6_isWorld B.1.1.1) dX6_failed_2 rfl mlX6_182 mw_X6_isWorld im_X6_isWorld sl_X6_isWorld md_X6_isWorld rfl (by decide) (by decide) (congrArg Prod.fst (show _ = (7, 0) by rw [B.1.1.1])) rfl rfl (by decide) (by decide) (Nat.le_of_ble_eq_true rfl) (Nat.le_of_ble_eq_true rfl) (Nat.le_of_ble_eq_true rfl) (fun z2 rz2 hz2 => ?_)
  obtain ⟨bz2, hz2⟩ := hz2
  rw [B.2] at hz2
  refine V_if_ne (q := 8) (tgt := 10) dX6_failed_5 (by decide) rfl (fun c5 => ?_) (fun c5 => ?_)
  · obtain ⟨W, eW⟩ : ∃ W : Int, W = 200 + 10 * x := ⟨_, rfl⟩
    obtain ⟨kW, sW, cW, aW⟩ := Wo.at (w := x) (by omega) (by omega)
    rw [← eW] at kW sW cW aW
    refine V_iload_n (q := 11) dX6_failed_10 rfl rfl rfl ?_
    refine V_if_lt (q := 14) (tgt := 19) dX6_failed_11 (by decide) rfl (fun c11 => ?_) (fun c11 => ?_)
    · refine V_bipush (q := 21) dX6_failed_19 rfl (by decide) ?_
      first | (exfalso; omega) | exact V_iret dX6_failed_21 (Nat.le_of_ble_eq_true rfl) (Nat.le_of_ble_eq_true rfl) ⟨_, rfl, rfl, rfl, by { unfold failedR isW; (repeat' (first | rw [if_pos (by omega)] | rw [if_neg (by omega)])); try omega }⟩
    · refine V_iload_n (q := 15) dX6_failed_14 rfl rfl rfl ?_
      refine V_iconst (q := 16) dX6_failed_15 rfl (by decide) ?_
      refine V_icmp_le (q := 19) (tgt := 22) dX6_failed_16 (by decide) rfl (fun c16 => ?_) (fun c16 => ?_)
      · refine V_iload_n (q := 23) dX6_failed_22 rfl rfl rfl ?_
        refine V_if_ne (q := 26) (tgt := 38) dX6_failed_23 (by decide) rfl (fun c23 => ?_) (fun c23 => ?_)
        · refine V_aload_n (q := 39) dX6_failed_38 rfl rfl rfl ?_
          refine V_getA (q := 42) 1 dX6_failed_39 rfl flX6_18 (by decide) (congrArg Prod.fst (show _ = (7, 0) by rw [B.1.1.1])) rfl rfl (fun z39 ez39 rz39 => ?_)
          rw [B.1.2.2.1] at ez39
          obtain rfl : z39 = 101 := ez39
          refine V_iload_n (q := 43) dX6_failed_42 rfl rfl rfl ?_
          refine V_aald (q := 44) (n := 12) (ta := 26) (ci := 5) dX6_failed_43 rfl (by decide) (by rw [B.1.1.2]) rfl (by decide) (by omega) (fun z43 ez43 rz43 => ?_)
          rw [kW] at ez43
          obtain rfl : W = z43 := ez43.symm
          refine V_getI (q := 47) 7 dX6_failed_44 rfl flX6_207 (by omega) (congrArg Prod.fst (show _ = (6, 0) by rw [sW.1.1])) rfl rfl (fun z44 ez44 rz44 => ?_)
          rw [aW.2.1] at ez44
          first | (exfalso; omega) | exact V_iret dX6_failed_47 (Nat.le_of_ble_eq_true rfl) (Nat.le_of_ble_eq_true rfl) ⟨_, rfl, rfl, rfl, by { unfold failedR isW; (repeat' (first | rw [if_pos (by omega)] | rw [if_neg (by omega)])); try omega }⟩
        · refine V_aload_n (q := 27) dX6_failed_26 rfl rfl rfl ?_
          refine V_getA (q := 30) 1 dX6_failed_27 rfl flX6_18 (by decide) (congrArg Prod.fst (show _ = (7, 0) by rw [B.1.1.1])) rfl rfl (fun z27 ez27 rz27 => ?_)
          rw [B.1.2.2.1] at ez27
          obtain rfl : z27 = 101 := ez27
          refine V_iload_n (q := 31) dX6_failed_30 rfl rfl rfl ?_
          refine V_aald (q := 32) (n := 12) (ta := 26) (ci := 5) dX6_failed_31 rfl (by decide) (by rw [B.1.1.2]) rfl (by decide) (by omega) (fun z31 ez31 rz31 => ?_)
          rw [kW] at ez31
          obtain rfl : W = z31 := ez31.symm
          refine V_getI (q := 35) 6 dX6_failed_32 rfl flX6_204 (by omega) (congrArg Prod.fst (show _ = (6, 0) by rw [sW.1.1])) rfl rfl (fun z32 ez32 rz32 => ?_)
          rw [aW.1] at ez32
          refine V_goto (tgt := 47) dX6_failed_35 (by decide) ?_
          first | (exfalso; omega) | exact V_iret dX6_failed_47 (Nat.le_of_ble_eq_true rfl) (Nat.le_of_ble_eq_true rfl) ⟨_, rfl, rfl, rfl, by { unfold failedR isW; (repeat' (first | rw [if_pos (by omega)] | rw [if_neg (by omega)])); try omega }⟩
      · refine V_bipush (q := 21) dX6_failed_19 rfl (by decide) ?_
        first | (exfalso; omega) | exact V_iret dX6_failed_21 (Nat.le_of_ble_eq_true rfl) (Nat.le_of_ble_eq_true rfl) ⟨_, rfl, rfl, rfl, by { unfold failedR isW; (repeat' (first | rw [if_pos (by omega)] | rw [if_neg (by omega)])); try omega }⟩
  · refine V_iconst (q := 9) dX6_failed_8 rfl (by decide) ?_
    first | (exfalso; omega) | exact V_iret dX6_failed_9 (Nat.le_of_ble_eq_true rfl) (Nat.le_of_ble_eq_true rfl) ⟨_, rfl, rfl, rfl, by { unfold failedR isW; (repeat' (first | rw [if_pos (by omega)] | rw [if_neg (by omega)])); try omega }⟩
theorem tX6_spent {Γ : GC} {α : Sh} {μ : Mem} {x i : Int} {M : Mem} (w : WFD M) (D : DesR M α μ) (B : BenR M α μ) (Wo : WosR M α μ)  : MT Γ yX6_spent cX6_spent 3 (some .int) 1 0 0 [(3, 100), (0, x), (0, i)] α μ (QI fun r α1 μ1 => α1 = α ∧ μ1 = μ ∧ (i ≠ 2 → r = spentR M x i)) := by
  have hn := w.n
  have hw := w.w
  refine MT_of (k := 0) [(3, 100), (0, x), (0, i)] pn_X6_spent rfl rfl (fun ad0 => ?_)
  refine V_aload_n (q := 1) dX6_spent_0 rfl rfl rfl ?_
  refine V_iload_n (q := 2) dX6_spent_1 rfl rfl rfl ?_
  refine V_rdV (q := 5) (As := [(0, x)]) (tX6_isWorld B.1.1.1) dX6_spent_2 rfl mlX6_182 mw_X6_isWorld im_X6_isWorld sl_X6_isWorld md_X6_isWorld rfl (by decide) (by decide) (congrArg Prod.fst (show _ = (7, 0) by rw [B.1.1.1])) rfl rfl (by decide) (by decide) (Nat.le_of_ble_eq_true rfl) (Nat.le_of_ble_eq_true rfl) (Nat.le_of_ble_eq_true rfl) (fun z2 rz2 hz2 => ?_)
  obtain ⟨bz2, hz2⟩ := hz2
  rw [B.2] at hz2
  refine V_if_ne (q := 8) (tgt := 10) dX6_spent_5 (by decide) rfl (fun c5 => ?_) (fun c5 => ?_)
  · obtain ⟨W, eW⟩ : ∃ W : Int, W = 200 + 10 * x := ⟨_, rfl⟩
    obtain ⟨kW, sW, cW, aW⟩ := Wo.at (w := x) (by omega) (by omega)
    rw [← eW] at kW sW cW aW
    refine V_iload_n (q := 11) dX6_spent_10 rfl rfl rfl ?_
    refine V_if_lt (q := 14) (tgt := 19) dX6_spent_11 (by decide) rfl (fun c11 => ?_) (fun c11 => ?_)
    · refine V_bipush (q := 21) dX6_spent_19 rfl (by decide) ?_
      refine V_goto (tgt := 35) dX6_spent_21 (by decide) ?_
      first | (exfalso; omega) | exact V_iret dX6_spent_35 (Nat.le_of_ble_eq_true rfl) (Nat.le_of_ble_eq_true rfl) ⟨_, rfl, rfl, rfl, fun h2 => by { unfold spentR isW; (repeat' (first | rw [if_pos (by omega)] | rw [if_neg (by omega)])) }⟩
    · refine V_iload_n (q := 15) dX6_spent_14 rfl rfl rfl ?_
      refine V_iconst (q := 16) dX6_spent_15 rfl (by decide) ?_
      refine V_icmp_le (q := 19) (tgt := 24) dX6_spent_16 (by decide) rfl (fun c16 => ?_) (fun c16 => ?_)
      · refine V_aload_n (q := 25) dX6_spent_24 rfl rfl rfl ?_
        refine V_getA (q := 28) 1 dX6_spent_25 rfl flX6_18 (by decide) (congrArg Prod.fst (show _ = (7, 0) by rw [B.1.1.1])) rfl rfl (fun z25 ez25 rz25 => ?_)
        rw [B.1.2.2.1] at ez25
        obtain rfl : z25 = 101 := ez25
        refine V_iload_n (q := 29) dX6_spent_28 rfl rfl rfl ?_
        refine V_aald (q := 30) (n := 12) (ta := 26) (ci := 5) dX6_spent_29 rfl (by decide) (by rw [B.1.1.2]) rfl (by decide) (by omega) (fun z29 ez29 rz29 => ?_)
        rw [kW] at ez29
        obtain rfl : W = z29 := ez29.symm
        refine V_getA (q := 33) 8 dX6_spent_30 rfl flX6_210 (by omega) (congrArg Prod.fst (show _ = (6, 0) by rw [sW.1.1])) rfl rfl (fun z30 ez30 rz30 => ?_)
        rw [sW.2.2.2.2.2] at ez30
        obtain rfl : z30 = (W + 5) := ez30
        refine V_iload_n (q := 34) dX6_spent_33 rfl rfl rfl ?_
        refine V_iald (q := 35) (n := 4) dX6_spent_34 rfl (by omega) (by rw [sW.1.2.2.2.2.2]) (by omega) (fun z34 ez34 rz34 => ?_)
        first | (exfalso; omega) | exact V_iret dX6_spent_35 (Nat.le_of_ble_eq_true rfl) (Nat.le_of_ble_eq_true rfl) ⟨_, rfl, rfl, rfl, fun h2 => by { unfold spentR isW; (repeat' (first | rw [if_pos (by omega)] | rw [if_neg (by omega)])); first | omega | (rcases (show i = 0 ∨ i = 1 ∨ i = 3 by omega) with h9 | h9 | h9 <;> subst h9; · { rw [Int.add_zero]; exact ez34.trans aW.2.2.1 }; · { exact ez34.trans aW.2.2.2.1 }; · { exact ez34.trans aW.2.2.2.2.2 }) }⟩
      · refine V_bipush (q := 21) dX6_spent_19 rfl (by decide) ?_
        refine V_goto (tgt := 35) dX6_spent_21 (by decide) ?_
        first | (exfalso; omega) | exact V_iret dX6_spent_35 (Nat.le_of_ble_eq_true rfl) (Nat.le_of_ble_eq_true rfl) ⟨_, rfl, rfl, rfl, fun h2 => by { unfold spentR isW; (repeat' (first | rw [if_pos (by omega)] | rw [if_neg (by omega)])) }⟩
  · refine V_iconst (q := 9) dX6_spent_8 rfl (by decide) ?_
    first | (exfalso; omega) | exact V_iret dX6_spent_9 (Nat.le_of_ble_eq_true rfl) (Nat.le_of_ble_eq_true rfl) ⟨_, rfl, rfl, rfl, fun h2 => by { unfold spentR isW; (repeat' (first | rw [if_pos (by omega)] | rw [if_neg (by omega)])) }⟩
theorem tX6_many {Γ : GC} {α : Sh} {μ : Mem} {x st : Int} {M : Mem} (w : WFD M) (D : DesR M α μ) (B : BenR M α μ) (Wo : WosR M α μ)  : MT Γ yX6_many cX6_many 5 (some .int) 1 0 0 [(3, 100), (0, x), (0, st)] α μ (QI fun r α1 μ1 => α1 = α ∧ μ1 = μ ∧ r = manyR M x st) := by
  have hn := w.n
  have hw := w.w
  refine MT_of (k := 2) [(3, 100), (0, x), (0, st), (9, 0), (9, 0)] pn_X6_many rfl rfl (fun ad0 => ?_)
  have loop : isW M x → (0 ≤ st ∧ st ≤ 3) → ∀ (c k : Int), (0 ≤ k ∧ k ≤ M 0 0 ∧ c = cntV (M 28) (40 * x) st k.toNat) → V Γ α ad0 (ZM Γ α ad0 (QI fun r α1 μ1 => α1 = α ∧ μ1 = μ ∧ r = manyR M x st) 0 0) (RM 1 0 0) RX6 cX6_many 5 (some .int) yX6_many.name 27 [] [(3, 100), (0, x), (0, st), (0, c), (0, k)] α μ 0 0 := by
    intro hx hst
    unfold isW at hx
    refine loop2 _ (fun _ k => (M 0 0 - k).toNat) _ ?_
    rintro c k ⟨h1, h2, h5⟩ ih
    have hcl := cntV_le (M 28) (40 * x) st k.toNat
    obtain ⟨W, eW⟩ : ∃ W : Int, W = 200 + 10 * x := ⟨_, rfl⟩
    obtain ⟨kW, sW, cW, aW⟩ := Wo.at (w := x) (by omega) (by omega)
    rw [← eW] at kW sW cW aW
    refine V_iload (q := 29) dX6_many_27 rfl rfl ?_
    refine V_aload_n (q := 30) dX6_many_29 rfl rfl rfl ?_
    refine V_getA (q := 33) 0 dX6_many_30 rfl flX6_10 (by decide) (congrArg Prod.fst (show _ = (7, 0) by rw [B.1.1.1])) rfl rfl (fun z30 ez30 rz30 => ?_)
    rw [B.1.2.1] at ez30
    obtain rfl : z30 = 110 := ez30
    refine V_getI (q := 36) 1 dX6_many_33 rfl flX6_49 (by decide) (congrArg Prod.fst (show _ = (3, 0) by rw [D.1.1.1])) rfl rfl (fun z33 ez33 rz33 => ?_)
    rw [D.2.1] at ez33
    refine V_icmp_ge (q := 39) (tgt := 64) dX6_many_36 (by decide) rfl (fun c36 => ?_) (fun c36 => ?_)
    · refine V_iload_n (q := 65) dX6_many_64 rfl rfl rfl ?_
      exact V_iret dX6_many_65 (Nat.le_of_ble_eq_true rfl) (Nat.le_of_ble_eq_true rfl) ⟨_, rfl, rfl, rfl, by { unfold manyR isW; rw [if_neg (by omega), if_neg (by omega), show (M 0 0).toNat = k.toNat by omega]; exact h5 }⟩
    · refine V_aload_n (q := 40) dX6_many_39 rfl rfl rfl ?_
      refine V_getA (q := 43) 1 dX6_many_40 rfl flX6_18 (by decide) (congrArg Prod.fst (show _ = (7, 0) by rw [B.1.1.1])) rfl rfl (fun z40 ez40 rz40 => ?_)
      rw [B.1.2.2.1] at ez40
      obtain rfl : z40 = 101 := ez40
      refine V_iload_n (q := 44) dX6_many_43 rfl rfl rfl ?_
      refine V_aald (q := 45) (n := 12) (ta := 26) (ci := 5) dX6_many_44 rfl (by decide) (by rw [B.1.1.2]) rfl (by decide) (by omega) (fun z44 ez44 rz44 => ?_)
      rw [kW] at ez44
      obtain rfl : W = z44 := ez44.symm
      refine V_getA (q := 48) 0 dX6_many_45 rfl flX6_185 (by omega) (congrArg Prod.fst (show _ = (6, 0) by rw [sW.1.1])) rfl rfl (fun z45 ez45 rz45 => ?_)
      rw [sW.2.1] at ez45
      obtain rfl : z45 = (W + 1) := ez45
      refine V_iload (q := 50) dX6_many_48 rfl rfl ?_
      refine V_iald (q := 51) (n := 40) dX6_many_50 rfl (by omega) (by rw [sW.1.2.1]) (by omega) (fun z50 ez50 rz50 => ?_)
      rw [cW.1 k (by omega) (by omega)] at ez50
      refine V_iload_n (q := 52) dX6_many_51 rfl rfl rfl ?_
      refine V_icmp_ne (q := 55) (tgt := 58) dX6_many_52 (by decide) rfl (fun c52 => ?_) (fun c52 => ?_)
      · refine V_iinc (q := 61) dX6_many_58 rfl rfl (by decide) rfl (by omega) (fun z58 lz58 ez58 hlz58 => ?_)
        obtain rfl : lz58 = [(3, 100), (0, x), (0, st), (0, c), (0, z58)] := hlz58
        refine V_goto (tgt := 27) dX6_many_61 (by decide) ?_
        exact ih c z58 ⟨by omega, by omega, by { rw [ez58, cntV_s _ _ _ h1, if_neg (by omega)]; omega }⟩ (by omega)
      · refine V_iinc (q := 58) dX6_many_55 rfl rfl (by decide) rfl (by omega) (fun z55 lz55 ez55 hlz55 => ?_)
        obtain rfl : lz55 = [(3, 100), (0, x), (0, st), (0, z55), (0, k)] := hlz55
        refine V_iinc (q := 61) dX6_many_58 rfl rfl (by decide) rfl (by omega) (fun z58_2 lz58_2 ez58_2 hlz58_2 => ?_)
        obtain rfl : lz58_2 = [(3, 100), (0, x), (0, st), (0, z55), (0, z58_2)] := hlz58_2
        refine V_goto (tgt := 27) dX6_many_61 (by decide) ?_
        exact ih z55 z58_2 ⟨by omega, by omega, by { rw [ez58_2, cntV_s _ _ _ h1, if_pos (by omega)]; omega }⟩ (by omega)
  refine V_aload_n (q := 1) dX6_many_0 rfl rfl rfl ?_
  refine V_iload_n (q := 2) dX6_many_1 rfl rfl rfl ?_
  refine V_rdV (q := 5) (As := [(0, x)]) (tX6_isWorld B.1.1.1) dX6_many_2 rfl mlX6_182 mw_X6_isWorld im_X6_isWorld sl_X6_isWorld md_X6_isWorld rfl (by decide) (by decide) (congrArg Prod.fst (show _ = (7, 0) by rw [B.1.1.1])) rfl rfl (by decide) (by decide) (Nat.le_of_ble_eq_true rfl) (Nat.le_of_ble_eq_true rfl) (Nat.le_of_ble_eq_true rfl) (fun z2 rz2 hz2 => ?_)
  obtain ⟨bz2, hz2⟩ := hz2
  rw [B.2] at hz2
  refine V_if_ne (q := 8) (tgt := 10) dX6_many_5 (by decide) rfl (fun c5 => ?_) (fun c5 => ?_)
  · refine V_iload_n (q := 11) dX6_many_10 rfl rfl rfl ?_
    refine V_if_lt (q := 14) (tgt := 19) dX6_many_11 (by decide) rfl (fun c11 => ?_) (fun c11 => ?_)
    · refine V_bipush (q := 21) dX6_many_19 rfl (by decide) ?_
      first | (exfalso; omega) | exact V_iret dX6_many_21 (Nat.le_of_ble_eq_true rfl) (Nat.le_of_ble_eq_true rfl) ⟨_, rfl, rfl, rfl, by { unfold manyR isW; (repeat' (first | rw [if_pos (by omega)] | rw [if_neg (by omega)])) }⟩
    · refine V_iload_n (q := 15) dX6_many_14 rfl rfl rfl ?_
      refine V_iconst (q := 16) dX6_many_15 rfl (by decide) ?_
      refine V_icmp_le (q := 19) (tgt := 22) dX6_many_16 (by decide) rfl (fun c16 => ?_) (fun c16 => ?_)
      · refine V_iconst (q := 23) dX6_many_22 rfl (by decide) ?_
        refine V_istore_n (q := 24) (lv1 := [(3, 100), (0, x), (0, st), (0, 0), (9, 0)]) dX6_many_23 rfl rfl (by decide) rfl rfl ?_
        refine V_iconst (q := 25) dX6_many_24 rfl (by decide) ?_
        refine V_istore (q := 27) (lv1 := [(3, 100), (0, x), (0, st), (0, 0), (0, 0)]) dX6_many_25 rfl (by decide) rfl rfl ?_
        exact loop (by unfold isW; omega) (by omega) 0 0 ⟨by decide, hn.1, rfl⟩
      · refine V_bipush (q := 21) dX6_many_19 rfl (by decide) ?_
        first | (exfalso; omega) | exact V_iret dX6_many_21 (Nat.le_of_ble_eq_true rfl) (Nat.le_of_ble_eq_true rfl) ⟨_, rfl, rfl, rfl, by { unfold manyR isW; (repeat' (first | rw [if_pos (by omega)] | rw [if_neg (by omega)])) }⟩
  · refine V_iconst (q := 9) dX6_many_8 rfl (by decide) ?_
    first | (exfalso; omega) | exact V_iret dX6_many_9 (Nat.le_of_ble_eq_true rfl) (Nat.le_of_ble_eq_true rfl) ⟨_, rfl, rfl, rfl, by { unfold manyR isW; (repeat' (first | rw [if_pos (by omega)] | rw [if_neg (by omega)])) }⟩
theorem tX2_valueOf {Γ : GC} {α : Sh} {μ : Mem} {x W u nm : Int} {M : Mem} (w : WFD M) (D : DesR M α μ) (sW : WoS W α μ) (cW : WrC M x W μ) (hW0 : 0 ≤ W) (hu : 0 ≤ u ∧ u < M 0 0) (hm : 0 ≤ nm ∧ nm ≤ 9) (ho : 0 ≤ oF M u nm) : MT Γ yX2_valueOf cX2_valueOf 5 (some .int) 0 0 0 [(3, 110), (3, W), (0, u), (0, nm)] α μ (QI fun r α1 μ1 => α1 = α ∧ μ1 = μ ∧ r = (if M 8 (6 * u + oF M u nm) = 1 then M 9 (6 * u + oF M u nm) else M 29 (240 * x + (6 * u + oF M u nm)))) := by
  have hn := w.n
  obtain ⟨T, hT⟩ : ∃ T : Int, T = tk u := ⟨_, rfl⟩
  obtain ⟨kT, yT⟩ := D.2.2.1 u hu.1 hu.2
  rw [← hT] at kT
  unfold TypR at yT
  rw [← hT] at yT
  replace hT : T = 1000 * (u + 1) := hT
  have hfk := yT.2.2.2.1 nm hm.1 hm.2
  unfold fK at hfk
  rw [if_neg (show ¬ oF M u nm < 0 by omega)] at hfk
  refine MT_of (k := 1) [(3, 110), (3, W), (0, u), (0, nm), (9, 0)] pn_X2_valueOf rfl rfl (fun ad0 => ?_)
  refine V_aload_n (q := 1) dX2_valueOf_0 rfl rfl rfl ?_
  refine V_getA (q := 4) 0 dX2_valueOf_1 rfl flX2_11 (by decide) (congrArg Prod.fst (show _ = (3, 0) by rw [D.1.1.1])) rfl rfl (fun z1 ez1 rz1 => ?_)
  rw [D.1.2.1] at ez1
  obtain rfl : z1 = 111 := ez1
  refine V_iload_n (q := 5) dX2_valueOf_4 rfl rfl rfl ?_
  refine V_aald (q := 6) (n := 40) (ta := 23) (ci := 4) dX2_valueOf_5 rfl (by decide) (by rw [D.1.1.2.1]) rfl (by decide) (by omega) (fun z5 ez5 rz5 => ?_)
  rw [kT] at ez5
  obtain rfl : T = z5 := ez5.symm
  refine V_astore (q := 8) (lv1 := [(3, 110), (3, W), (0, u), (0, nm), (3, T)]) dX2_valueOf_6 rfl (by decide) rfl rfl ?_
  refine V_aload (q := 10) dX2_valueOf_8 rfl rfl ?_
  refine V_getA (q := 13) 6 dX2_valueOf_10 rfl flX2_62 (by omega) (congrArg Prod.fst (show _ = (5, 0) by rw [yT.1.1.1])) rfl rfl (fun z10 ez10 rz10 => ?_)
  rw [yT.1.2.2.1] at ez10
  obtain rfl : z10 = (T + 2) := ez10
  refine V_iload_n (q := 14) dX2_valueOf_13 rfl rfl rfl ?_
  refine V_iald (q := 15) (n := 10) dX2_valueOf_14 rfl (by omega) (by rw [yT.1.1.2.2.1]) (by omega) (fun z14 ez14 rz14 => ?_)
  rw [hfk.1] at ez14
  refine V_iconst (q := 16) dX2_valueOf_15 rfl (by decide) ?_
  have ezk := ez14
  refine V_icmp_ne (q := 19) (tgt := 29) dX2_valueOf_16 (by decide) rfl (fun c16 => ?_) (fun c16 => ?_)
  · refine V_aload_n (q := 30) dX2_valueOf_29 rfl rfl rfl ?_
    refine V_getA (q := 33) 1 dX2_valueOf_30 rfl flX2_72 (by omega) (congrArg Prod.fst (show _ = (6, 0) by rw [sW.1.1])) rfl rfl (fun z30 ez30 rz30 => ?_)
    rw [sW.2.2.1] at ez30
    obtain rfl : z30 = (W + 2) := ez30
    refine V_iload_n (q := 34) dX2_valueOf_33 rfl rfl rfl ?_
    refine V_bipush (q := 36) dX2_valueOf_34 rfl (by decide) ?_
    refine V_imul (q := 37) dX2_valueOf_36 rfl (by omega) (fun z36 ez36 => ?_)
    refine V_iload_n (q := 38) dX2_valueOf_37 rfl rfl rfl ?_
    refine V_iadd (q := 39) dX2_valueOf_38 rfl (by omega) (fun z38 ez38 => ?_)
    refine V_iald (q := 40) (n := 400) dX2_valueOf_39 rfl (by omega) (by rw [sW.1.2.2.1]) (by omega) (fun z39 ez39 rz39 => ?_)
    exact V_iret dX2_valueOf_40 (Nat.le_of_ble_eq_true rfl) (Nat.le_of_ble_eq_true rfl) ⟨_, rfl, rfl, rfl, by { have hv := cW.2.1 u nm hu.1 hu.2 hm.1 hm.2; rw [if_pos ho] at hv; rw [if_neg (by { split at ezk; · { omega }; · { assumption } })]; rw [ez39, ← hv]; congr 1; omega }⟩
  · refine V_aload (q := 21) dX2_valueOf_19 rfl rfl ?_
    refine V_getA (q := 24) 7 dX2_valueOf_21 rfl flX2_69 (by omega) (congrArg Prod.fst (show _ = (5, 0) by rw [yT.1.1.1])) rfl rfl (fun z21 ez21 rz21 => ?_)
    rw [yT.1.2.2.2.1] at ez21
    obtain rfl : z21 = (T + 3) := ez21
    refine V_iload_n (q := 25) dX2_valueOf_24 rfl rfl rfl ?_
    refine V_iald (q := 26) (n := 10) dX2_valueOf_25 rfl (by omega) (by rw [yT.1.1.2.2.2.1]) (by omega) (fun z25 ez25 rz25 => ?_)
    rw [hfk.2 ho] at ez25
    refine V_goto (tgt := 40) dX2_valueOf_26 (by decide) ?_
    exact V_iret dX2_valueOf_40 (Nat.le_of_ble_eq_true rfl) (Nat.le_of_ble_eq_true rfl) ⟨_, rfl, rfl, rfl, by { rw [if_pos (by { split at ezk; · { assumption }; · { omega } })]; exact ez25 }⟩
theorem tX6_value {Γ : GC} {α : Sh} {μ : Mem} {x t nm : Int} {M : Mem} (w : WFD M) (D : DesR M α μ) (B : BenR M α μ) (Wo : WosR M α μ) (ww : WFW M)  : MT Γ yX6_value cX6_value 5 (some .int) 42 0 0 [(3, 100), (0, x), (0, t), (0, nm)] α μ (QI fun r α1 μ1 => α1 = α ∧ SFm μ μ1 ∧ DesR M α μ1 ∧ r = valueR M x t nm) := by
  have hn := w.n
  have hw := w.w
  refine MT_of (k := 1) [(3, 100), (0, x), (0, t), (0, nm), (9, 0)] pn_X6_value rfl rfl (fun ad0 => ?_)
  refine V_aload_n (q := 1) dX6_value_0 rfl rfl rfl ?_
  refine V_iload_n (q := 2) dX6_value_1 rfl rfl rfl ?_
  refine V_rdV (q := 5) (As := [(0, x)]) (tX6_isWorld B.1.1.1) dX6_value_2 rfl mlX6_182 mw_X6_isWorld im_X6_isWorld sl_X6_isWorld md_X6_isWorld rfl (by decide) (by decide) (congrArg Prod.fst (show _ = (7, 0) by rw [B.1.1.1])) rfl rfl (by decide) (by decide) (Nat.le_of_ble_eq_true rfl) (Nat.le_of_ble_eq_true rfl) (Nat.le_of_ble_eq_true rfl) (fun z2 rz2 hz2 => ?_)
  obtain ⟨bz2, hz2⟩ := hz2
  rw [B.2] at hz2
  refine V_if_eq (q := 8) (tgt := 26) dX6_value_5 (by decide) rfl (fun c5 => ?_) (fun c5 => ?_)
  · refine V_iconst (q := 27) dX6_value_26 rfl (by decide) ?_
    exact V_iret dX6_value_27 (Nat.le_of_ble_eq_true rfl) (Nat.le_of_ble_eq_true rfl) ⟨_, rfl, rfl, SFm.rf, D, by { unfold valueR isW isTy; rw [if_pos (by omega)] }⟩
  · refine V_aload_n (q := 9) dX6_value_8 rfl rfl rfl ?_
    refine V_getA (q := 12) 0 dX6_value_9 rfl flX6_10 (by decide) (congrArg Prod.fst (show _ = (7, 0) by rw [B.1.1.1])) rfl rfl (fun z9 ez9 rz9 => ?_)
    rw [B.1.2.1] at ez9
    obtain rfl : z9 = 110 := ez9
    refine V_iload_n (q := 13) dX6_value_12 rfl rfl rfl ?_
    refine V_rdV (q := 16) (As := [(0, t)]) (tX2_knows D.1.1.1) dX6_value_13 rfl mlX6_31 mw_X2_knows im_X2_knows sl_X2_knows md_X2_knows rfl (by decide) (by decide) (congrArg Prod.fst (show _ = (3, 0) by rw [D.1.1.1])) rfl rfl (by decide) (by decide) (Nat.le_of_ble_eq_true rfl) (Nat.le_of_ble_eq_true rfl) (Nat.le_of_ble_eq_true rfl) (fun z13 rz13 hz13 => ?_)
    obtain ⟨bz13, hz13⟩ := hz13
    rw [D.2.1] at hz13
    refine V_if_eq (q := 19) (tgt := 26) dX6_value_16 (by decide) rfl (fun c16 => ?_) (fun c16 => ?_)
    · refine V_iconst (q := 27) dX6_value_26 rfl (by decide) ?_
      exact V_iret dX6_value_27 (Nat.le_of_ble_eq_true rfl) (Nat.le_of_ble_eq_true rfl) ⟨_, rfl, rfl, SFm.rf, D, by { unfold valueR isW isTy; rw [if_pos (by omega)] }⟩
    · refine V_iload_n (q := 20) dX6_value_19 rfl rfl rfl ?_
      refine V_rdS (q := 23) (As := [(0, nm)]) (tX6_isName ) dX6_value_20 rfl mlX6_102 mw_X6_isName sm_X6_isName md_X6_isName rfl rfl (by decide) (by decide) (Nat.le_of_ble_eq_true rfl) (Nat.le_of_ble_eq_true rfl) (Nat.le_of_ble_eq_true rfl) (fun z20 rz20 hz20 => ?_)
      obtain ⟨bz20, hz20⟩ := hz20
      refine V_if_ne (q := 26) (tgt := 28) dX6_value_23 (by decide) rfl (fun c23 => ?_) (fun c23 => ?_)
      · obtain ⟨W, eW⟩ : ∃ W : Int, W = 200 + 10 * x := ⟨_, rfl⟩
        obtain ⟨kW, sW, cW, aW⟩ := Wo.at (w := x) (by omega) (by omega)
        rw [← eW] at kW sW cW aW
        refine V_aload_n (q := 29) dX6_value_28 rfl rfl rfl ?_
        refine V_getA (q := 32) 0 dX6_value_29 rfl flX6_10 (by decide) (congrArg Prod.fst (show _ = (7, 0) by rw [B.1.1.1])) rfl rfl (fun z29 ez29 rz29 => ?_)
        rw [B.1.2.1] at ez29
        obtain rfl : z29 = 110 := ez29
        refine V_iload_n (q := 33) dX6_value_32 rfl rfl rfl ?_
        refine V_iload_n (q := 34) dX6_value_33 rfl rfl rfl ?_
        refine V_chVi (q := 37) (As := [(0, t), (0, nm)]) (tX2_fieldOwner w D (by omega) (by omega)) dX6_value_34 rfl mlX6_141 mw_X2_fieldOwner im_X2_fieldOwner sl_X2_fieldOwner md_X2_fieldOwner rfl (by decide) (by decide) (congrArg Prod.fst (show _ = (3, 0) by rw [D.1.1.1])) rfl rfl (by decide) (by decide) (Nat.le_of_ble_eq_true rfl) (Nat.le_of_ble_eq_true rfl) (Nat.le_of_ble_eq_true rfl) (fun z34 rz34 A34 M34 xM34 hM34 => ?_)
        obtain ⟨hA, fM34, DM34, hz34⟩ := hM34
        replace hA := hA.symm
        subst hA
        have hM : ∀ t : Int, t ≠ 112 → M34 t = μ t := fun t ht => funext fun k => fM34 t k ht
        refine V_istore (q := 39) (lv1 := [(3, 100), (0, x), (0, t), (0, nm), (0, z34)]) dX6_value_37 rfl (by decide) rfl rfl ?_
        refine V_iload (q := 41) dX6_value_39 rfl rfl ?_
        refine V_bipush (q := 43) dX6_value_41 rfl (by decide) ?_
        refine V_icmp_ne (q := 46) (tgt := 50) dX6_value_43 (by decide) rfl (fun c43 => ?_) (fun c43 => ?_)
        · refine V_aload_n (q := 51) dX6_value_50 rfl rfl rfl ?_
          refine V_getA (q := 54) 0 dX6_value_51 rfl flX6_10 (by decide) (congrArg Prod.fst (show _ = (7, 0) by rw [B.1.1.1])) rfl rfl (fun z51 ez51 rz51 => ?_)
          rw [fM34 100 0 (by omega), B.1.2.1] at ez51
          obtain rfl : z51 = 110 := ez51
          refine V_aload_n (q := 55) dX6_value_54 rfl rfl rfl ?_
          refine V_getA (q := 58) 1 dX6_value_55 rfl flX6_18 (by decide) (congrArg Prod.fst (show _ = (7, 0) by rw [B.1.1.1])) rfl rfl (fun z55 ez55 rz55 => ?_)
          rw [fM34 100 1 (by omega), B.1.2.2.1] at ez55
          obtain rfl : z55 = 101 := ez55
          refine V_iload_n (q := 59) dX6_value_58 rfl rfl rfl ?_
          refine V_aald (q := 60) (n := 12) (ta := 26) (ci := 5) dX6_value_59 rfl (by decide) (by rw [B.1.1.2]) rfl (by decide) (by omega) (fun z59 ez59 rz59 => ?_)
          rw [fM34 101 x (by omega), kW] at ez59
          obtain rfl : W = z59 := ez59.symm
          refine V_iload (q := 62) dX6_value_60 rfl rfl ?_
          refine V_iload_n (q := 63) dX6_value_62 rfl rfl rfl ?_
          have hfo : 0 ≤ z34 ∧ z34 < M 0 0 ∧ 0 ≤ oF M z34 nm ∧ FF M nm t = 6 * z34 + oF M z34 nm := by { rw [hz34]; rcases FO_rng (nm := nm) w (show 0 ≤ t by omega) (show t < M 0 0 by omega) with q | q; · { omega }; · { exact q } }
          refine V_rdV (q := 66) (As := [(3, W), (0, z34), (0, nm)]) (tX2_valueOf (x := x) w DM34 (WoS_c (fun t a b => ⟨rfl, hM t (by omega)⟩) sW) (WrC_c (fun t a b => hM t (by omega)) rfl (fun _ _ _ _ => rfl) (fun _ _ _ => rfl) (fun _ _ _ => rfl) rfl (fun _ _ _ => rfl) rfl (fun _ _ _ => rfl) w (ww x (by omega) (by omega)).2.2 cW) (by omega) ⟨hfo.1, hfo.2.1⟩ (by omega) hfo.2.2.1) dX6_value_63 rfl mlX6_200 mw_X2_valueOf im_X2_valueOf sl_X2_valueOf md_X2_valueOf rfl (by decide) (by decide) (congrArg Prod.fst (show _ = (3, 0) by rw [D.1.1.1])) rfl rfl (by decide) (by decide) (Nat.le_of_ble_eq_true rfl) (Nat.le_of_ble_eq_true rfl) (Nat.le_of_ble_eq_true rfl) (fun z63 rz63 hz63 => ?_)
          exact V_iret dX6_value_66 (Nat.le_of_ble_eq_true rfl) (Nat.le_of_ble_eq_true rfl) ⟨_, rfl, rfl, fM34, DM34, by { unfold valueR isW isTy; rw [if_neg (by omega), if_neg (by omega), hfo.2.2.2]; exact hz63 }⟩
        · refine V_iconst (q := 47) dX6_value_46 rfl (by decide) ?_
          refine V_goto (tgt := 66) dX6_value_47 (by decide) ?_
          have hff := (FO_m6 (nm := nm) w (show 0 ≤ t by omega) (show t < M 0 0 by omega)).mp (by omega)
          exact V_iret dX6_value_66 (Nat.le_of_ble_eq_true rfl) (Nat.le_of_ble_eq_true rfl) ⟨_, rfl, rfl, fM34, DM34, by { unfold valueR isW isTy; rw [if_neg (by omega), if_pos hff] }⟩
      · refine V_iconst (q := 27) dX6_value_26 rfl (by decide) ?_
        exact V_iret dX6_value_27 (Nat.le_of_ble_eq_true rfl) (Nat.le_of_ble_eq_true rfl) ⟨_, rfl, rfl, SFm.rf, D, by { unfold valueR isW isTy; rw [if_pos (by omega)] }⟩
