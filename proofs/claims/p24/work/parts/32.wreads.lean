theorem tX7_state {Γ : GC} {αC : Sh} {C M : Mem} {x t : Int} (w : WFD M) : MM Γ yX7_state cX7_state 3 (some .int) 2 [(0, x), (0, t)] αC C M (mI fun r M1 => M1 = M ∧ r = stateR M x t) := by
  have hn0 := w.n
  have hw0 := w.w
  refine MM_of (k := 0) [(3, 0), (0, x), (0, t)] pn_X7_state rfl rfl rfl (fun ad0 => ?_)
  refine V_aload_n (q := 1) dX7_state_0 rfl rfl rfl ?_
  refine V_iload_n (q := 2) dX7_state_1 rfl rfl rfl ?_
  refine VM_callI (q := 5) (As := [(0, x)]) (tX7_isWorld (C := C) (M := M) hw0.1) dX7_state_2 rfl mlX7_280 mw_X7_isWorld im_X7_isWorld sl_X7_isWorld md_X7_isWorld rfl rfl rfl (by decide) (by decide) (Nat.le_refl _) (Nat.le_refl _) (Nat.le_of_ble_eq_true rfl) (fun z2 M2 rz2 hz2 => ?_)
  obtain ⟨hm, bz2, hz2⟩ := hz2
  replace hm := hm.symm
  subst hm
  refine V_if_eq (q := 8) (tgt := 30) dX7_state_5 (by decide) rfl (fun c5 => ?_) (fun c5 => ?_)
  · refine V_iconst (q := 31) dX7_state_30 rfl (by decide) ?_
    first | (exfalso; omega) | exact VM_iret dX7_state_31 ⟨_, rfl, rfl, by { unfold stateR; (repeat' (first | rw [if_pos (by omega)] | rw [if_neg (by omega)])); try omega }⟩
  · refine V_aload_n (q := 9) dX7_state_8 rfl rfl rfl ?_
    refine V_iload_n (q := 10) dX7_state_9 rfl rfl rfl ?_
    refine VM_callI (q := 13) (As := [(0, t)]) (tX7_isType (C := C) (M := M) hn0.1) dX7_state_10 rfl mlX7_136 mw_X7_isType im_X7_isType sl_X7_isType md_X7_isType rfl rfl rfl (by decide) (by decide) (Nat.le_refl _) (Nat.le_refl _) (Nat.le_of_ble_eq_true rfl) (fun z10 M10 rz10 hz10 => ?_)
    obtain ⟨hm, bz10, hz10⟩ := hz10
    replace hm := hm.symm
    subst hm
    refine V_if_eq (q := 16) (tgt := 30) dX7_state_13 (by decide) rfl (fun c13 => ?_) (fun c13 => ?_)
    · refine V_iconst (q := 31) dX7_state_30 rfl (by decide) ?_
      first | (exfalso; omega) | exact VM_iret dX7_state_31 ⟨_, rfl, rfl, by { unfold stateR; (repeat' (first | rw [if_pos (by omega)] | rw [if_neg (by omega)])); try omega }⟩
    · refine V_aload_n (q := 17) dX7_state_16 rfl rfl rfl ?_
      refine VM_getA (q := 20) 29 dX7_state_17 rfl flX7_83 rfl rfl (Nat.succ_ne_zero _) ?_
      refine V_bipush (q := 22) dX7_state_20 rfl (by decide) ?_
      refine V_iload_n (q := 23) dX7_state_22 rfl rfl rfl ?_
      refine V_imul (q := 24) dX7_state_23 rfl (by omega) (fun z23 ez23 => ?_)
      refine V_iload_n (q := 25) dX7_state_24 rfl rfl rfl ?_
      refine V_iadd (q := 26) dX7_state_25 rfl (by omega) (fun z25 ez25 => ?_)
      refine VM_iald (q := 27) 28 dX7_state_26 rfl rfl (by decide) rfl rfl (by omega) (fun z26 ez26 rz26 => ?_)
      rw [show z25 = 40 * x + t by omega] at ez26
      refine V_goto (tgt := 31) dX7_state_27 (by decide) ?_
      first | (exfalso; omega) | exact VM_iret dX7_state_31 ⟨_, rfl, rfl, by { unfold stateR; (repeat' (first | rw [if_pos (by omega)] | rw [if_neg (by omega)])); try omega }⟩
theorem tX7_began {Γ : GC} {αC : Sh} {C M : Mem} {x i : Int} (w : WFD M) (ww : WFW M) : MM Γ yX7_began cX7_began 3 (some .int) 2 [(0, x), (0, i)] αC C M (mI fun r M1 => M1 = M ∧ r = beganR M x i) := by
  have hn0 := w.n
  have hw0 := w.w
  refine MM_of (k := 0) [(3, 0), (0, x), (0, i)] pn_X7_began rfl rfl rfl (fun ad0 => ?_)
  refine V_aload_n (q := 1) dX7_began_0 rfl rfl rfl ?_
  refine V_iload_n (q := 2) dX7_began_1 rfl rfl rfl ?_
  refine VM_callI (q := 5) (As := [(0, x)]) (tX7_isWorld (C := C) (M := M) hw0.1) dX7_began_2 rfl mlX7_280 mw_X7_isWorld im_X7_isWorld sl_X7_isWorld md_X7_isWorld rfl rfl rfl (by decide) (by decide) (Nat.le_refl _) (Nat.le_refl _) (Nat.le_of_ble_eq_true rfl) (fun z2 M2 rz2 hz2 => ?_)
  obtain ⟨hm, bz2, hz2⟩ := hz2
  replace hm := hm.symm
  subst hm
  refine V_if_ne (q := 8) (tgt := 12) dX7_began_5 (by decide) rfl (fun c5 => ?_) (fun c5 => ?_)
  · have hww := ww x (by omega) (by omega)
    refine V_iload_n (q := 13) dX7_began_12 rfl rfl rfl ?_
    refine V_iconst (q := 14) dX7_began_13 rfl (by decide) ?_
    refine V_icmp_ne (q := 17) (tgt := 26) dX7_began_14 (by decide) rfl (fun c14 => ?_) (fun c14 => ?_)
    · refine V_iload_n (q := 27) dX7_began_26 rfl rfl rfl ?_
      refine V_iconst (q := 28) dX7_began_27 rfl (by decide) ?_
      refine V_aload_n (q := 29) dX7_began_28 rfl rfl rfl ?_
      refine VM_getA (q := 32) 33 dX7_began_29 rfl flX7_95 rfl rfl (Nat.succ_ne_zero _) ?_
      refine V_iload_n (q := 33) dX7_began_32 rfl rfl rfl ?_
      refine VM_iald (q := 34) 32 dX7_began_33 rfl rfl (by decide) rfl rfl (by omega) (fun z33 ez33 rz33 => ?_)
      refine V_iconst (q := 35) dX7_began_34 rfl (by decide) ?_
      refine V_isub (q := 36) dX7_began_35 rfl (by omega) (fun z35 ez35 => ?_)
      refine V_in (q := 39) dX7_began_36 rfl mlX7_132 (by decide) (by decide) (Nat.le_refl _) (Nat.le_refl _) (Nat.le_of_ble_eq_true rfl) (fun z36 rz36 ez36 => ?_)
      refine V_if_eq (q := 42) (tgt := 56) dX7_began_39 (by decide) rfl (fun c39 => ?_) (fun c39 => ?_)
      · refine V_bipush (q := 58) dX7_began_56 rfl (by decide) ?_
        first | (exfalso; omega) | exact VM_iret dX7_began_58 ⟨_, rfl, rfl, by { unfold beganR; (repeat' (first | rw [if_pos (by omega)] | rw [if_neg (by omega)])); try omega }⟩
      · refine V_aload_n (q := 43) dX7_began_42 rfl rfl rfl ?_
        refine VM_getA (q := 46) 34 dX7_began_43 rfl flX7_98 rfl rfl (Nat.succ_ne_zero _) ?_
        refine V_bipush (q := 48) dX7_began_46 rfl (by decide) ?_
        refine V_iload_n (q := 49) dX7_began_48 rfl rfl rfl ?_
        refine V_imul (q := 50) dX7_began_49 rfl (by omega) (fun z49 ez49 => ?_)
        refine V_iload_n (q := 51) dX7_began_50 rfl rfl rfl ?_
        refine V_iadd (q := 52) dX7_began_51 rfl (by omega) (fun z51 ez51 => ?_)
        refine VM_iald (q := 53) 33 dX7_began_52 rfl rfl (by decide) rfl rfl (by omega) (fun z52 ez52 rz52 => ?_)
        rw [show z51 = 40 * x + i by omega] at ez52
        refine V_goto (tgt := 58) dX7_began_53 (by decide) ?_
        first | (exfalso; omega) | exact VM_iret dX7_began_58 ⟨_, rfl, rfl, by { unfold beganR; (repeat' (first | rw [if_pos (by omega)] | rw [if_neg (by omega)])); try omega }⟩
    · refine V_aload_n (q := 18) dX7_began_17 rfl rfl rfl ?_
      refine VM_getA (q := 21) 33 dX7_began_18 rfl flX7_95 rfl rfl (Nat.succ_ne_zero _) ?_
      refine V_iload_n (q := 22) dX7_began_21 rfl rfl rfl ?_
      refine VM_iald (q := 23) 32 dX7_began_22 rfl rfl (by decide) rfl rfl (by omega) (fun z22 ez22 rz22 => ?_)
      refine V_goto (tgt := 58) dX7_began_23 (by decide) ?_
      first | (exfalso; omega) | exact VM_iret dX7_began_58 ⟨_, rfl, rfl, by { unfold beganR; (repeat' (first | rw [if_pos (by omega)] | rw [if_neg (by omega)])); try omega }⟩
  · refine V_iconst (q := 9) dX7_began_8 rfl (by decide) ?_
    refine V_goto (tgt := 58) dX7_began_9 (by decide) ?_
    first | (exfalso; omega) | exact VM_iret dX7_began_58 ⟨_, rfl, rfl, by { unfold beganR; (repeat' (first | rw [if_pos (by omega)] | rw [if_neg (by omega)])); try omega }⟩
theorem tX7_tape {Γ : GC} {αC : Sh} {C M : Mem} {x i : Int} (w : WFD M) (ww : WFW M) : MM Γ yX7_tape cX7_tape 3 (some .int) 2 [(0, x), (0, i)] αC C M (mI fun r M1 => M1 = M ∧ r = tapeR M x i) := by
  have hn0 := w.n
  have hw0 := w.w
  refine MM_of (k := 0) [(3, 0), (0, x), (0, i)] pn_X7_tape rfl rfl rfl (fun ad0 => ?_)
  refine V_aload_n (q := 1) dX7_tape_0 rfl rfl rfl ?_
  refine V_iload_n (q := 2) dX7_tape_1 rfl rfl rfl ?_
  refine VM_callI (q := 5) (As := [(0, x)]) (tX7_isWorld (C := C) (M := M) hw0.1) dX7_tape_2 rfl mlX7_280 mw_X7_isWorld im_X7_isWorld sl_X7_isWorld md_X7_isWorld rfl rfl rfl (by decide) (by decide) (Nat.le_refl _) (Nat.le_refl _) (Nat.le_of_ble_eq_true rfl) (fun z2 M2 rz2 hz2 => ?_)
  obtain ⟨hm, bz2, hz2⟩ := hz2
  replace hm := hm.symm
  subst hm
  refine V_if_ne (q := 8) (tgt := 12) dX7_tape_5 (by decide) rfl (fun c5 => ?_) (fun c5 => ?_)
  · have hww := ww x (by omega) (by omega)
    refine V_iload_n (q := 13) dX7_tape_12 rfl rfl rfl ?_
    refine V_iconst (q := 14) dX7_tape_13 rfl (by decide) ?_
    refine V_icmp_ne (q := 17) (tgt := 26) dX7_tape_14 (by decide) rfl (fun c14 => ?_) (fun c14 => ?_)
    · refine V_iload_n (q := 27) dX7_tape_26 rfl rfl rfl ?_
      refine V_iconst (q := 28) dX7_tape_27 rfl (by decide) ?_
      refine V_aload_n (q := 29) dX7_tape_28 rfl rfl rfl ?_
      refine VM_getA (q := 32) 31 dX7_tape_29 rfl flX7_89 rfl rfl (Nat.succ_ne_zero _) ?_
      refine V_iload_n (q := 33) dX7_tape_32 rfl rfl rfl ?_
      refine VM_iald (q := 34) 30 dX7_tape_33 rfl rfl (by decide) rfl rfl (by omega) (fun z33 ez33 rz33 => ?_)
      refine V_iconst (q := 35) dX7_tape_34 rfl (by decide) ?_
      refine V_isub (q := 36) dX7_tape_35 rfl (by omega) (fun z35 ez35 => ?_)
      refine V_in (q := 39) dX7_tape_36 rfl mlX7_132 (by decide) (by decide) (Nat.le_refl _) (Nat.le_refl _) (Nat.le_of_ble_eq_true rfl) (fun z36 rz36 ez36 => ?_)
      refine V_if_eq (q := 42) (tgt := 64) dX7_tape_39 (by decide) rfl (fun c39 => ?_) (fun c39 => ?_)
      · refine V_iconst (q := 65) dX7_tape_64 rfl (by decide) ?_
        first | (exfalso; omega) | exact VM_iret dX7_tape_65 ⟨_, rfl, rfl, by { unfold tapeR; (repeat' (first | rw [if_pos (by omega)] | rw [if_neg (by omega)])); try omega }⟩
      · refine V_iload_n (q := 43) dX7_tape_42 rfl rfl rfl ?_
        refine V_sipush (q := 46) dX7_tape_43 rfl (by decide) ?_
        refine V_icmp_ge (q := 49) (tgt := 64) dX7_tape_46 (by decide) rfl (fun c46 => ?_) (fun c46 => ?_)
        · refine V_iconst (q := 65) dX7_tape_64 rfl (by decide) ?_
          first | (exfalso; omega) | exact VM_iret dX7_tape_65 ⟨_, rfl, rfl, by { unfold tapeR; (repeat' (first | rw [if_pos (by omega)] | rw [if_neg (by omega)])); try omega }⟩
        · refine V_aload_n (q := 50) dX7_tape_49 rfl rfl rfl ?_
          refine VM_getA (q := 53) 32 dX7_tape_50 rfl flX7_92 rfl rfl (Nat.succ_ne_zero _) ?_
          refine V_sipush (q := 56) dX7_tape_53 rfl (by decide) ?_
          refine V_iload_n (q := 57) dX7_tape_56 rfl rfl rfl ?_
          refine V_imul (q := 58) dX7_tape_57 rfl (by omega) (fun z57 ez57 => ?_)
          refine V_iload_n (q := 59) dX7_tape_58 rfl rfl rfl ?_
          refine V_iadd (q := 60) dX7_tape_59 rfl (by omega) (fun z59 ez59 => ?_)
          refine VM_iald (q := 61) 31 dX7_tape_60 rfl rfl (by decide) rfl rfl (by omega) (fun z60 ez60 rz60 => ?_)
          rw [show z59 = 300 * x + i by omega] at ez60
          refine V_goto (tgt := 65) dX7_tape_61 (by decide) ?_
          first | (exfalso; omega) | exact VM_iret dX7_tape_65 ⟨_, rfl, rfl, by { unfold tapeR; (repeat' (first | rw [if_pos (by omega)] | rw [if_neg (by omega)])); try omega }⟩
    · refine V_aload_n (q := 18) dX7_tape_17 rfl rfl rfl ?_
      refine VM_getA (q := 21) 31 dX7_tape_18 rfl flX7_89 rfl rfl (Nat.succ_ne_zero _) ?_
      refine V_iload_n (q := 22) dX7_tape_21 rfl rfl rfl ?_
      refine VM_iald (q := 23) 30 dX7_tape_22 rfl rfl (by decide) rfl rfl (by omega) (fun z22 ez22 rz22 => ?_)
      refine V_goto (tgt := 65) dX7_tape_23 (by decide) ?_
      first | (exfalso; omega) | exact VM_iret dX7_tape_65 ⟨_, rfl, rfl, by { unfold tapeR; (repeat' (first | rw [if_pos (by omega)] | rw [if_neg (by omega)])); try omega }⟩
  · refine V_iconst (q := 9) dX7_tape_8 rfl (by decide) ?_
    refine V_goto (tgt := 65) dX7_tape_9 (by decide) ?_
    first | (exfalso; omega) | exact VM_iret dX7_tape_65 ⟨_, rfl, rfl, by { unfold tapeR; (repeat' (first | rw [if_pos (by omega)] | rw [if_neg (by omega)])); try omega }⟩
theorem tX7_failed {Γ : GC} {αC : Sh} {C M : Mem} {x i : Int} (w : WFD M) : MM Γ yX7_failed cX7_failed 3 (some .int) 2 [(0, x), (0, i)] αC C M (mI fun r M1 => M1 = M ∧ r = failedR M x i) := by
  have hn0 := w.n
  have hw0 := w.w
  refine MM_of (k := 0) [(3, 0), (0, x), (0, i)] pn_X7_failed rfl rfl rfl (fun ad0 => ?_)
  refine V_aload_n (q := 1) dX7_failed_0 rfl rfl rfl ?_
  refine V_iload_n (q := 2) dX7_failed_1 rfl rfl rfl ?_
  refine VM_callI (q := 5) (As := [(0, x)]) (tX7_isWorld (C := C) (M := M) hw0.1) dX7_failed_2 rfl mlX7_280 mw_X7_isWorld im_X7_isWorld sl_X7_isWorld md_X7_isWorld rfl rfl rfl (by decide) (by decide) (Nat.le_refl _) (Nat.le_refl _) (Nat.le_of_ble_eq_true rfl) (fun z2 M2 rz2 hz2 => ?_)
  obtain ⟨hm, bz2, hz2⟩ := hz2
  replace hm := hm.symm
  subst hm
  refine V_if_ne (q := 8) (tgt := 12) dX7_failed_5 (by decide) rfl (fun c5 => ?_) (fun c5 => ?_)
  · refine V_iload_n (q := 13) dX7_failed_12 rfl rfl rfl ?_
    refine V_if_ne (q := 16) (tgt := 25) dX7_failed_13 (by decide) rfl (fun c13 => ?_) (fun c13 => ?_)
    · refine V_iload_n (q := 26) dX7_failed_25 rfl rfl rfl ?_
      refine V_iconst (q := 27) dX7_failed_26 rfl (by decide) ?_
      refine V_icmp_ne (q := 30) (tgt := 39) dX7_failed_27 (by decide) rfl (fun c27 => ?_) (fun c27 => ?_)
      · refine V_bipush (q := 41) dX7_failed_39 rfl (by decide) ?_
        first | (exfalso; omega) | exact VM_iret dX7_failed_41 ⟨_, rfl, rfl, by { unfold failedR; (repeat' (first | rw [if_pos (by omega)] | rw [if_neg (by omega)])); try omega }⟩
      · refine V_aload_n (q := 31) dX7_failed_30 rfl rfl rfl ?_
        refine VM_getA (q := 34) 36 dX7_failed_31 rfl flX7_104 rfl rfl (Nat.succ_ne_zero _) ?_
        refine V_iload_n (q := 35) dX7_failed_34 rfl rfl rfl ?_
        refine VM_iald (q := 36) 35 dX7_failed_35 rfl rfl (by decide) rfl rfl (by omega) (fun z35 ez35 rz35 => ?_)
        refine V_goto (tgt := 41) dX7_failed_36 (by decide) ?_
        first | (exfalso; omega) | exact VM_iret dX7_failed_41 ⟨_, rfl, rfl, by { unfold failedR; (repeat' (first | rw [if_pos (by omega)] | rw [if_neg (by omega)])); try omega }⟩
    · refine V_aload_n (q := 17) dX7_failed_16 rfl rfl rfl ?_
      refine VM_getA (q := 20) 35 dX7_failed_17 rfl flX7_101 rfl rfl (Nat.succ_ne_zero _) ?_
      refine V_iload_n (q := 21) dX7_failed_20 rfl rfl rfl ?_
      refine VM_iald (q := 22) 34 dX7_failed_21 rfl rfl (by decide) rfl rfl (by omega) (fun z21 ez21 rz21 => ?_)
      refine V_goto (tgt := 41) dX7_failed_22 (by decide) ?_
      first | (exfalso; omega) | exact VM_iret dX7_failed_41 ⟨_, rfl, rfl, by { unfold failedR; (repeat' (first | rw [if_pos (by omega)] | rw [if_neg (by omega)])); try omega }⟩
  · refine V_iconst (q := 9) dX7_failed_8 rfl (by decide) ?_
    refine V_goto (tgt := 41) dX7_failed_9 (by decide) ?_
    first | (exfalso; omega) | exact VM_iret dX7_failed_41 ⟨_, rfl, rfl, by { unfold failedR; (repeat' (first | rw [if_pos (by omega)] | rw [if_neg (by omega)])); try omega }⟩
theorem tX7_spent {Γ : GC} {αC : Sh} {C M : Mem} {x i : Int} (w : WFD M) : MM Γ yX7_spent cX7_spent 3 (some .int) 2 [(0, x), (0, i)] αC C M (mI fun r M1 => M1 = M ∧ r = spentR M x i) := by
  have hn0 := w.n
  have hw0 := w.w
  refine MM_of (k := 0) [(3, 0), (0, x), (0, i)] pn_X7_spent rfl rfl rfl (fun ad0 => ?_)
  refine V_aload_n (q := 1) dX7_spent_0 rfl rfl rfl ?_
  refine V_iload_n (q := 2) dX7_spent_1 rfl rfl rfl ?_
  refine VM_callI (q := 5) (As := [(0, x)]) (tX7_isWorld (C := C) (M := M) hw0.1) dX7_spent_2 rfl mlX7_280 mw_X7_isWorld im_X7_isWorld sl_X7_isWorld md_X7_isWorld rfl rfl rfl (by decide) (by decide) (Nat.le_refl _) (Nat.le_refl _) (Nat.le_of_ble_eq_true rfl) (fun z2 M2 rz2 hz2 => ?_)
  obtain ⟨hm, bz2, hz2⟩ := hz2
  replace hm := hm.symm
  subst hm
  refine V_if_ne (q := 8) (tgt := 12) dX7_spent_5 (by decide) rfl (fun c5 => ?_) (fun c5 => ?_)
  · refine V_iload_n (q := 13) dX7_spent_12 rfl rfl rfl ?_
    refine V_iconst (q := 14) dX7_spent_13 rfl (by decide) ?_
    refine V_iconst (q := 15) dX7_spent_14 rfl (by decide) ?_
    refine V_in (q := 18) dX7_spent_15 rfl mlX7_132 (by decide) (by decide) (Nat.le_refl _) (Nat.le_refl _) (Nat.le_of_ble_eq_true rfl) (fun z15 rz15 ez15 => ?_)
    refine V_if_eq (q := 21) (tgt := 34) dX7_spent_18 (by decide) rfl (fun c18 => ?_) (fun c18 => ?_)
    · refine V_bipush (q := 36) dX7_spent_34 rfl (by decide) ?_
      first | (exfalso; omega) | exact VM_iret dX7_spent_36 ⟨_, rfl, rfl, by { unfold spentR; (repeat' (first | rw [if_pos (by omega)] | rw [if_neg (by omega)])); try omega }⟩
    · refine V_aload_n (q := 22) dX7_spent_21 rfl rfl rfl ?_
      refine VM_getA (q := 25) 37 dX7_spent_22 rfl flX7_107 rfl rfl (Nat.succ_ne_zero _) ?_
      refine V_iconst (q := 26) dX7_spent_25 rfl (by decide) ?_
      refine V_iload_n (q := 27) dX7_spent_26 rfl rfl rfl ?_
      refine V_imul (q := 28) dX7_spent_27 rfl (by omega) (fun z27 ez27 => ?_)
      refine V_iload_n (q := 29) dX7_spent_28 rfl rfl rfl ?_
      refine V_iadd (q := 30) dX7_spent_29 rfl (by omega) (fun z29 ez29 => ?_)
      refine VM_iald (q := 31) 36 dX7_spent_30 rfl rfl (by decide) rfl rfl (by omega) (fun z30 ez30 rz30 => ?_)
      rw [show z29 = 4 * x + i by omega] at ez30
      refine V_goto (tgt := 36) dX7_spent_31 (by decide) ?_
      first | (exfalso; omega) | exact VM_iret dX7_spent_36 ⟨_, rfl, rfl, by { unfold spentR; (repeat' (first | rw [if_pos (by omega)] | rw [if_neg (by omega)])); try omega }⟩
  · refine V_iconst (q := 9) dX7_spent_8 rfl (by decide) ?_
    refine V_goto (tgt := 36) dX7_spent_9 (by decide) ?_
    first | (exfalso; omega) | exact VM_iret dX7_spent_36 ⟨_, rfl, rfl, by { unfold spentR; (repeat' (first | rw [if_pos (by omega)] | rw [if_neg (by omega)])); try omega }⟩
theorem tX7_gone {Γ : GC} {αC : Sh} {C M : Mem}  : MM Γ yX7_gone cX7_gone 2 (some .int) 0 [] αC C M (mI fun r M1 => M1 = mu M 17 0 0 ∧ r = M 17 0) := by
  refine MM_of (k := 1) [(3, 0), (9, 0)] pn_X7_gone rfl rfl rfl (fun ad0 => ?_)
  refine V_aload_n (q := 1) dX7_gone_0 rfl rfl rfl ?_
  refine VM_getI (q := 4) 17 dX7_gone_1 rfl flX7_140 rfl rfl rfl (fun z1 ez1 rz1 => ?_)
  refine V_istore_n (q := 5) (lv1 := [(3, 0), (0, z1)]) dX7_gone_4 rfl rfl (by decide) rfl rfl ?_
  refine V_aload_n (q := 6) dX7_gone_5 rfl rfl rfl ?_
  refine V_iconst (q := 7) dX7_gone_6 rfl (by decide) ?_
  refine VM_putI (q := 10) 17 dX7_gone_7 rfl flX7_140 rfl rfl rfl rfl (fun M7 eM7 => ?_)
  refine V_iload_n (q := 11) dX7_gone_10 rfl rfl rfl ?_
  exact VM_iret dX7_gone_11 ⟨_, rfl, eM7, ez1⟩
theorem tX7_value {Γ : GC} {αC : Sh} {C M : Mem} {x t nm : Int} (w : WFD M) : MM Γ yX7_value cX7_value 5 (some .int) 2 [(0, x), (0, t), (0, nm)] αC C M (mI fun r M1 => (∀ k : Int, k ≠ 18 → k ≠ 19 → M1 k = M k) ∧ r = valueR M x t nm) := by
  have hn0 := w.n
  have hw0 := w.w
  refine MM_of (k := 1) [(3, 0), (0, x), (0, t), (0, nm), (9, 0)] pn_X7_value rfl rfl rfl (fun ad0 => ?_)
  refine V_aload_n (q := 1) dX7_value_0 rfl rfl rfl ?_
  refine V_iload_n (q := 2) dX7_value_1 rfl rfl rfl ?_
  refine VM_callI (q := 5) (As := [(0, x)]) (tX7_isWorld (C := C) (M := M) hw0.1) dX7_value_2 rfl mlX7_280 mw_X7_isWorld im_X7_isWorld sl_X7_isWorld md_X7_isWorld rfl rfl rfl (by decide) (by decide) (Nat.le_refl _) (Nat.le_refl _) (Nat.le_of_ble_eq_true rfl) (fun z2 M2 rz2 hz2 => ?_)
  obtain ⟨hm, bz2, hz2⟩ := hz2
  replace hm := hm.symm
  subst hm
  refine V_if_eq (q := 8) (tgt := 26) dX7_value_5 (by decide) rfl (fun c5 => ?_) (fun c5 => ?_)
  · refine V_iconst (q := 27) dX7_value_26 rfl (by decide) ?_
    first | (exfalso; omega) | exact VM_iret dX7_value_27 ⟨_, rfl, fun _ _ _ => rfl, by { unfold valueR; (repeat' (first | rw [if_pos (by omega)] | rw [if_neg (by omega)])); try omega }⟩
  · refine V_aload_n (q := 9) dX7_value_8 rfl rfl rfl ?_
    refine V_iload_n (q := 10) dX7_value_9 rfl rfl rfl ?_
    refine VM_callI (q := 13) (As := [(0, t)]) (tX7_isType (C := C) (M := M) hn0.1) dX7_value_10 rfl mlX7_136 mw_X7_isType im_X7_isType sl_X7_isType md_X7_isType rfl rfl rfl (by decide) (by decide) (Nat.le_refl _) (Nat.le_refl _) (Nat.le_of_ble_eq_true rfl) (fun z10 M10 rz10 hz10 => ?_)
    obtain ⟨hm, bz10, hz10⟩ := hz10
    replace hm := hm.symm
    subst hm
    refine V_if_eq (q := 16) (tgt := 26) dX7_value_13 (by decide) rfl (fun c13 => ?_) (fun c13 => ?_)
    · refine V_iconst (q := 27) dX7_value_26 rfl (by decide) ?_
      first | (exfalso; omega) | exact VM_iret dX7_value_27 ⟨_, rfl, fun _ _ _ => rfl, by { unfold valueR; (repeat' (first | rw [if_pos (by omega)] | rw [if_neg (by omega)])); try omega }⟩
    · refine V_iload_n (q := 17) dX7_value_16 rfl rfl rfl ?_
      refine V_iconst (q := 18) dX7_value_17 rfl (by decide) ?_
      refine V_bipush (q := 20) dX7_value_18 rfl (by decide) ?_
      refine V_in (q := 23) dX7_value_20 rfl mlX7_132 (by decide) (by decide) (Nat.le_refl _) (Nat.le_refl _) (Nat.le_of_ble_eq_true rfl) (fun z20 rz20 ez20 => ?_)
      refine V_if_ne (q := 26) (tgt := 28) dX7_value_23 (by decide) rfl (fun c23 => ?_) (fun c23 => ?_)
      · have ht : 0 ≤ t ∧ t < M 0 0 := by omega
        have hr := FF_b (nm := nm) w ht.1 ht.2
        refine V_aload_n (q := 29) dX7_value_28 rfl rfl rfl ?_
        refine V_iload_n (q := 30) dX7_value_29 rfl rfl rfl ?_
        refine V_iload_n (q := 31) dX7_value_30 rfl rfl rfl ?_
        refine VM_callI (q := 34) (As := [(0, t), (0, nm)]) (tX7_findField (C := C) (M := M) w ht) dX7_value_31 rfl mlX7_161 mw_X7_findField im_X7_findField sl_X7_findField md_X7_findField rfl rfl rfl (by decide) (by decide) (Nat.le_refl _) (Nat.le_refl _) (Nat.le_of_ble_eq_true rfl) (fun z31 M31 rz31 hz31 => ?_)
        obtain ⟨gM31, hz31⟩ := hz31
        have fM31 := gM31
        refine V_istore (q := 36) (lv1 := [(3, 0), (0, x), (0, t), (0, nm), (0, z31)]) dX7_value_34 rfl (by decide) rfl rfl ?_
        refine V_iload (q := 38) dX7_value_36 rfl rfl ?_
        refine V_if_ge (q := 41) (tgt := 45) dX7_value_38 (by decide) rfl (fun c38 => ?_) (fun c38 => ?_)
        · refine V_aload_n (q := 46) dX7_value_45 rfl rfl rfl ?_
          refine VM_getA (q := 49) 9 dX7_value_46 rfl flX7_32 rfl rfl (Nat.succ_ne_zero _) ?_
          refine V_iload (q := 51) dX7_value_49 rfl rfl ?_
          refine VM_zald (q := 52) 8 dX7_value_51 rfl rfl (by decide) rfl rfl (by omega) (fun z51 ez51 rz51 => ?_)
          rw [fM31 8 (by decide) (by decide)] at ez51
          rw [show z31 = FF M nm t by omega] at ez51
          refine V_if_eq (q := 55) (tgt := 65) dX7_value_52 (by decide) rfl (fun c52 => ?_) (fun c52 => ?_)
          · refine V_aload_n (q := 66) dX7_value_65 rfl rfl rfl ?_
            refine VM_getA (q := 69) 30 dX7_value_66 rfl flX7_86 rfl rfl (Nat.succ_ne_zero _) ?_
            refine V_sipush (q := 72) dX7_value_69 rfl (by decide) ?_
            refine V_iload_n (q := 73) dX7_value_72 rfl rfl rfl ?_
            refine V_imul (q := 74) dX7_value_73 rfl (by omega) (fun z73 ez73 => ?_)
            refine V_iload (q := 76) dX7_value_74 rfl rfl ?_
            refine V_iadd (q := 77) dX7_value_76 rfl (by omega) (fun z76 ez76 => ?_)
            refine VM_iald (q := 78) 29 dX7_value_77 rfl rfl (by decide) rfl rfl (by omega) (fun z77 ez77 rz77 => ?_)
            rw [fM31 29 (by decide) (by decide)] at ez77
            rw [show z76 = 240 * x + FF M nm t by omega] at ez77
            first | (exfalso; omega) | exact VM_iret dX7_value_78 ⟨_, rfl, fM31, by { unfold valueR; (repeat' (first | rw [if_pos (by omega)] | rw [if_neg (by omega)])); try omega }⟩
          · refine V_aload_n (q := 56) dX7_value_55 rfl rfl rfl ?_
            refine VM_getA (q := 59) 10 dX7_value_56 rfl flX7_35 rfl rfl (Nat.succ_ne_zero _) ?_
            refine V_iload (q := 61) dX7_value_59 rfl rfl ?_
            refine VM_iald (q := 62) 9 dX7_value_61 rfl rfl (by decide) rfl rfl (by omega) (fun z61 ez61 rz61 => ?_)
            rw [fM31 9 (by decide) (by decide)] at ez61
            rw [show z31 = FF M nm t by omega] at ez61
            refine V_goto (tgt := 78) dX7_value_62 (by decide) ?_
            first | (exfalso; omega) | exact VM_iret dX7_value_78 ⟨_, rfl, fM31, by { unfold valueR; (repeat' (first | rw [if_pos (by omega)] | rw [if_neg (by omega)])); try omega }⟩
        · refine V_iconst (q := 42) dX7_value_41 rfl (by decide) ?_
          refine V_goto (tgt := 78) dX7_value_42 (by decide) ?_
          first | (exfalso; omega) | exact VM_iret dX7_value_78 ⟨_, rfl, fM31, by { unfold valueR; (repeat' (first | rw [if_pos (by omega)] | rw [if_neg (by omega)])); try omega }⟩
      · refine V_iconst (q := 27) dX7_value_26 rfl (by decide) ?_
        first | (exfalso; omega) | exact VM_iret dX7_value_27 ⟨_, rfl, fun _ _ _ => rfl, by { unfold valueR; (repeat' (first | rw [if_pos (by omega)] | rw [if_neg (by omega)])); try omega }⟩
theorem tX7_many {Γ : GC} {αC : Sh} {C M : Mem} {x s : Int} (w : WFD M) : MM Γ yX7_many cX7_many 5 (some .int) 2 [(0, x), (0, s)] αC C M (mI fun r M1 => M1 = M ∧ r = manyR M x s) := by
  have hn0 := w.n
  have hw0 := w.w
  refine MM_of (k := 2) [(3, 0), (0, x), (0, s), (9, 0), (9, 0)] pn_X7_many rfl rfl rfl (fun ad0 => ?_)
  have loop : ∀ (c k : Int), (isW M x ∧ (0 ≤ s ∧ s ≤ 3) ∧ 0 ≤ k ∧ k ≤ M 0 0 ∧ c = cntV (M 28) (40 * x) s k.toNat) → V Γ (gα αC) ad0 (ZM Γ (gα αC) ad0 (mQ αC C (mI fun r M1 => M1 = M ∧ r = manyR M x s)) 0 0) (RM 2 0 0) RX7 cX7_many 5 (some .int) yX7_many.name 27 [] [(3, 0), (0, x), (0, s), (0, c), (0, k)] (gα αC) (mm M C) 0 0 := by
    refine loop2 _ (fun _ k => (M 0 0 - k).toNat) _ ?_
    rintro c k ⟨hx, hs, h1, h2, h5⟩ ih
    have hcl := cntV_le (M 28) (40 * x) s k.toNat
    refine V_iload (q := 29) dX7_many_27 rfl rfl ?_
    refine V_aload_n (q := 30) dX7_many_29 rfl rfl rfl ?_
    refine VM_getI (q := 33) 0 dX7_many_30 rfl flX7_128 rfl rfl rfl (fun z30 ez30 rz30 => ?_)
    refine V_icmp_ge (q := 36) (tgt := 66) dX7_many_33 (by decide) rfl (fun c33 => ?_) (fun c33 => ?_)
    · refine V_iload_n (q := 67) dX7_many_66 rfl rfl rfl ?_
      exact VM_iret dX7_many_67 ⟨_, rfl, rfl, by { unfold manyR; (repeat' (first | rw [if_pos (by omega)] | rw [if_neg (by omega)])); rw [show (M 0 0).toNat = k.toNat by omega]; exact h5 }⟩
    · refine V_iload_n (q := 37) dX7_many_36 rfl rfl rfl ?_
      refine V_aload_n (q := 38) dX7_many_37 rfl rfl rfl ?_
      refine VM_getA (q := 41) 29 dX7_many_38 rfl flX7_83 rfl rfl (Nat.succ_ne_zero _) ?_
      refine V_bipush (q := 43) dX7_many_41 rfl (by decide) ?_
      refine V_iload_n (q := 44) dX7_many_43 rfl rfl rfl ?_
      refine V_imul (q := 45) dX7_many_44 rfl (by omega) (fun z44 ez44 => ?_)
      refine V_iload (q := 47) dX7_many_45 rfl rfl ?_
      refine V_iadd (q := 48) dX7_many_47 rfl (by omega) (fun z47 ez47 => ?_)
      refine VM_iald (q := 49) 28 dX7_many_48 rfl rfl (by decide) rfl rfl (by omega) (fun z48 ez48 rz48 => ?_)
      rw [show z47 = 40 * x + k by omega] at ez48
      refine V_iload_n (q := 50) dX7_many_49 rfl rfl rfl ?_
      refine V_icmp_ne (q := 53) (tgt := 57) dX7_many_50 (by decide) rfl (fun c50 => ?_) (fun c50 => ?_)
      · refine V_iconst (q := 58) dX7_many_57 rfl (by decide) ?_
        refine V_iadd (q := 59) dX7_many_58 rfl (by omega) (fun z58 ez58 => ?_)
        refine V_istore_n (q := 60) (lv1 := [(3, 0), (0, x), (0, s), (0, z58), (0, k)]) dX7_many_59 rfl rfl (by decide) rfl rfl ?_
        refine V_iinc (q := 63) dX7_many_60 rfl rfl (by decide) rfl (by omega) (fun z60 lz60 ez60 hlz60 => ?_)
        obtain rfl : lz60 = [(3, 0), (0, x), (0, s), (0, z58), (0, z60)] := hlz60
        refine V_goto (tgt := 27) dX7_many_63 (by decide) ?_
        exact ih (z58) (z60) ⟨hx, hs, by omega, by omega, by { rw [ez60, cntV_s _ _ _ h1, if_neg (by omega)]; omega }⟩ (by omega)
      · refine V_iconst (q := 54) dX7_many_53 rfl (by decide) ?_
        refine V_goto (tgt := 58) dX7_many_54 (by decide) ?_
        refine V_iadd (q := 59) dX7_many_58 rfl (by omega) (fun z58_2 ez58_2 => ?_)
        refine V_istore_n (q := 60) (lv1 := [(3, 0), (0, x), (0, s), (0, z58_2), (0, k)]) dX7_many_59 rfl rfl (by decide) rfl rfl ?_
        refine V_iinc (q := 63) dX7_many_60 rfl rfl (by decide) rfl (by omega) (fun z60_2 lz60_2 ez60_2 hlz60_2 => ?_)
        obtain rfl : lz60_2 = [(3, 0), (0, x), (0, s), (0, z58_2), (0, z60_2)] := hlz60_2
        refine V_goto (tgt := 27) dX7_many_63 (by decide) ?_
        exact ih (z58_2) (z60_2) ⟨hx, hs, by omega, by omega, by { rw [ez60_2, cntV_s _ _ _ h1, if_pos (by omega)]; omega }⟩ (by omega)
  refine V_aload_n (q := 1) dX7_many_0 rfl rfl rfl ?_
  refine V_iload_n (q := 2) dX7_many_1 rfl rfl rfl ?_
  refine VM_callI (q := 5) (As := [(0, x)]) (tX7_isWorld (C := C) (M := M) hw0.1) dX7_many_2 rfl mlX7_280 mw_X7_isWorld im_X7_isWorld sl_X7_isWorld md_X7_isWorld rfl rfl rfl (by decide) (by decide) (Nat.le_refl _) (Nat.le_refl _) (Nat.le_of_ble_eq_true rfl) (fun z2 M2 rz2 hz2 => ?_)
  obtain ⟨hm, bz2, hz2⟩ := hz2
  replace hm := hm.symm
  subst hm
  refine V_if_ne (q := 8) (tgt := 10) dX7_many_5 (by decide) rfl (fun c5 => ?_) (fun c5 => ?_)
  · refine V_iload_n (q := 11) dX7_many_10 rfl rfl rfl ?_
    refine V_iconst (q := 12) dX7_many_11 rfl (by decide) ?_
    refine V_iconst (q := 13) dX7_many_12 rfl (by decide) ?_
    refine V_in (q := 16) dX7_many_13 rfl mlX7_132 (by decide) (by decide) (Nat.le_refl _) (Nat.le_refl _) (Nat.le_of_ble_eq_true rfl) (fun z13 rz13 ez13 => ?_)
    refine V_if_ne (q := 19) (tgt := 22) dX7_many_16 (by decide) rfl (fun c16 => ?_) (fun c16 => ?_)
    · refine V_iconst (q := 23) dX7_many_22 rfl (by decide) ?_
      refine V_istore_n (q := 24) (lv1 := [(3, 0), (0, x), (0, s), (0, 0), (9, 0)]) dX7_many_23 rfl rfl (by decide) rfl rfl ?_
      refine V_iconst (q := 25) dX7_many_24 rfl (by decide) ?_
      refine V_istore (q := 27) (lv1 := [(3, 0), (0, x), (0, s), (0, 0), (0, 0)]) dX7_many_25 rfl (by decide) rfl rfl ?_
      exact loop 0 0 ⟨by omega, by omega, by decide, hn0.1, rfl⟩
    · refine V_bipush (q := 21) dX7_many_19 rfl (by decide) ?_
      first | (exfalso; omega) | exact VM_iret dX7_many_21 ⟨_, rfl, rfl, by { unfold manyR; (repeat' (first | rw [if_pos (by omega)] | rw [if_neg (by omega)])); try omega }⟩
  · refine V_iconst (q := 9) dX7_many_8 rfl (by decide) ?_
    first | (exfalso; omega) | exact VM_iret dX7_many_9 ⟨_, rfl, rfl, by { unfold manyR; (repeat' (first | rw [if_pos (by omega)] | rw [if_neg (by omega)])); try omega }⟩
