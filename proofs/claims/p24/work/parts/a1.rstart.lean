/-! THE REFERENCE'S TOUCH MACHINE: a start; the action at hand -/
theorem tX7_start {Γ : GC} {αC : Sh} {C M : Mem} {t : Int} (g : RG M) (ht : 0 ≤ t ∧ t < 40) : MM Γ yX7_start cX7_start 3 none 1 [(0, t)] αC C M (mN fun M1 => M1 = startM t M) := by
  obtain ⟨g1, g2, g3, g4, g5⟩ := id g
  refine MM_of (k := 1) [(3, 0), (0, t), (9, 0)] pn_X7_start rfl rfl rfl (fun ad0 => ?_)
  obtain ⟨x, hx⟩ : ∃ x : Int, M 37 0 = x := ⟨_, rfl⟩
  rw [hx] at g1
  unfold startM
  rw [hx]
  refine V_aload_n (q := 1) dX7_start_0 rfl rfl rfl ?_
  refine VM_getA (q := 4) 29 dX7_start_1 rfl flX7_83 rfl rfl (Nat.succ_ne_zero _) ?_
  refine V_bipush (q := 6) dX7_start_4 rfl (by decide) ?_
  refine V_aload_n (q := 7) dX7_start_6 rfl rfl rfl ?_
  refine VM_getI (q := 10) 37 dX7_start_7 rfl flX7_191 rfl rfl rfl (fun z7 ez7 rz7 => ?_)
  rw [hx] at ez7
  refine V_imul (q := 11) dX7_start_10 rfl (by omega) (fun z10 ez10 => ?_)
  refine V_iload_n (q := 12) dX7_start_11 rfl rfl rfl ?_
  refine V_iadd (q := 13) dX7_start_12 rfl (by omega) (fun z12 ez12 => ?_)
  refine VM_iald (q := 14) 28 dX7_start_13 rfl rfl (by decide) rfl rfl (by omega) (fun z13 ez13 rz13 => ?_)
  rw [ez12] at ez13
  refine V_istore_n (q := 15) (lv1 := [(3, 0), (0, t), (0, z13)]) dX7_start_14 rfl rfl (by decide) rfl rfl ?_
  have hz14 : z13 = M 28 (40 * x + t) := by simp only [ez7, ez10, ez12, ez13]
  refine V_iload_n (q := 16) dX7_start_15 rfl rfl rfl ?_
  refine V_iconst (q := 17) dX7_start_16 rfl (by decide) ?_
  refine V_icmp_ne (q := 20) (tgt := 30) dX7_start_17 (by decide) rfl (fun c17 => ?_) (fun c17 => ?_)
  · refine V_iload_n (q := 31) dX7_start_30 rfl rfl rfl ?_
    refine V_if_ne (q := 34) (tgt := 89) dX7_start_31 (by decide) rfl (fun c31 => ?_) (fun c31 => ?_)
    · exact VM_vret dX7_start_89 ⟨rfl, by { show M = _; rw [if_neg (by omega), if_neg (by omega)] }⟩
    · refine V_aload_n (q := 35) dX7_start_34 rfl rfl rfl ?_
      refine VM_getA (q := 38) 29 dX7_start_35 rfl flX7_83 rfl rfl (Nat.succ_ne_zero _) ?_
      refine V_bipush (q := 40) dX7_start_38 rfl (by decide) ?_
      refine V_aload_n (q := 41) dX7_start_40 rfl rfl rfl ?_
      refine VM_getI (q := 44) 37 dX7_start_41 rfl flX7_191 rfl rfl rfl (fun z41 ez41 rz41 => ?_)
      rw [hx] at ez41
      refine V_imul (q := 45) dX7_start_44 rfl (by omega) (fun z44 ez44 => ?_)
      refine V_iload_n (q := 46) dX7_start_45 rfl rfl rfl ?_
      refine V_iadd (q := 47) dX7_start_46 rfl (by omega) (fun z46 ez46 => ?_)
      refine V_iconst (q := 48) dX7_start_47 rfl (by decide) ?_
      refine VM_iast (q := 49) 28 dX7_start_48 rfl rfl (by decide) rfl rfl (by omega) (fun M48 eM48 => ?_)
      refine V_aload_n (q := 50) dX7_start_49 rfl rfl rfl ?_
      refine VM_getA (q := 53) 40 dX7_start_50 rfl flX7_110 rfl rfl (Nat.succ_ne_zero _) ?_
      refine V_aload_n (q := 54) dX7_start_53 rfl rfl rfl ?_
      refine VM_getI (q := 57) 38 dX7_start_54 rfl flX7_213 rfl rfl rfl (fun z54 ez54 rz54 => ?_)
      rw [eM48, mu_t _ _ _ _ (by decide)] at ez54
      refine V_iconst (q := 58) dX7_start_57 rfl (by decide) ?_
      refine VM_zast (q := 59) 39 dX7_start_58 rfl rfl (by decide) rfl rfl (by omega) (by omega) (fun M58 eM58 => ?_)
      refine V_aload_n (q := 60) dX7_start_59 rfl rfl rfl ?_
      refine VM_getA (q := 63) 41 dX7_start_60 rfl flX7_113 rfl rfl (Nat.succ_ne_zero _) ?_
      refine V_aload_n (q := 64) dX7_start_63 rfl rfl rfl ?_
      refine VM_getI (q := 67) 38 dX7_start_64 rfl flX7_213 rfl rfl rfl (fun z64 ez64 rz64 => ?_)
      rw [eM58, mu_t _ _ _ _ (by decide)] at ez64
      rw [eM48, mu_t _ _ _ _ (by decide)] at ez64
      refine V_iload_n (q := 68) dX7_start_67 rfl rfl rfl ?_
      refine VM_iast (q := 69) 40 dX7_start_68 rfl rfl (by decide) rfl rfl (by omega) (fun M68 eM68 => ?_)
      refine V_aload_n (q := 70) dX7_start_69 rfl rfl rfl ?_
      refine VM_getA (q := 73) 42 dX7_start_70 rfl flX7_116 rfl rfl (Nat.succ_ne_zero _) ?_
      refine V_aload_n (q := 74) dX7_start_73 rfl rfl rfl ?_
      refine VM_getI (q := 77) 38 dX7_start_74 rfl flX7_213 rfl rfl rfl (fun z74 ez74 rz74 => ?_)
      rw [eM68, mu_t _ _ _ _ (by decide)] at ez74
      rw [eM58, mu_t _ _ _ _ (by decide)] at ez74
      rw [eM48, mu_t _ _ _ _ (by decide)] at ez74
      refine V_iconst (q := 78) dX7_start_77 rfl (by decide) ?_
      refine VM_iast (q := 79) 41 dX7_start_78 rfl rfl (by decide) rfl rfl (by omega) (fun M78 eM78 => ?_)
      refine V_aload_n (q := 80) dX7_start_79 rfl rfl rfl ?_
      refine V_dup (q := 81) dX7_start_80 rfl (show (3 : Nat) ≠ 2 by decide) ?_
      refine VM_getI (q := 84) 38 dX7_start_81 rfl flX7_213 rfl rfl rfl (fun z81 ez81 rz81 => ?_)
      rw [eM78, mu_t _ _ _ _ (by decide)] at ez81
      rw [eM68, mu_t _ _ _ _ (by decide)] at ez81
      rw [eM58, mu_t _ _ _ _ (by decide)] at ez81
      rw [eM48, mu_t _ _ _ _ (by decide)] at ez81
      refine V_iconst (q := 85) dX7_start_84 rfl (by decide) ?_
      refine V_iadd (q := 86) dX7_start_85 rfl (by omega) (fun z85 ez85 => ?_)
      refine VM_putI (q := 89) 38 dX7_start_86 rfl flX7_213 rfl rfl rfl rfl (fun M86 eM86 => ?_)
      exact VM_vret dX7_start_89 ⟨rfl, by { rw [if_neg (by omega), if_pos (by omega)]; simp only [ez7, ez10, ez12, ez13, ez41, ez44, ez46, eM48, ez54, eM58, ez64, eM68, ez74, eM78, ez81, ez85, eM86] }⟩
  · refine V_aload_n (q := 21) dX7_start_20 rfl rfl rfl ?_
    refine V_bipush (q := 23) dX7_start_21 rfl (by decide) ?_
    refine V_iload_n (q := 24) dX7_start_23 rfl rfl rfl ?_
    refine VM_callN (q := 27) (As := [(0, 21), (0, t)]) (tX7_fail (C := C) (M := M) g) dX7_start_24 rfl mlX7_219 mw_X7_fail im_X7_fail sl_X7_fail md_X7_fail rfl rfl rfl (by decide) (by decide) (Nat.le_refl _) (Nat.le_refl _) (Nat.le_of_ble_eq_true rfl) (fun M24 hM24 => ?_)
    refine V_goto (tgt := 89) dX7_start_27 (by decide) ?_
    exact VM_vret dX7_start_89 ⟨rfl, by { show M24 = _; rw [if_pos (by omega)]; exact hM24 }⟩
/-- a frame of a body (the touch itself: -1): the action at hand -/
def FB (M : Mem) (f : Int) : Prop := (0 ≤ f ∧ f ≤ 99) ∧ (-1 ≤ M 40 f ∧ M 40 f < 200) ∧ (0 ≤ M 41 f ∧ M 41 f ≤ 12)
def atM (M : Mem) (a b f : Int) : Int := if M 40 f < 0 then M a 0 else M b (12 * M 40 f + M 41 f)
def szM (M : Mem) (f : Int) : Int := if M 40 f < 0 then 1 else M 12 (M 40 f)
theorem tX7_kindAt {Γ : GC} {αC : Sh} {C M : Mem} {f : Int} (hf : FB M f) (h11 : 0 ≤ M 40 f → M 41 f ≤ 11) : MM Γ yX7_kindAt cX7_kindAt 2 (some .int) 0 [(0, f)] αC C M (mI fun r M1 => M1 = M ∧ r = atM M 53 13 f) := by
  obtain ⟨h1, h2, h3⟩ := hf
  refine MM_of (k := 0) [(3, 0), (0, f)] pn_X7_kindAt rfl rfl rfl (fun ad0 => ?_)
  unfold atM
  refine V_aload_n (q := 1) dX7_kindAt_0 rfl rfl rfl ?_
  refine VM_getA (q := 4) 41 dX7_kindAt_1 rfl flX7_113 rfl rfl (Nat.succ_ne_zero _) ?_
  refine V_iload_n (q := 5) dX7_kindAt_4 rfl rfl rfl ?_
  refine VM_iald (q := 6) 40 dX7_kindAt_5 rfl rfl (by decide) rfl rfl (by omega) (fun z5 ez5 rz5 => ?_)
  refine V_if_ge (q := 9) (tgt := 16) dX7_kindAt_6 (by decide) rfl (fun c6 => ?_) (fun c6 => ?_)
  · refine V_aload_n (q := 17) dX7_kindAt_16 rfl rfl rfl ?_
    refine VM_getA (q := 20) 14 dX7_kindAt_17 rfl flX7_47 rfl rfl (Nat.succ_ne_zero _) ?_
    refine V_bipush (q := 22) dX7_kindAt_20 rfl (by decide) ?_
    refine V_aload_n (q := 23) dX7_kindAt_22 rfl rfl rfl ?_
    refine VM_getA (q := 26) 41 dX7_kindAt_23 rfl flX7_113 rfl rfl (Nat.succ_ne_zero _) ?_
    refine V_iload_n (q := 27) dX7_kindAt_26 rfl rfl rfl ?_
    refine VM_iald (q := 28) 40 dX7_kindAt_27 rfl rfl (by decide) rfl rfl (by omega) (fun z27 ez27 rz27 => ?_)
    refine V_imul (q := 29) dX7_kindAt_28 rfl (by omega) (fun z28 ez28 => ?_)
    refine V_aload_n (q := 30) dX7_kindAt_29 rfl rfl rfl ?_
    refine VM_getA (q := 33) 42 dX7_kindAt_30 rfl flX7_116 rfl rfl (Nat.succ_ne_zero _) ?_
    refine V_iload_n (q := 34) dX7_kindAt_33 rfl rfl rfl ?_
    refine VM_iald (q := 35) 41 dX7_kindAt_34 rfl rfl (by decide) rfl rfl (by omega) (fun z34 ez34 rz34 => ?_)
    refine V_iadd (q := 36) dX7_kindAt_35 rfl (by omega) (fun z35 ez35 => ?_)
    refine VM_iald (q := 37) 13 dX7_kindAt_36 rfl rfl (by decide) rfl rfl (by omega) (fun z36 ez36 rz36 => ?_)
    exact VM_iret dX7_kindAt_37 ⟨_, rfl, rfl, by { (first | rw [if_pos (by omega)] | rw [if_neg (by omega)]) <;> simp only [ez5, ez27, ez28, ez34, ez35, ez36] }⟩
  · refine V_aload_n (q := 10) dX7_kindAt_9 rfl rfl rfl ?_
    refine VM_getI (q := 13) 53 dX7_kindAt_10 rfl flX7_231 rfl rfl rfl (fun z10 ez10 rz10 => ?_)
    refine V_goto (tgt := 37) dX7_kindAt_13 (by decide) ?_
    exact VM_iret dX7_kindAt_37 ⟨_, rfl, rfl, by { (first | rw [if_pos (by omega)] | rw [if_neg (by omega)]) <;> simp only [ez5, ez10] }⟩
theorem tX7_typeAt {Γ : GC} {αC : Sh} {C M : Mem} {f : Int} (hf : FB M f) (h11 : 0 ≤ M 40 f → M 41 f ≤ 11) : MM Γ yX7_typeAt cX7_typeAt 2 (some .int) 0 [(0, f)] αC C M (mI fun r M1 => M1 = M ∧ r = atM M 54 14 f) := by
  obtain ⟨h1, h2, h3⟩ := hf
  refine MM_of (k := 0) [(3, 0), (0, f)] pn_X7_typeAt rfl rfl rfl (fun ad0 => ?_)
  unfold atM
  refine V_aload_n (q := 1) dX7_typeAt_0 rfl rfl rfl ?_
  refine VM_getA (q := 4) 41 dX7_typeAt_1 rfl flX7_113 rfl rfl (Nat.succ_ne_zero _) ?_
  refine V_iload_n (q := 5) dX7_typeAt_4 rfl rfl rfl ?_
  refine VM_iald (q := 6) 40 dX7_typeAt_5 rfl rfl (by decide) rfl rfl (by omega) (fun z5 ez5 rz5 => ?_)
  refine V_if_ge (q := 9) (tgt := 16) dX7_typeAt_6 (by decide) rfl (fun c6 => ?_) (fun c6 => ?_)
  · refine V_aload_n (q := 17) dX7_typeAt_16 rfl rfl rfl ?_
    refine VM_getA (q := 20) 15 dX7_typeAt_17 rfl flX7_50 rfl rfl (Nat.succ_ne_zero _) ?_
    refine V_bipush (q := 22) dX7_typeAt_20 rfl (by decide) ?_
    refine V_aload_n (q := 23) dX7_typeAt_22 rfl rfl rfl ?_
    refine VM_getA (q := 26) 41 dX7_typeAt_23 rfl flX7_113 rfl rfl (Nat.succ_ne_zero _) ?_
    refine V_iload_n (q := 27) dX7_typeAt_26 rfl rfl rfl ?_
    refine VM_iald (q := 28) 40 dX7_typeAt_27 rfl rfl (by decide) rfl rfl (by omega) (fun z27 ez27 rz27 => ?_)
    refine V_imul (q := 29) dX7_typeAt_28 rfl (by omega) (fun z28 ez28 => ?_)
    refine V_aload_n (q := 30) dX7_typeAt_29 rfl rfl rfl ?_
    refine VM_getA (q := 33) 42 dX7_typeAt_30 rfl flX7_116 rfl rfl (Nat.succ_ne_zero _) ?_
    refine V_iload_n (q := 34) dX7_typeAt_33 rfl rfl rfl ?_
    refine VM_iald (q := 35) 41 dX7_typeAt_34 rfl rfl (by decide) rfl rfl (by omega) (fun z34 ez34 rz34 => ?_)
    refine V_iadd (q := 36) dX7_typeAt_35 rfl (by omega) (fun z35 ez35 => ?_)
    refine VM_iald (q := 37) 14 dX7_typeAt_36 rfl rfl (by decide) rfl rfl (by omega) (fun z36 ez36 rz36 => ?_)
    exact VM_iret dX7_typeAt_37 ⟨_, rfl, rfl, by { (first | rw [if_pos (by omega)] | rw [if_neg (by omega)]) <;> simp only [ez5, ez27, ez28, ez34, ez35, ez36] }⟩
  · refine V_aload_n (q := 10) dX7_typeAt_9 rfl rfl rfl ?_
    refine VM_getI (q := 13) 54 dX7_typeAt_10 rfl flX7_234 rfl rfl rfl (fun z10 ez10 rz10 => ?_)
    refine V_goto (tgt := 37) dX7_typeAt_13 (by decide) ?_
    exact VM_iret dX7_typeAt_37 ⟨_, rfl, rfl, by { (first | rw [if_pos (by omega)] | rw [if_neg (by omega)]) <;> simp only [ez5, ez10] }⟩
theorem tX7_nameAt {Γ : GC} {αC : Sh} {C M : Mem} {f : Int} (hf : FB M f) (h11 : 0 ≤ M 40 f → M 41 f ≤ 11) : MM Γ yX7_nameAt cX7_nameAt 2 (some .int) 0 [(0, f)] αC C M (mI fun r M1 => M1 = M ∧ r = atM M 55 15 f) := by
  obtain ⟨h1, h2, h3⟩ := hf
  refine MM_of (k := 0) [(3, 0), (0, f)] pn_X7_nameAt rfl rfl rfl (fun ad0 => ?_)
  unfold atM
  refine V_aload_n (q := 1) dX7_nameAt_0 rfl rfl rfl ?_
  refine VM_getA (q := 4) 41 dX7_nameAt_1 rfl flX7_113 rfl rfl (Nat.succ_ne_zero _) ?_
  refine V_iload_n (q := 5) dX7_nameAt_4 rfl rfl rfl ?_
  refine VM_iald (q := 6) 40 dX7_nameAt_5 rfl rfl (by decide) rfl rfl (by omega) (fun z5 ez5 rz5 => ?_)
  refine V_if_ge (q := 9) (tgt := 16) dX7_nameAt_6 (by decide) rfl (fun c6 => ?_) (fun c6 => ?_)
  · refine V_aload_n (q := 17) dX7_nameAt_16 rfl rfl rfl ?_
    refine VM_getA (q := 20) 16 dX7_nameAt_17 rfl flX7_53 rfl rfl (Nat.succ_ne_zero _) ?_
    refine V_bipush (q := 22) dX7_nameAt_20 rfl (by decide) ?_
    refine V_aload_n (q := 23) dX7_nameAt_22 rfl rfl rfl ?_
    refine VM_getA (q := 26) 41 dX7_nameAt_23 rfl flX7_113 rfl rfl (Nat.succ_ne_zero _) ?_
    refine V_iload_n (q := 27) dX7_nameAt_26 rfl rfl rfl ?_
    refine VM_iald (q := 28) 40 dX7_nameAt_27 rfl rfl (by decide) rfl rfl (by omega) (fun z27 ez27 rz27 => ?_)
    refine V_imul (q := 29) dX7_nameAt_28 rfl (by omega) (fun z28 ez28 => ?_)
    refine V_aload_n (q := 30) dX7_nameAt_29 rfl rfl rfl ?_
    refine VM_getA (q := 33) 42 dX7_nameAt_30 rfl flX7_116 rfl rfl (Nat.succ_ne_zero _) ?_
    refine V_iload_n (q := 34) dX7_nameAt_33 rfl rfl rfl ?_
    refine VM_iald (q := 35) 41 dX7_nameAt_34 rfl rfl (by decide) rfl rfl (by omega) (fun z34 ez34 rz34 => ?_)
    refine V_iadd (q := 36) dX7_nameAt_35 rfl (by omega) (fun z35 ez35 => ?_)
    refine VM_iald (q := 37) 15 dX7_nameAt_36 rfl rfl (by decide) rfl rfl (by omega) (fun z36 ez36 rz36 => ?_)
    exact VM_iret dX7_nameAt_37 ⟨_, rfl, rfl, by { (first | rw [if_pos (by omega)] | rw [if_neg (by omega)]) <;> simp only [ez5, ez27, ez28, ez34, ez35, ez36] }⟩
  · refine V_aload_n (q := 10) dX7_nameAt_9 rfl rfl rfl ?_
    refine VM_getI (q := 13) 55 dX7_nameAt_10 rfl flX7_237 rfl rfl rfl (fun z10 ez10 rz10 => ?_)
    refine V_goto (tgt := 37) dX7_nameAt_13 (by decide) ?_
    exact VM_iret dX7_nameAt_37 ⟨_, rfl, rfl, by { (first | rw [if_pos (by omega)] | rw [if_neg (by omega)]) <;> simp only [ez5, ez10] }⟩
theorem tX7_valueAt {Γ : GC} {αC : Sh} {C M : Mem} {f : Int} (hf : FB M f) (h11 : 0 ≤ M 40 f → M 41 f ≤ 11) : MM Γ yX7_valueAt cX7_valueAt 2 (some .int) 0 [(0, f)] αC C M (mI fun r M1 => M1 = M ∧ r = atM M 56 16 f) := by
  obtain ⟨h1, h2, h3⟩ := hf
  refine MM_of (k := 0) [(3, 0), (0, f)] pn_X7_valueAt rfl rfl rfl (fun ad0 => ?_)
  unfold atM
  refine V_aload_n (q := 1) dX7_valueAt_0 rfl rfl rfl ?_
  refine VM_getA (q := 4) 41 dX7_valueAt_1 rfl flX7_113 rfl rfl (Nat.succ_ne_zero _) ?_
  refine V_iload_n (q := 5) dX7_valueAt_4 rfl rfl rfl ?_
  refine VM_iald (q := 6) 40 dX7_valueAt_5 rfl rfl (by decide) rfl rfl (by omega) (fun z5 ez5 rz5 => ?_)
  refine V_if_ge (q := 9) (tgt := 16) dX7_valueAt_6 (by decide) rfl (fun c6 => ?_) (fun c6 => ?_)
  · refine V_aload_n (q := 17) dX7_valueAt_16 rfl rfl rfl ?_
    refine VM_getA (q := 20) 17 dX7_valueAt_17 rfl flX7_56 rfl rfl (Nat.succ_ne_zero _) ?_
    refine V_bipush (q := 22) dX7_valueAt_20 rfl (by decide) ?_
    refine V_aload_n (q := 23) dX7_valueAt_22 rfl rfl rfl ?_
    refine VM_getA (q := 26) 41 dX7_valueAt_23 rfl flX7_113 rfl rfl (Nat.succ_ne_zero _) ?_
    refine V_iload_n (q := 27) dX7_valueAt_26 rfl rfl rfl ?_
    refine VM_iald (q := 28) 40 dX7_valueAt_27 rfl rfl (by decide) rfl rfl (by omega) (fun z27 ez27 rz27 => ?_)
    refine V_imul (q := 29) dX7_valueAt_28 rfl (by omega) (fun z28 ez28 => ?_)
    refine V_aload_n (q := 30) dX7_valueAt_29 rfl rfl rfl ?_
    refine VM_getA (q := 33) 42 dX7_valueAt_30 rfl flX7_116 rfl rfl (Nat.succ_ne_zero _) ?_
    refine V_iload_n (q := 34) dX7_valueAt_33 rfl rfl rfl ?_
    refine VM_iald (q := 35) 41 dX7_valueAt_34 rfl rfl (by decide) rfl rfl (by omega) (fun z34 ez34 rz34 => ?_)
    refine V_iadd (q := 36) dX7_valueAt_35 rfl (by omega) (fun z35 ez35 => ?_)
    refine VM_iald (q := 37) 16 dX7_valueAt_36 rfl rfl (by decide) rfl rfl (by omega) (fun z36 ez36 rz36 => ?_)
    exact VM_iret dX7_valueAt_37 ⟨_, rfl, rfl, by { (first | rw [if_pos (by omega)] | rw [if_neg (by omega)]) <;> simp only [ez5, ez27, ez28, ez34, ez35, ez36] }⟩
  · refine V_aload_n (q := 10) dX7_valueAt_9 rfl rfl rfl ?_
    refine VM_getI (q := 13) 56 dX7_valueAt_10 rfl flX7_240 rfl rfl rfl (fun z10 ez10 rz10 => ?_)
    refine V_goto (tgt := 37) dX7_valueAt_13 (by decide) ?_
    exact VM_iret dX7_valueAt_37 ⟨_, rfl, rfl, by { (first | rw [if_pos (by omega)] | rw [if_neg (by omega)]) <;> simp only [ez5, ez10] }⟩
theorem tX7_sizeOf {Γ : GC} {αC : Sh} {C M : Mem} {f : Int} (hf : FB M f) : MM Γ yX7_sizeOf cX7_sizeOf 2 (some .int) 0 [(0, f)] αC C M (mI fun r M1 => M1 = M ∧ r = szM M f) := by
  obtain ⟨h1, h2, h3⟩ := hf
  refine MM_of (k := 0) [(3, 0), (0, f)] pn_X7_sizeOf rfl rfl rfl (fun ad0 => ?_)
  unfold szM
  refine V_aload_n (q := 1) dX7_sizeOf_0 rfl rfl rfl ?_
  refine VM_getA (q := 4) 41 dX7_sizeOf_1 rfl flX7_113 rfl rfl (Nat.succ_ne_zero _) ?_
  refine V_iload_n (q := 5) dX7_sizeOf_4 rfl rfl rfl ?_
  refine VM_iald (q := 6) 40 dX7_sizeOf_5 rfl rfl (by decide) rfl rfl (by omega) (fun z5 ez5 rz5 => ?_)
  refine V_if_ge (q := 9) (tgt := 13) dX7_sizeOf_6 (by decide) rfl (fun c6 => ?_) (fun c6 => ?_)
  · refine V_aload_n (q := 14) dX7_sizeOf_13 rfl rfl rfl ?_
    refine VM_getA (q := 17) 13 dX7_sizeOf_14 rfl flX7_44 rfl rfl (Nat.succ_ne_zero _) ?_
    refine V_aload_n (q := 18) dX7_sizeOf_17 rfl rfl rfl ?_
    refine VM_getA (q := 21) 41 dX7_sizeOf_18 rfl flX7_113 rfl rfl (Nat.succ_ne_zero _) ?_
    refine V_iload_n (q := 22) dX7_sizeOf_21 rfl rfl rfl ?_
    refine VM_iald (q := 23) 40 dX7_sizeOf_22 rfl rfl (by decide) rfl rfl (by omega) (fun z22 ez22 rz22 => ?_)
    refine VM_iald (q := 24) 12 dX7_sizeOf_23 rfl rfl (by decide) rfl rfl (by omega) (fun z23 ez23 rz23 => ?_)
    exact VM_iret dX7_sizeOf_24 ⟨_, rfl, rfl, by { (first | rw [if_pos (by omega)] | rw [if_neg (by omega)]) <;> simp only [ez5, ez22, ez23] }⟩
  · refine V_iconst (q := 10) dX7_sizeOf_9 rfl (by decide) ?_
    refine V_goto (tgt := 24) dX7_sizeOf_10 (by decide) ?_
    exact VM_iret dX7_sizeOf_24 ⟨_, rfl, rfl, by { (first | rw [if_pos (by omega)] | rw [if_neg (by omega)]) <;> simp only [ez5] }⟩
