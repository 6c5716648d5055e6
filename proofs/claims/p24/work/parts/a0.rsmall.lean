/-! THE REFERENCE'S TOUCH MACHINE: its small methods, as changes of its memory -/
def onTM (v : Int) (M : Mem) : Mem := if M 30 (M 37 0) < 300 then mu (mu M 31 (300 * M 37 0 + M 30 (M 37 0)) v) 30 (M 37 0) (M 30 (M 37 0) + 1) else mu M 30 (M 37 0) (M 30 (M 37 0) + 1)
def failM (n w : Int) (M : Mem) : Mem := if M 47 0 = 40 then mu M 49 0 1 else mu (mu (mu (mu M 47 0 (M 47 0 + 1)) 50 0 1) 51 0 n) 52 0 w
def pushM (b : Int) (M : Mem) : Mem := if M 44 0 = 30 then mu M 49 0 1 else mu (mu (mu (mu (mu (mu (mu (mu (mu M 39 (M 38 0) 0) 40 (M 38 0) b) 41 (M 38 0) 0) 42 (M 38 0) (-6)) 43 (M 38 0) 0) 57 (M 38 0) 0) 38 0 (M 38 0 + 1)) 44 0 (M 44 0 + 1)) 46 0 (if M 46 0 ≤ M 44 0 + 1 then M 44 0 + 1 else M 46 0)
def startM (t : Int) (M : Mem) : Mem := if M 28 (40 * M 37 0 + t) = 3 then failM 21 t M else if M 28 (40 * M 37 0 + t) = 0 then mu (mu (mu (mu (mu M 28 (40 * M 37 0 + t) 1) 39 (M 38 0) 1) 40 (M 38 0) t) 41 (M 38 0) 0) 38 0 (M 38 0 + 1) else M
def didM (f : Int) (M : Mem) : Mem := mu (mu (mu M 41 f (M 41 f + 1)) 42 f (-6)) 43 f 0
/-- a world is at hand, the counters are in range -/
def RG (M : Mem) : Prop := (0 ≤ M 37 0 ∧ M 37 0 ≤ 12) ∧ (0 ≤ M 38 0 ∧ M 38 0 ≤ 99) ∧ (0 ≤ M 30 (M 37 0) ∧ M 30 (M 37 0) ≤ 2147483000) ∧ (0 ≤ M 44 0 ∧ M 44 0 ≤ 1000) ∧ (0 ≤ M 47 0 ∧ M 47 0 ≤ 1000)
theorem tX7_onTape {Γ : GC} {αC : Sh} {C M : Mem} {v : Int} (g : RG M) : MM Γ yX7_onTape cX7_onTape 2 none 0 [(0, v)] αC C M (mN fun M1 => M1 = onTM v M) := by
  obtain ⟨g1, g2, g3, g4, g5⟩ := g
  refine MM_of (k := 0) [(3, 0), (0, v)] pn_X7_onTape rfl rfl rfl (fun ad0 => ?_)
  obtain ⟨x, hx⟩ : ∃ x : Int, M 37 0 = x := ⟨_, rfl⟩
  rw [hx] at g1 g3
  unfold onTM
  rw [hx]
  refine V_aload_n (q := 1) dX7_onTape_0 rfl rfl rfl ?_
  refine VM_getA (q := 4) 31 dX7_onTape_1 rfl flX7_89 rfl rfl (Nat.succ_ne_zero _) ?_
  refine V_aload_n (q := 5) dX7_onTape_4 rfl rfl rfl ?_
  refine VM_getI (q := 8) 37 dX7_onTape_5 rfl flX7_191 rfl rfl rfl (fun z5 ez5 rz5 => ?_)
  rw [hx] at ez5
  refine VM_iald (q := 9) 30 dX7_onTape_8 rfl rfl (by decide) rfl rfl (by omega) (fun z8 ez8 rz8 => ?_)
  rw [ez5] at ez8
  refine V_sipush (q := 12) dX7_onTape_9 rfl (by decide) ?_
  refine V_icmp_ge (q := 15) (tgt := 39) dX7_onTape_12 (by decide) rfl (fun c12 => ?_) (fun c12 => ?_)
  · refine V_aload_n (q := 40) dX7_onTape_39 rfl rfl rfl ?_
    refine VM_getA (q := 43) 31 dX7_onTape_40 rfl flX7_89 rfl rfl (Nat.succ_ne_zero _) ?_
    refine V_aload_n (q := 44) dX7_onTape_43 rfl rfl rfl ?_
    refine VM_getI (q := 47) 37 dX7_onTape_44 rfl flX7_191 rfl rfl rfl (fun z44 ez44 rz44 => ?_)
    rw [hx] at ez44
    refine V_dup2 (q := 48) dX7_onTape_47 rfl (show (0 : Nat) ≠ 2 by decide) (show (3 : Nat) ≠ 2 by decide) ?_
    refine VM_iald (q := 49) 30 dX7_onTape_48 rfl rfl (by decide) rfl rfl (by omega) (fun z48 ez48 rz48 => ?_)
    rw [ez44] at ez48
    refine V_iconst (q := 50) dX7_onTape_49 rfl (by decide) ?_
    refine V_iadd (q := 51) dX7_onTape_50 rfl (by omega) (fun z50 ez50 => ?_)
    refine VM_iast (q := 52) 30 dX7_onTape_51 rfl rfl (by decide) rfl rfl (by omega) (fun M51 eM51 => ?_)
    exact VM_vret dX7_onTape_52 ⟨rfl, by { (first | rw [if_pos (by omega)] | rw [if_neg (by omega)]); simp only [ez5, ez8, ez44, ez48, ez50, eM51] }⟩
  · refine V_aload_n (q := 16) dX7_onTape_15 rfl rfl rfl ?_
    refine VM_getA (q := 19) 32 dX7_onTape_16 rfl flX7_92 rfl rfl (Nat.succ_ne_zero _) ?_
    refine V_sipush (q := 22) dX7_onTape_19 rfl (by decide) ?_
    refine V_aload_n (q := 23) dX7_onTape_22 rfl rfl rfl ?_
    refine VM_getI (q := 26) 37 dX7_onTape_23 rfl flX7_191 rfl rfl rfl (fun z23 ez23 rz23 => ?_)
    rw [hx] at ez23
    refine V_imul (q := 27) dX7_onTape_26 rfl (by omega) (fun z26 ez26 => ?_)
    refine V_aload_n (q := 28) dX7_onTape_27 rfl rfl rfl ?_
    refine VM_getA (q := 31) 31 dX7_onTape_28 rfl flX7_89 rfl rfl (Nat.succ_ne_zero _) ?_
    refine V_aload_n (q := 32) dX7_onTape_31 rfl rfl rfl ?_
    refine VM_getI (q := 35) 37 dX7_onTape_32 rfl flX7_191 rfl rfl rfl (fun z32 ez32 rz32 => ?_)
    rw [hx] at ez32
    refine VM_iald (q := 36) 30 dX7_onTape_35 rfl rfl (by decide) rfl rfl (by omega) (fun z35 ez35 rz35 => ?_)
    rw [ez32] at ez35
    refine V_iadd (q := 37) dX7_onTape_36 rfl (by omega) (fun z36 ez36 => ?_)
    refine V_iload_n (q := 38) dX7_onTape_37 rfl rfl rfl ?_
    refine VM_iast (q := 39) 31 dX7_onTape_38 rfl rfl (by decide) rfl rfl (by omega) (fun M38 eM38 => ?_)
    refine V_aload_n (q := 40) dX7_onTape_39 rfl rfl rfl ?_
    refine VM_getA (q := 43) 31 dX7_onTape_40 rfl flX7_89 rfl rfl (Nat.succ_ne_zero _) ?_
    refine V_aload_n (q := 44) dX7_onTape_43 rfl rfl rfl ?_
    refine VM_getI (q := 47) 37 dX7_onTape_44 rfl flX7_191 rfl rfl rfl (fun z44_2 ez44_2 rz44_2 => ?_)
    rw [eM38, mu_t _ _ _ _ (by decide)] at ez44_2
    rw [hx] at ez44_2
    refine V_dup2 (q := 48) dX7_onTape_47 rfl (show (0 : Nat) ≠ 2 by decide) (show (3 : Nat) ≠ 2 by decide) ?_
    refine VM_iald (q := 49) 30 dX7_onTape_48 rfl rfl (by decide) rfl rfl (by omega) (fun z48_2 ez48_2 rz48_2 => ?_)
    rw [eM38, mu_t _ _ _ _ (by decide)] at ez48_2
    rw [ez44_2] at ez48_2
    refine V_iconst (q := 50) dX7_onTape_49 rfl (by decide) ?_
    refine V_iadd (q := 51) dX7_onTape_50 rfl (by omega) (fun z50_2 ez50_2 => ?_)
    refine VM_iast (q := 52) 30 dX7_onTape_51 rfl rfl (by decide) rfl rfl (by omega) (fun M51_2 eM51_2 => ?_)
    exact VM_vret dX7_onTape_52 ⟨rfl, by { (first | rw [if_pos (by omega)] | rw [if_neg (by omega)]); simp only [ez5, ez8, ez23, ez26, ez32, ez35, ez36, eM38, ez44_2, ez48_2, ez50_2, eM51_2] }⟩
theorem tX7_fail {Γ : GC} {αC : Sh} {C M : Mem} {n w : Int} (g : RG M) : MM Γ yX7_fail cX7_fail 3 none 0 [(0, n), (0, w)] αC C M (mN fun M1 => M1 = failM n w M) := by
  obtain ⟨g1, g2, g3, g4, g5⟩ := g
  refine MM_of (k := 0) [(3, 0), (0, n), (0, w)] pn_X7_fail rfl rfl rfl (fun ad0 => ?_)
  unfold failM
  refine V_aload_n (q := 1) dX7_fail_0 rfl rfl rfl ?_
  refine VM_getI (q := 4) 47 dX7_fail_1 rfl flX7_194 rfl rfl rfl (fun z1 ez1 rz1 => ?_)
  refine V_bipush (q := 6) dX7_fail_4 rfl (by decide) ?_
  refine V_icmp_ne (q := 9) (tgt := 15) dX7_fail_6 (by decide) rfl (fun c6 => ?_) (fun c6 => ?_)
  · refine V_aload_n (q := 16) dX7_fail_15 rfl rfl rfl ?_
    refine V_dup (q := 17) dX7_fail_16 rfl (show (3 : Nat) ≠ 2 by decide) ?_
    refine VM_getI (q := 20) 47 dX7_fail_17 rfl flX7_194 rfl rfl rfl (fun z17 ez17 rz17 => ?_)
    refine V_iconst (q := 21) dX7_fail_20 rfl (by decide) ?_
    refine V_iadd (q := 22) dX7_fail_21 rfl (by omega) (fun z21 ez21 => ?_)
    refine VM_putI (q := 25) 47 dX7_fail_22 rfl flX7_194 rfl rfl rfl rfl (fun M22 eM22 => ?_)
    refine V_aload_n (q := 26) dX7_fail_25 rfl rfl rfl ?_
    refine V_iconst (q := 27) dX7_fail_26 rfl (by decide) ?_
    refine VM_putZ (q := 30) 50 dX7_fail_27 rfl flX7_201 rfl rfl rfl rfl (by omega) (fun M27 eM27 => ?_)
    refine V_aload_n (q := 31) dX7_fail_30 rfl rfl rfl ?_
    refine V_iload_n (q := 32) dX7_fail_31 rfl rfl rfl ?_
    refine VM_putI (q := 35) 51 dX7_fail_32 rfl flX7_204 rfl rfl rfl rfl (fun M32 eM32 => ?_)
    refine V_aload_n (q := 36) dX7_fail_35 rfl rfl rfl ?_
    refine V_iload_n (q := 37) dX7_fail_36 rfl rfl rfl ?_
    refine VM_putI (q := 40) 52 dX7_fail_37 rfl flX7_207 rfl rfl rfl rfl (fun M37 eM37 => ?_)
    exact VM_vret dX7_fail_40 ⟨rfl, by { (first | rw [if_pos (by omega)] | rw [if_neg (by omega)]); simp only [ez1, ez17, ez21, eM22, eM27, eM32, eM37] }⟩
  · refine V_aload_n (q := 10) dX7_fail_9 rfl rfl rfl ?_
    refine V_iconst (q := 11) dX7_fail_10 rfl (by decide) ?_
    refine VM_putZ (q := 14) 49 dX7_fail_11 rfl flX7_197 rfl rfl rfl rfl (by omega) (fun M11 eM11 => ?_)
    exact VM_vret dX7_fail_14 ⟨rfl, by { (first | rw [if_pos (by omega)] | rw [if_neg (by omega)]); simp only [ez1, eM11] }⟩
theorem tX7_pushBody {Γ : GC} {αC : Sh} {C M : Mem} {b : Int} (g : RG M) : MM Γ yX7_pushBody cX7_pushBody 2 none 0 [(0, b)] αC C M (mN fun M1 => M1 = pushM b M) := by
  obtain ⟨g1, g2, g3, g4, g5⟩ := g
  refine MM_of (k := 0) [(3, 0), (0, b)] pn_X7_pushBody rfl rfl rfl (fun ad0 => ?_)
  unfold pushM
  refine V_aload_n (q := 1) dX7_pushBody_0 rfl rfl rfl ?_
  refine VM_getI (q := 4) 44 dX7_pushBody_1 rfl flX7_210 rfl rfl rfl (fun z1 ez1 rz1 => ?_)
  refine V_bipush (q := 6) dX7_pushBody_4 rfl (by decide) ?_
  refine V_icmp_ne (q := 9) (tgt := 15) dX7_pushBody_6 (by decide) rfl (fun c6 => ?_) (fun c6 => ?_)
  · refine V_aload_n (q := 16) dX7_pushBody_15 rfl rfl rfl ?_
    refine VM_getA (q := 19) 40 dX7_pushBody_16 rfl flX7_110 rfl rfl (Nat.succ_ne_zero _) ?_
    refine V_aload_n (q := 20) dX7_pushBody_19 rfl rfl rfl ?_
    refine VM_getI (q := 23) 38 dX7_pushBody_20 rfl flX7_213 rfl rfl rfl (fun z20 ez20 rz20 => ?_)
    refine V_iconst (q := 24) dX7_pushBody_23 rfl (by decide) ?_
    refine VM_zast (q := 25) 39 dX7_pushBody_24 rfl rfl (by decide) rfl rfl (by omega) (by omega) (fun M24 eM24 => ?_)
    refine V_aload_n (q := 26) dX7_pushBody_25 rfl rfl rfl ?_
    refine VM_getA (q := 29) 41 dX7_pushBody_26 rfl flX7_113 rfl rfl (Nat.succ_ne_zero _) ?_
    refine V_aload_n (q := 30) dX7_pushBody_29 rfl rfl rfl ?_
    refine VM_getI (q := 33) 38 dX7_pushBody_30 rfl flX7_213 rfl rfl rfl (fun z30 ez30 rz30 => ?_)
    rw [eM24, mu_t _ _ _ _ (by decide)] at ez30
    refine V_iload_n (q := 34) dX7_pushBody_33 rfl rfl rfl ?_
    refine VM_iast (q := 35) 40 dX7_pushBody_34 rfl rfl (by decide) rfl rfl (by omega) (fun M34 eM34 => ?_)
    refine V_aload_n (q := 36) dX7_pushBody_35 rfl rfl rfl ?_
    refine VM_getA (q := 39) 42 dX7_pushBody_36 rfl flX7_116 rfl rfl (Nat.succ_ne_zero _) ?_
    refine V_aload_n (q := 40) dX7_pushBody_39 rfl rfl rfl ?_
    refine VM_getI (q := 43) 38 dX7_pushBody_40 rfl flX7_213 rfl rfl rfl (fun z40 ez40 rz40 => ?_)
    rw [eM34, mu_t _ _ _ _ (by decide)] at ez40
    rw [eM24, mu_t _ _ _ _ (by decide)] at ez40
    refine V_iconst (q := 44) dX7_pushBody_43 rfl (by decide) ?_
    refine VM_iast (q := 45) 41 dX7_pushBody_44 rfl rfl (by decide) rfl rfl (by omega) (fun M44 eM44 => ?_)
    refine V_aload_n (q := 46) dX7_pushBody_45 rfl rfl rfl ?_
    refine VM_getA (q := 49) 43 dX7_pushBody_46 rfl flX7_119 rfl rfl (Nat.succ_ne_zero _) ?_
    refine V_aload_n (q := 50) dX7_pushBody_49 rfl rfl rfl ?_
    refine VM_getI (q := 53) 38 dX7_pushBody_50 rfl flX7_213 rfl rfl rfl (fun z50 ez50 rz50 => ?_)
    rw [eM44, mu_t _ _ _ _ (by decide)] at ez50
    rw [eM34, mu_t _ _ _ _ (by decide)] at ez50
    rw [eM24, mu_t _ _ _ _ (by decide)] at ez50
    refine V_bipush (q := 55) dX7_pushBody_53 rfl (by decide) ?_
    refine VM_iast (q := 56) 42 dX7_pushBody_55 rfl rfl (by decide) rfl rfl (by omega) (fun M55 eM55 => ?_)
    refine V_aload_n (q := 57) dX7_pushBody_56 rfl rfl rfl ?_
    refine VM_getA (q := 60) 44 dX7_pushBody_57 rfl flX7_122 rfl rfl (Nat.succ_ne_zero _) ?_
    refine V_aload_n (q := 61) dX7_pushBody_60 rfl rfl rfl ?_
    refine VM_getI (q := 64) 38 dX7_pushBody_61 rfl flX7_213 rfl rfl rfl (fun z61 ez61 rz61 => ?_)
    rw [eM55, mu_t _ _ _ _ (by decide)] at ez61
    rw [eM44, mu_t _ _ _ _ (by decide)] at ez61
    rw [eM34, mu_t _ _ _ _ (by decide)] at ez61
    rw [eM24, mu_t _ _ _ _ (by decide)] at ez61
    refine V_iconst (q := 65) dX7_pushBody_64 rfl (by decide) ?_
    refine VM_zast (q := 66) 43 dX7_pushBody_65 rfl rfl (by decide) rfl rfl (by omega) (by omega) (fun M65 eM65 => ?_)
    refine V_aload_n (q := 67) dX7_pushBody_66 rfl rfl rfl ?_
    refine VM_getA (q := 70) 58 dX7_pushBody_67 rfl flX7_125 rfl rfl (Nat.succ_ne_zero _) ?_
    refine V_aload_n (q := 71) dX7_pushBody_70 rfl rfl rfl ?_
    refine VM_getI (q := 74) 38 dX7_pushBody_71 rfl flX7_213 rfl rfl rfl (fun z71 ez71 rz71 => ?_)
    rw [eM65, mu_t _ _ _ _ (by decide)] at ez71
    rw [eM55, mu_t _ _ _ _ (by decide)] at ez71
    rw [eM44, mu_t _ _ _ _ (by decide)] at ez71
    rw [eM34, mu_t _ _ _ _ (by decide)] at ez71
    rw [eM24, mu_t _ _ _ _ (by decide)] at ez71
    refine V_iconst (q := 75) dX7_pushBody_74 rfl (by decide) ?_
    refine VM_zast (q := 76) 57 dX7_pushBody_75 rfl rfl (by decide) rfl rfl (by omega) (by omega) (fun M75 eM75 => ?_)
    refine V_aload_n (q := 77) dX7_pushBody_76 rfl rfl rfl ?_
    refine V_dup (q := 78) dX7_pushBody_77 rfl (show (3 : Nat) ≠ 2 by decide) ?_
    refine VM_getI (q := 81) 38 dX7_pushBody_78 rfl flX7_213 rfl rfl rfl (fun z78 ez78 rz78 => ?_)
    rw [eM75, mu_t _ _ _ _ (by decide)] at ez78
    rw [eM65, mu_t _ _ _ _ (by decide)] at ez78
    rw [eM55, mu_t _ _ _ _ (by decide)] at ez78
    rw [eM44, mu_t _ _ _ _ (by decide)] at ez78
    rw [eM34, mu_t _ _ _ _ (by decide)] at ez78
    rw [eM24, mu_t _ _ _ _ (by decide)] at ez78
    refine V_iconst (q := 82) dX7_pushBody_81 rfl (by decide) ?_
    refine V_iadd (q := 83) dX7_pushBody_82 rfl (by omega) (fun z82 ez82 => ?_)
    refine VM_putI (q := 86) 38 dX7_pushBody_83 rfl flX7_213 rfl rfl rfl rfl (fun M83 eM83 => ?_)
    refine V_aload_n (q := 87) dX7_pushBody_86 rfl rfl rfl ?_
    refine V_dup (q := 88) dX7_pushBody_87 rfl (show (3 : Nat) ≠ 2 by decide) ?_
    refine VM_getI (q := 91) 44 dX7_pushBody_88 rfl flX7_210 rfl rfl rfl (fun z88 ez88 rz88 => ?_)
    rw [eM83, mu_t _ _ _ _ (by decide)] at ez88
    rw [eM75, mu_t _ _ _ _ (by decide)] at ez88
    rw [eM65, mu_t _ _ _ _ (by decide)] at ez88
    rw [eM55, mu_t _ _ _ _ (by decide)] at ez88
    rw [eM44, mu_t _ _ _ _ (by decide)] at ez88
    rw [eM34, mu_t _ _ _ _ (by decide)] at ez88
    rw [eM24, mu_t _ _ _ _ (by decide)] at ez88
    refine V_iconst (q := 92) dX7_pushBody_91 rfl (by decide) ?_
    refine V_iadd (q := 93) dX7_pushBody_92 rfl (by omega) (fun z92 ez92 => ?_)
    refine VM_putI (q := 96) 44 dX7_pushBody_93 rfl flX7_210 rfl rfl rfl rfl (fun M93 eM93 => ?_)
    refine V_aload_n (q := 97) dX7_pushBody_96 rfl rfl rfl ?_
    refine V_aload_n (q := 98) dX7_pushBody_97 rfl rfl rfl ?_
    refine VM_getI (q := 101) 46 dX7_pushBody_98 rfl flX7_216 rfl rfl rfl (fun z98 ez98 rz98 => ?_)
    rw [eM93, mu_t _ _ _ _ (by decide)] at ez98
    rw [eM83, mu_t _ _ _ _ (by decide)] at ez98
    rw [eM75, mu_t _ _ _ _ (by decide)] at ez98
    rw [eM65, mu_t _ _ _ _ (by decide)] at ez98
    rw [eM55, mu_t _ _ _ _ (by decide)] at ez98
    rw [eM44, mu_t _ _ _ _ (by decide)] at ez98
    rw [eM34, mu_t _ _ _ _ (by decide)] at ez98
    rw [eM24, mu_t _ _ _ _ (by decide)] at ez98
    refine V_aload_n (q := 102) dX7_pushBody_101 rfl rfl rfl ?_
    refine VM_getI (q := 105) 44 dX7_pushBody_102 rfl flX7_210 rfl rfl rfl (fun z102 ez102 rz102 => ?_)
    rw [eM93, mu_s] at ez102
    refine V_icmp_le (q := 108) (tgt := 115) dX7_pushBody_105 (by decide) rfl (fun c105 => ?_) (fun c105 => ?_)
    · refine V_aload_n (q := 116) dX7_pushBody_115 rfl rfl rfl ?_
      refine VM_getI (q := 119) 44 dX7_pushBody_116 rfl flX7_210 rfl rfl rfl (fun z116 ez116 rz116 => ?_)
      rw [eM93, mu_s] at ez116
      refine VM_putI (q := 122) 46 dX7_pushBody_119 rfl flX7_216 rfl rfl rfl rfl (fun M119 eM119 => ?_)
      exact VM_vret dX7_pushBody_122 ⟨rfl, by { (first | rw [if_pos (by omega)] | rw [if_neg (by omega)]); first | (simp only [ez1, ez20, eM24, ez30, eM34, ez40, eM44, ez50, eM55, ez61, eM65, ez71, eM75, ez78, ez82, eM83, ez88, ez92, eM93, ez98, ez102, ez116, eM119]; done) | (rw [if_pos (by omega)]; simp only [ez1, ez20, eM24, ez30, eM34, ez40, eM44, ez50, eM55, ez61, eM65, ez71, eM75, ez78, ez82, eM83, ez88, ez92, eM93, ez98, ez102, ez116, eM119]) | (rw [if_neg (show ¬ M 46 0 ≤ M 44 0 + 1 by omega)]; simp only [ez1, ez20, eM24, ez30, eM34, ez40, eM44, ez50, eM55, ez61, eM65, ez71, eM75, ez78, ez82, eM83, ez88, ez92, eM93, ez98, ez102, ez116, eM119]) }⟩
    · refine V_aload_n (q := 109) dX7_pushBody_108 rfl rfl rfl ?_
      refine VM_getI (q := 112) 46 dX7_pushBody_109 rfl flX7_216 rfl rfl rfl (fun z109 ez109 rz109 => ?_)
      rw [eM93, mu_t _ _ _ _ (by decide)] at ez109
      rw [eM83, mu_t _ _ _ _ (by decide)] at ez109
      rw [eM75, mu_t _ _ _ _ (by decide)] at ez109
      rw [eM65, mu_t _ _ _ _ (by decide)] at ez109
      rw [eM55, mu_t _ _ _ _ (by decide)] at ez109
      rw [eM44, mu_t _ _ _ _ (by decide)] at ez109
      rw [eM34, mu_t _ _ _ _ (by decide)] at ez109
      rw [eM24, mu_t _ _ _ _ (by decide)] at ez109
      refine V_goto (tgt := 119) dX7_pushBody_112 (by decide) ?_
      refine VM_putI (q := 122) 46 dX7_pushBody_119 rfl flX7_216 rfl rfl rfl rfl (fun M119_2 eM119_2 => ?_)
      exact VM_vret dX7_pushBody_122 ⟨rfl, by { (first | rw [if_pos (by omega)] | rw [if_neg (by omega)]); first | (simp only [ez1, ez20, eM24, ez30, eM34, ez40, eM44, ez50, eM55, ez61, eM65, ez71, eM75, ez78, ez82, eM83, ez88, ez92, eM93, ez98, ez102, ez109, eM119_2]; done) | (rw [if_pos (by omega)]; simp only [ez1, ez20, eM24, ez30, eM34, ez40, eM44, ez50, eM55, ez61, eM65, ez71, eM75, ez78, ez82, eM83, ez88, ez92, eM93, ez98, ez102, ez109, eM119_2]) | (rw [if_neg (show ¬ M 46 0 ≤ M 44 0 + 1 by omega)]; simp only [ez1, ez20, eM24, ez30, eM34, ez40, eM44, ez50, eM55, ez61, eM65, ez71, eM75, ez78, ez82, eM83, ez88, ez92, eM93, ez98, ez102, ez109, eM119_2]) }⟩
  · refine V_aload_n (q := 10) dX7_pushBody_9 rfl rfl rfl ?_
    refine V_iconst (q := 11) dX7_pushBody_10 rfl (by decide) ?_
    refine VM_putZ (q := 14) 49 dX7_pushBody_11 rfl flX7_197 rfl rfl rfl rfl (by omega) (fun M11 eM11 => ?_)
    exact VM_vret dX7_pushBody_14 ⟨rfl, by { (first | rw [if_pos (by omega)] | rw [if_neg (by omega)]); first | (simp only [ez1, eM11]; done) | (rw [if_pos (by omega)]; simp only [ez1, eM11]) | (rw [if_neg (show ¬ M 46 0 ≤ M 44 0 + 1 by omega)]; simp only [ez1, eM11]) }⟩
theorem tX7_did {Γ : GC} {αC : Sh} {C M : Mem} {f : Int} (hf : 0 ≤ f ∧ f ≤ 99) (h : 0 ≤ M 41 f ∧ M 41 f ≤ 100) : MM Γ yX7_did cX7_did 2 none 0 [(0, f)] αC C M (mN fun M1 => M1 = didM f M) := by
  refine MM_of (k := 0) [(3, 0), (0, f)] pn_X7_did rfl rfl rfl (fun ad0 => ?_)
  unfold didM
  refine V_aload_n (q := 1) dX7_did_0 rfl rfl rfl ?_
  refine VM_getA (q := 4) 42 dX7_did_1 rfl flX7_116 rfl rfl (Nat.succ_ne_zero _) ?_
  refine V_iload_n (q := 5) dX7_did_4 rfl rfl rfl ?_
  refine V_dup2 (q := 6) dX7_did_5 rfl (show (0 : Nat) ≠ 2 by decide) (show (3 : Nat) ≠ 2 by decide) ?_
  refine VM_iald (q := 7) 41 dX7_did_6 rfl rfl (by decide) rfl rfl (by omega) (fun z6 ez6 rz6 => ?_)
  refine V_iconst (q := 8) dX7_did_7 rfl (by decide) ?_
  refine V_iadd (q := 9) dX7_did_8 rfl (by omega) (fun z8 ez8 => ?_)
  refine VM_iast (q := 10) 41 dX7_did_9 rfl rfl (by decide) rfl rfl (by omega) (fun M9 eM9 => ?_)
  refine V_aload_n (q := 11) dX7_did_10 rfl rfl rfl ?_
  refine VM_getA (q := 14) 43 dX7_did_11 rfl flX7_119 rfl rfl (Nat.succ_ne_zero _) ?_
  refine V_iload_n (q := 15) dX7_did_14 rfl rfl rfl ?_
  refine V_bipush (q := 17) dX7_did_15 rfl (by decide) ?_
  refine VM_iast (q := 18) 42 dX7_did_17 rfl rfl (by decide) rfl rfl (by omega) (fun M17 eM17 => ?_)
  refine V_aload_n (q := 19) dX7_did_18 rfl rfl rfl ?_
  refine VM_getA (q := 22) 44 dX7_did_19 rfl flX7_122 rfl rfl (Nat.succ_ne_zero _) ?_
  refine V_iload_n (q := 23) dX7_did_22 rfl rfl rfl ?_
  refine V_iconst (q := 24) dX7_did_23 rfl (by decide) ?_
  refine VM_zast (q := 25) 43 dX7_did_24 rfl rfl (by decide) rfl rfl (by omega) (by omega) (fun M24 eM24 => ?_)
  exact VM_vret dX7_did_25 ⟨rfl, by { simp only [ez6, ez8, eM9, eM17, eM24] }⟩
