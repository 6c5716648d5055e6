/-! THE REFERENCE: touch, foretell -/
def cmM (M : Mem) : Int := if M 49 0 ≠ 0 then 5 else if M 50 0 = 0 then 0 else if M 51 0 = 20 then 1 else if M 51 0 = 21 then 2 else if M 51 0 = 22 then 3 else 4
def tchM (x : Int) (Mg : Mem) : Mem := mu (mu (mu (mu (mu (mu (if cmM Mg = 5 then copyM Mg 12 x else Mg) 34 x (if cmM Mg = 0 ∨ cmM Mg = 5 then -6 else Mg 51 0)) 35 x (if cmM Mg = 1 ∨ cmM Mg = 2 then Mg 52 0 else -6)) 36 (4 * x) (Mg 45 0)) 36 (4 * x + 1) (Mg 46 0)) 36 (4 * x + 2) (Mg 47 0)) 36 (4 * x + 3) (Mg 48 0)
theorem copyM_f (M : Mem) {a b k : Int} (h : k < 28 ∨ 33 < k) : copyM M a b k = M k := by
  unfold copyM
  rw [mu_f _ _ _ _ (by omega), mu_f _ _ _ _ (by omega), cpM_f _ (by omega), cpM_f _ (by omega), cpM_f _ (by omega), cpM_f _ (by omega)]
theorem refR_rng (M : Mem) (x k t n : Int) : refR M x k t n = 0 ∨ refR M x k t n < 0 := by
  unfold refR
  (repeat' split) <;> omega
theorem tX7_cameTo {Γ : GC} {αC : Sh} {C M : Mem}  : MM Γ yX7_cameTo cX7_cameTo 1 (some .int) 0 [] αC C M (mI fun r M1 => M1 = M ∧ r = cmM M) := by
  refine MM_of (k := 0) [(3, 0)] pn_X7_cameTo rfl rfl rfl (fun ad0 => ?_)
  refine V_aload_n (q := 1) dX7_cameTo_0 rfl rfl rfl ?_
  refine VM_getZ (q := 4) 49 dX7_cameTo_1 rfl flX7_197 rfl rfl rfl (fun z1 ez1 rz1 => ?_)
  refine V_if_eq (q := 7) (tgt := 11) dX7_cameTo_4 (by decide) rfl (fun c4 => ?_) (fun c4 => ?_)
  · refine V_aload_n (q := 12) dX7_cameTo_11 rfl rfl rfl ?_
    refine VM_getZ (q := 15) 50 dX7_cameTo_12 rfl flX7_201 rfl rfl rfl (fun z12 ez12 rz12 => ?_)
    refine V_if_ne (q := 18) (tgt := 22) dX7_cameTo_15 (by decide) rfl (fun c15 => ?_) (fun c15 => ?_)
    · refine V_aload_n (q := 23) dX7_cameTo_22 rfl rfl rfl ?_
      refine VM_getI (q := 26) 51 dX7_cameTo_23 rfl flX7_204 rfl rfl rfl (fun z23 ez23 rz23 => ?_)
      refine V_bipush (q := 28) dX7_cameTo_26 rfl (by decide) ?_
      refine V_icmp_ne (q := 31) (tgt := 35) dX7_cameTo_28 (by decide) rfl (fun c28 => ?_) (fun c28 => ?_)
      · refine V_aload_n (q := 36) dX7_cameTo_35 rfl rfl rfl ?_
        refine VM_getI (q := 39) 51 dX7_cameTo_36 rfl flX7_204 rfl rfl rfl (fun z36 ez36 rz36 => ?_)
        refine V_bipush (q := 41) dX7_cameTo_39 rfl (by decide) ?_
        refine V_icmp_ne (q := 44) (tgt := 48) dX7_cameTo_41 (by decide) rfl (fun c41 => ?_) (fun c41 => ?_)
        · refine V_aload_n (q := 49) dX7_cameTo_48 rfl rfl rfl ?_
          refine VM_getI (q := 52) 51 dX7_cameTo_49 rfl flX7_204 rfl rfl rfl (fun z49 ez49 rz49 => ?_)
          refine V_bipush (q := 54) dX7_cameTo_52 rfl (by decide) ?_
          refine V_icmp_ne (q := 57) (tgt := 61) dX7_cameTo_54 (by decide) rfl (fun c54 => ?_) (fun c54 => ?_)
          · refine V_iconst (q := 62) dX7_cameTo_61 rfl (by decide) ?_
            first | (exfalso; omega) | exact VM_iret dX7_cameTo_62 ⟨_, rfl, rfl, by { unfold cmM; (repeat' (first | rw [if_pos (by omega)] | rw [if_neg (by omega)])); try omega }⟩
          · refine V_iconst (q := 58) dX7_cameTo_57 rfl (by decide) ?_
            refine V_goto (tgt := 62) dX7_cameTo_58 (by decide) ?_
            first | (exfalso; omega) | exact VM_iret dX7_cameTo_62 ⟨_, rfl, rfl, by { unfold cmM; (repeat' (first | rw [if_pos (by omega)] | rw [if_neg (by omega)])); try omega }⟩
        · refine V_iconst (q := 45) dX7_cameTo_44 rfl (by decide) ?_
          refine V_goto (tgt := 62) dX7_cameTo_45 (by decide) ?_
          first | (exfalso; omega) | exact VM_iret dX7_cameTo_62 ⟨_, rfl, rfl, by { unfold cmM; (repeat' (first | rw [if_pos (by omega)] | rw [if_neg (by omega)])); try omega }⟩
      · refine V_iconst (q := 32) dX7_cameTo_31 rfl (by decide) ?_
        refine V_goto (tgt := 62) dX7_cameTo_32 (by decide) ?_
        first | (exfalso; omega) | exact VM_iret dX7_cameTo_62 ⟨_, rfl, rfl, by { unfold cmM; (repeat' (first | rw [if_pos (by omega)] | rw [if_neg (by omega)])); try omega }⟩
    · refine V_iconst (q := 19) dX7_cameTo_18 rfl (by decide) ?_
      refine V_goto (tgt := 62) dX7_cameTo_19 (by decide) ?_
      first | (exfalso; omega) | exact VM_iret dX7_cameTo_62 ⟨_, rfl, rfl, by { unfold cmM; (repeat' (first | rw [if_pos (by omega)] | rw [if_neg (by omega)])); try omega }⟩
  · refine V_iconst (q := 8) dX7_cameTo_7 rfl (by decide) ?_
    refine V_goto (tgt := 62) dX7_cameTo_8 (by decide) ?_
    first | (exfalso; omega) | exact VM_iret dX7_cameTo_62 ⟨_, rfl, rfl, by { unfold cmM; (repeat' (first | rw [if_pos (by omega)] | rw [if_neg (by omega)])); try omega }⟩
theorem tX7_touch {Γ : GC} {αC : Sh} {C M : Mem} {x k t n v : Int} {Q : Mem → Prop} (w : WFD M) (hxx : refR M x k t n = 0 → 0 ≤ x ∧ x ≤ 11) (h : refR M x k t n = 0 → ∀ G : Mem → Prop, Mach Q G → G (goM (copyM M x 12) x k t n v)) : MM Γ yX7_touch cX7_touch 8 (some .int) 6 [(0, x), (0, k), (0, t), (0, n), (0, v)] αC C M (mI fun r M1 => (refR M x k t n ≠ 0 ∧ r = refR M x k t n ∧ M1 = M) ∨ (refR M x k t n = 0 ∧ ∃ Mg, Q Mg ∧ r = cmM Mg ∧ M1 = tchM x Mg)) := by
  have hn0 := w.n
  have hw0 := w.w
  refine MM_of (k := 2) [(3, 0), (0, x), (0, k), (0, t), (0, n), (0, v), (9, 0), (9, 0)] pn_X7_touch rfl rfl rfl (fun ad0 => ?_)
  refine V_aload_n (q := 1) dX7_touch_0 rfl rfl rfl ?_
  refine V_iload_n (q := 2) dX7_touch_1 rfl rfl rfl ?_
  refine V_iload_n (q := 3) dX7_touch_2 rfl rfl rfl ?_
  refine V_iload_n (q := 4) dX7_touch_3 rfl rfl rfl ?_
  refine V_iload (q := 6) dX7_touch_4 rfl rfl ?_
  refine VM_callI (q := 9) (As := [(0, x), (0, k), (0, t), (0, n)]) (tX7_refusal (C := C) (M := M) w) dX7_touch_6 rfl mlX7_283 mw_X7_refusal im_X7_refusal sl_X7_refusal md_X7_refusal rfl rfl rfl (by decide) (by decide) (Nat.le_refl _) (Nat.le_refl _) (Nat.le_of_ble_eq_true rfl) (fun z6 M6 rz6 hz6 => ?_)
  obtain ⟨hm, hz6⟩ := hz6
  replace hm := hm.symm
  subst hm
  have hrr := refR_rng M x k t n
  refine V_istore (q := 11) (lv1 := [(3, 0), (0, x), (0, k), (0, t), (0, n), (0, v), (0, z6), (9, 0)]) dX7_touch_9 rfl (by decide) rfl rfl ?_
  refine V_iload (q := 13) dX7_touch_11 rfl rfl ?_
  refine V_if_ge (q := 16) (tgt := 19) dX7_touch_13 (by decide) rfl (fun c13 => ?_) (fun c13 => ?_)
  · refine V_aload_n (q := 20) dX7_touch_19 rfl rfl rfl ?_
    refine V_iload_n (q := 21) dX7_touch_20 rfl rfl rfl ?_
    refine V_bipush (q := 23) dX7_touch_21 rfl (by decide) ?_
    have hrf : refR M x k t n = 0 := by omega
    have hx := hxx hrf
    refine VM_callN (q := 26) (As := [(0, x), (0, 12)]) (tX7_copy (C := C) (M := M) ⟨by omega, by omega⟩ ⟨by omega, by omega⟩ (by omega)) dX7_touch_23 rfl mlX7_287 mw_X7_copy im_X7_copy sl_X7_copy md_X7_copy rfl rfl rfl (by decide) (by decide) (Nat.le_refl _) (Nat.le_refl _) (Nat.le_of_ble_eq_true rfl) (fun M23 hM23 => ?_)
    refine V_aload_n (q := 27) dX7_touch_26 rfl rfl rfl ?_
    refine V_iload_n (q := 28) dX7_touch_27 rfl rfl rfl ?_
    refine V_iload_n (q := 29) dX7_touch_28 rfl rfl rfl ?_
    refine V_iload_n (q := 30) dX7_touch_29 rfl rfl rfl ?_
    refine V_iload (q := 32) dX7_touch_30 rfl rfl ?_
    refine V_iload (q := 34) dX7_touch_32 rfl rfl ?_
    refine VM_callN (q := 37) (As := [(0, x), (0, k), (0, t), (0, n), (0, v)]) (tX7_go (C := C) (M := M23) (Q := Q) (by { rw [hM23]; exact h hrf })) dX7_touch_34 rfl mlX7_290 mw_X7_go im_X7_go sl_X7_go md_X7_go rfl rfl rfl (by decide) (by decide) (Nat.le_refl _) (Nat.le_refl _) (Nat.le_of_ble_eq_true rfl) (fun M34 hM34 => ?_)
    refine V_aload_n (q := 38) dX7_touch_37 rfl rfl rfl ?_
    refine VM_callI (q := 41) (As := []) (tX7_cameTo (C := C) (M := M34)) dX7_touch_38 rfl mlX7_294 mw_X7_cameTo im_X7_cameTo sl_X7_cameTo md_X7_cameTo rfl rfl rfl (by decide) (by decide) (Nat.le_refl _) (Nat.le_refl _) (Nat.le_of_ble_eq_true rfl) (fun z38 M38 rz38 hz38 => ?_)
    obtain ⟨hm, hz38⟩ := hz38
    replace hm := hm.symm
    subst hm
    refine V_istore (q := 43) (lv1 := [(3, 0), (0, x), (0, k), (0, t), (0, n), (0, v), (0, z6), (0, z38)]) dX7_touch_41 rfl (by decide) rfl rfl ?_
    refine V_iload (q := 45) dX7_touch_43 rfl rfl ?_
    refine V_iconst (q := 46) dX7_touch_45 rfl (by decide) ?_
    refine V_icmp_ne (q := 49) (tgt := 56) dX7_touch_46 (by decide) rfl (fun c46 => ?_) (fun c46 => ?_)
    · refine V_aload_n (q := 57) dX7_touch_56 rfl rfl rfl ?_
      refine VM_getA (q := 60) 35 dX7_touch_57 rfl flX7_101 rfl rfl (Nat.succ_ne_zero _) ?_
      refine V_iload_n (q := 61) dX7_touch_60 rfl rfl rfl ?_
      refine V_iload (q := 63) dX7_touch_61 rfl rfl ?_
      refine V_if_eq (q := 66) (tgt := 72) dX7_touch_63 (by decide) rfl (fun c63 => ?_) (fun c63 => ?_)
      · refine V_bipush (q := 74) dX7_touch_72 rfl (by decide) ?_
        refine V_goto (tgt := 81) dX7_touch_74 (by decide) ?_
        refine VM_iast (q := 82) 34 dX7_touch_81 rfl rfl (by decide) rfl rfl (by omega) (fun M81 eM81 => ?_)
        refine V_aload_n (q := 83) dX7_touch_82 rfl rfl rfl ?_
        refine VM_getA (q := 86) 36 dX7_touch_83 rfl flX7_104 rfl rfl (Nat.succ_ne_zero _) ?_
        refine V_iload_n (q := 87) dX7_touch_86 rfl rfl rfl ?_
        refine V_iload (q := 89) dX7_touch_87 rfl rfl ?_
        refine V_iconst (q := 90) dX7_touch_89 rfl (by decide) ?_
        refine V_icmp_eq (q := 93) (tgt := 99) dX7_touch_90 (by decide) rfl (fun c90 => ?_) (fun c90 => ?_)
        · refine V_aload_n (q := 100) dX7_touch_99 rfl rfl rfl ?_
          refine VM_getI (q := 103) 52 dX7_touch_100 rfl flX7_207 rfl rfl rfl (fun z100 ez100 rz100 => ?_)
          rw [eM81, mu_t _ _ _ _ (by decide)] at ez100
          refine V_goto (tgt := 108) dX7_touch_103 (by decide) ?_
          refine VM_iast (q := 109) 35 dX7_touch_108 rfl rfl (by decide) rfl rfl (by omega) (fun M108 eM108 => ?_)
          refine V_aload_n (q := 110) dX7_touch_109 rfl rfl rfl ?_
          refine VM_getA (q := 113) 37 dX7_touch_110 rfl flX7_107 rfl rfl (Nat.succ_ne_zero _) ?_
          refine V_iconst (q := 114) dX7_touch_113 rfl (by decide) ?_
          refine V_iload_n (q := 115) dX7_touch_114 rfl rfl rfl ?_
          refine V_imul (q := 116) dX7_touch_115 rfl (by omega) (fun z115 ez115 => ?_)
          refine V_aload_n (q := 117) dX7_touch_116 rfl rfl rfl ?_
          refine VM_getI (q := 120) 45 dX7_touch_117 rfl flX7_250 rfl rfl rfl (fun z117 ez117 rz117 => ?_)
          rw [eM108, mu_t _ _ _ _ (by decide)] at ez117
          rw [eM81, mu_t _ _ _ _ (by decide)] at ez117
          refine VM_iast (q := 121) 36 dX7_touch_120 rfl rfl (by decide) rfl rfl (by omega) (fun M120 eM120 => ?_)
          refine V_aload_n (q := 122) dX7_touch_121 rfl rfl rfl ?_
          refine VM_getA (q := 125) 37 dX7_touch_122 rfl flX7_107 rfl rfl (Nat.succ_ne_zero _) ?_
          refine V_iconst (q := 126) dX7_touch_125 rfl (by decide) ?_
          refine V_iload_n (q := 127) dX7_touch_126 rfl rfl rfl ?_
          refine V_imul (q := 128) dX7_touch_127 rfl (by omega) (fun z127 ez127 => ?_)
          refine V_iconst (q := 129) dX7_touch_128 rfl (by decide) ?_
          refine V_iadd (q := 130) dX7_touch_129 rfl (by omega) (fun z129 ez129 => ?_)
          refine V_aload_n (q := 131) dX7_touch_130 rfl rfl rfl ?_
          refine VM_getI (q := 134) 46 dX7_touch_131 rfl flX7_216 rfl rfl rfl (fun z131 ez131 rz131 => ?_)
          rw [eM120, mu_t _ _ _ _ (by decide)] at ez131
          rw [eM108, mu_t _ _ _ _ (by decide)] at ez131
          rw [eM81, mu_t _ _ _ _ (by decide)] at ez131
          refine VM_iast (q := 135) 36 dX7_touch_134 rfl rfl (by decide) rfl rfl (by omega) (fun M134 eM134 => ?_)
          refine V_aload_n (q := 136) dX7_touch_135 rfl rfl rfl ?_
          refine VM_getA (q := 139) 37 dX7_touch_136 rfl flX7_107 rfl rfl (Nat.succ_ne_zero _) ?_
          refine V_iconst (q := 140) dX7_touch_139 rfl (by decide) ?_
          refine V_iload_n (q := 141) dX7_touch_140 rfl rfl rfl ?_
          refine V_imul (q := 142) dX7_touch_141 rfl (by omega) (fun z141 ez141 => ?_)
          refine V_iconst (q := 143) dX7_touch_142 rfl (by decide) ?_
          refine V_iadd (q := 144) dX7_touch_143 rfl (by omega) (fun z143 ez143 => ?_)
          refine V_aload_n (q := 145) dX7_touch_144 rfl rfl rfl ?_
          refine VM_getI (q := 148) 47 dX7_touch_145 rfl flX7_194 rfl rfl rfl (fun z145 ez145 rz145 => ?_)
          rw [eM134, mu_t _ _ _ _ (by decide)] at ez145
          rw [eM120, mu_t _ _ _ _ (by decide)] at ez145
          rw [eM108, mu_t _ _ _ _ (by decide)] at ez145
          rw [eM81, mu_t _ _ _ _ (by decide)] at ez145
          refine VM_iast (q := 149) 36 dX7_touch_148 rfl rfl (by decide) rfl rfl (by omega) (fun M148 eM148 => ?_)
          refine V_aload_n (q := 150) dX7_touch_149 rfl rfl rfl ?_
          refine VM_getA (q := 153) 37 dX7_touch_150 rfl flX7_107 rfl rfl (Nat.succ_ne_zero _) ?_
          refine V_iconst (q := 154) dX7_touch_153 rfl (by decide) ?_
          refine V_iload_n (q := 155) dX7_touch_154 rfl rfl rfl ?_
          refine V_imul (q := 156) dX7_touch_155 rfl (by omega) (fun z155 ez155 => ?_)
          refine V_iconst (q := 157) dX7_touch_156 rfl (by decide) ?_
          refine V_iadd (q := 158) dX7_touch_157 rfl (by omega) (fun z157 ez157 => ?_)
          refine V_aload_n (q := 159) dX7_touch_158 rfl rfl rfl ?_
          refine VM_getI (q := 162) 48 dX7_touch_159 rfl flX7_225 rfl rfl rfl (fun z159 ez159 rz159 => ?_)
          rw [eM148, mu_t _ _ _ _ (by decide)] at ez159
          rw [eM134, mu_t _ _ _ _ (by decide)] at ez159
          rw [eM120, mu_t _ _ _ _ (by decide)] at ez159
          rw [eM108, mu_t _ _ _ _ (by decide)] at ez159
          rw [eM81, mu_t _ _ _ _ (by decide)] at ez159
          refine VM_iast (q := 163) 36 dX7_touch_162 rfl rfl (by decide) rfl rfl (by omega) (fun M162 eM162 => ?_)
          refine V_iload (q := 165) dX7_touch_163 rfl rfl ?_
          first | (exfalso; omega) | (refine VM_iret dX7_touch_165 ⟨_, rfl, Or.inr ⟨hrf, M34, hM34, by omega, ?_⟩⟩; unfold tchM; (repeat' (first | rw [if_pos (by omega)] | rw [if_neg (by omega)])); simp only [eM81, ez100, eM108, ez115, ez117, eM120, ez127, ez129, ez131, eM134, ez141, ez143, ez145, eM148, ez155, ez157, ez159, eM162])
        · refine V_iload (q := 95) dX7_touch_93 rfl rfl ?_
          refine V_iconst (q := 96) dX7_touch_95 rfl (by decide) ?_
          refine V_icmp_ne (q := 99) (tgt := 106) dX7_touch_96 (by decide) rfl (fun c96 => ?_) (fun c96 => ?_)
          · refine V_bipush (q := 108) dX7_touch_106 rfl (by decide) ?_
            refine VM_iast (q := 109) 35 dX7_touch_108 rfl rfl (by decide) rfl rfl (by omega) (fun M108_2 eM108_2 => ?_)
            refine V_aload_n (q := 110) dX7_touch_109 rfl rfl rfl ?_
            refine VM_getA (q := 113) 37 dX7_touch_110 rfl flX7_107 rfl rfl (Nat.succ_ne_zero _) ?_
            refine V_iconst (q := 114) dX7_touch_113 rfl (by decide) ?_
            refine V_iload_n (q := 115) dX7_touch_114 rfl rfl rfl ?_
            refine V_imul (q := 116) dX7_touch_115 rfl (by omega) (fun z115_2 ez115_2 => ?_)
            refine V_aload_n (q := 117) dX7_touch_116 rfl rfl rfl ?_
            refine VM_getI (q := 120) 45 dX7_touch_117 rfl flX7_250 rfl rfl rfl (fun z117_2 ez117_2 rz117_2 => ?_)
            rw [eM108_2, mu_t _ _ _ _ (by decide)] at ez117_2
            rw [eM81, mu_t _ _ _ _ (by decide)] at ez117_2
            refine VM_iast (q := 121) 36 dX7_touch_120 rfl rfl (by decide) rfl rfl (by omega) (fun M120_2 eM120_2 => ?_)
            refine V_aload_n (q := 122) dX7_touch_121 rfl rfl rfl ?_
            refine VM_getA (q := 125) 37 dX7_touch_122 rfl flX7_107 rfl rfl (Nat.succ_ne_zero _) ?_
            refine V_iconst (q := 126) dX7_touch_125 rfl (by decide) ?_
            refine V_iload_n (q := 127) dX7_touch_126 rfl rfl rfl ?_
            refine V_imul (q := 128) dX7_touch_127 rfl (by omega) (fun z127_2 ez127_2 => ?_)
            refine V_iconst (q := 129) dX7_touch_128 rfl (by decide) ?_
            refine V_iadd (q := 130) dX7_touch_129 rfl (by omega) (fun z129_2 ez129_2 => ?_)
            refine V_aload_n (q := 131) dX7_touch_130 rfl rfl rfl ?_
            refine VM_getI (q := 134) 46 dX7_touch_131 rfl flX7_216 rfl rfl rfl (fun z131_2 ez131_2 rz131_2 => ?_)
            rw [eM120_2, mu_t _ _ _ _ (by decide)] at ez131_2
            rw [eM108_2, mu_t _ _ _ _ (by decide)] at ez131_2
            rw [eM81, mu_t _ _ _ _ (by decide)] at ez131_2
            refine VM_iast (q := 135) 36 dX7_touch_134 rfl rfl (by decide) rfl rfl (by omega) (fun M134_2 eM134_2 => ?_)
            refine V_aload_n (q := 136) dX7_touch_135 rfl rfl rfl ?_
            refine VM_getA (q := 139) 37 dX7_touch_136 rfl flX7_107 rfl rfl (Nat.succ_ne_zero _) ?_
            refine V_iconst (q := 140) dX7_touch_139 rfl (by decide) ?_
            refine V_iload_n (q := 141) dX7_touch_140 rfl rfl rfl ?_
            refine V_imul (q := 142) dX7_touch_141 rfl (by omega) (fun z141_2 ez141_2 => ?_)
            refine V_iconst (q := 143) dX7_touch_142 rfl (by decide) ?_
            refine V_iadd (q := 144) dX7_touch_143 rfl (by omega) (fun z143_2 ez143_2 => ?_)
            refine V_aload_n (q := 145) dX7_touch_144 rfl rfl rfl ?_
            refine VM_getI (q := 148) 47 dX7_touch_145 rfl flX7_194 rfl rfl rfl (fun z145_2 ez145_2 rz145_2 => ?_)
            rw [eM134_2, mu_t _ _ _ _ (by decide)] at ez145_2
            rw [eM120_2, mu_t _ _ _ _ (by decide)] at ez145_2
            rw [eM108_2, mu_t _ _ _ _ (by decide)] at ez145_2
            rw [eM81, mu_t _ _ _ _ (by decide)] at ez145_2
            refine VM_iast (q := 149) 36 dX7_touch_148 rfl rfl (by decide) rfl rfl (by omega) (fun M148_2 eM148_2 => ?_)
            refine V_aload_n (q := 150) dX7_touch_149 rfl rfl rfl ?_
            refine VM_getA (q := 153) 37 dX7_touch_150 rfl flX7_107 rfl rfl (Nat.succ_ne_zero _) ?_
            refine V_iconst (q := 154) dX7_touch_153 rfl (by decide) ?_
            refine V_iload_n (q := 155) dX7_touch_154 rfl rfl rfl ?_
            refine V_imul (q := 156) dX7_touch_155 rfl (by omega) (fun z155_2 ez155_2 => ?_)
            refine V_iconst (q := 157) dX7_touch_156 rfl (by decide) ?_
            refine V_iadd (q := 158) dX7_touch_157 rfl (by omega) (fun z157_2 ez157_2 => ?_)
            refine V_aload_n (q := 159) dX7_touch_158 rfl rfl rfl ?_
            refine VM_getI (q := 162) 48 dX7_touch_159 rfl flX7_225 rfl rfl rfl (fun z159_2 ez159_2 rz159_2 => ?_)
            rw [eM148_2, mu_t _ _ _ _ (by decide)] at ez159_2
            rw [eM134_2, mu_t _ _ _ _ (by decide)] at ez159_2
            rw [eM120_2, mu_t _ _ _ _ (by decide)] at ez159_2
            rw [eM108_2, mu_t _ _ _ _ (by decide)] at ez159_2
            rw [eM81, mu_t _ _ _ _ (by decide)] at ez159_2
            refine VM_iast (q := 163) 36 dX7_touch_162 rfl rfl (by decide) rfl rfl (by omega) (fun M162_2 eM162_2 => ?_)
            refine V_iload (q := 165) dX7_touch_163 rfl rfl ?_
            first | (exfalso; omega) | (refine VM_iret dX7_touch_165 ⟨_, rfl, Or.inr ⟨hrf, M34, hM34, by omega, ?_⟩⟩; unfold tchM; (repeat' (first | rw [if_pos (by omega)] | rw [if_neg (by omega)])); simp only [eM81, eM108_2, ez115_2, ez117_2, eM120_2, ez127_2, ez129_2, ez131_2, eM134_2, ez141_2, ez143_2, ez145_2, eM148_2, ez155_2, ez157_2, ez159_2, eM162_2])
          · refine V_aload_n (q := 100) dX7_touch_99 rfl rfl rfl ?_
            refine VM_getI (q := 103) 52 dX7_touch_100 rfl flX7_207 rfl rfl rfl (fun z100_2 ez100_2 rz100_2 => ?_)
            rw [eM81, mu_t _ _ _ _ (by decide)] at ez100_2
            refine V_goto (tgt := 108) dX7_touch_103 (by decide) ?_
            refine VM_iast (q := 109) 35 dX7_touch_108 rfl rfl (by decide) rfl rfl (by omega) (fun M108_3 eM108_3 => ?_)
            refine V_aload_n (q := 110) dX7_touch_109 rfl rfl rfl ?_
            refine VM_getA (q := 113) 37 dX7_touch_110 rfl flX7_107 rfl rfl (Nat.succ_ne_zero _) ?_
            refine V_iconst (q := 114) dX7_touch_113 rfl (by decide) ?_
            refine V_iload_n (q := 115) dX7_touch_114 rfl rfl rfl ?_
            refine V_imul (q := 116) dX7_touch_115 rfl (by omega) (fun z115_3 ez115_3 => ?_)
            refine V_aload_n (q := 117) dX7_touch_116 rfl rfl rfl ?_
            refine VM_getI (q := 120) 45 dX7_touch_117 rfl flX7_250 rfl rfl rfl (fun z117_3 ez117_3 rz117_3 => ?_)
            rw [eM108_3, mu_t _ _ _ _ (by decide)] at ez117_3
            rw [eM81, mu_t _ _ _ _ (by decide)] at ez117_3
            refine VM_iast (q := 121) 36 dX7_touch_120 rfl rfl (by decide) rfl rfl (by omega) (fun M120_3 eM120_3 => ?_)
            refine V_aload_n (q := 122) dX7_touch_121 rfl rfl rfl ?_
            refine VM_getA (q := 125) 37 dX7_touch_122 rfl flX7_107 rfl rfl (Nat.succ_ne_zero _) ?_
            refine V_iconst (q := 126) dX7_touch_125 rfl (by decide) ?_
            refine V_iload_n (q := 127) dX7_touch_126 rfl rfl rfl ?_
            refine V_imul (q := 128) dX7_touch_127 rfl (by omega) (fun z127_3 ez127_3 => ?_)
            refine V_iconst (q := 129) dX7_touch_128 rfl (by decide) ?_
            refine V_iadd (q := 130) dX7_touch_129 rfl (by omega) (fun z129_3 ez129_3 => ?_)
            refine V_aload_n (q := 131) dX7_touch_130 rfl rfl rfl ?_
            refine VM_getI (q := 134) 46 dX7_touch_131 rfl flX7_216 rfl rfl rfl (fun z131_3 ez131_3 rz131_3 => ?_)
            rw [eM120_3, mu_t _ _ _ _ (by decide)] at ez131_3
            rw [eM108_3, mu_t _ _ _ _ (by decide)] at ez131_3
            rw [eM81, mu_t _ _ _ _ (by decide)] at ez131_3
            refine VM_iast (q := 135) 36 dX7_touch_134 rfl rfl (by decide) rfl rfl (by omega) (fun M134_3 eM134_3 => ?_)
            refine V_aload_n (q := 136) dX7_touch_135 rfl rfl rfl ?_
            refine VM_getA (q := 139) 37 dX7_touch_136 rfl flX7_107 rfl rfl (Nat.succ_ne_zero _) ?_
            refine V_iconst (q := 140) dX7_touch_139 rfl (by decide) ?_
            refine V_iload_n (q := 141) dX7_touch_140 rfl rfl rfl ?_
            refine V_imul (q := 142) dX7_touch_141 rfl (by omega) (fun z141_3 ez141_3 => ?_)
            refine V_iconst (q := 143) dX7_touch_142 rfl (by decide) ?_
            refine V_iadd (q := 144) dX7_touch_143 rfl (by omega) (fun z143_3 ez143_3 => ?_)
            refine V_aload_n (q := 145) dX7_touch_144 rfl rfl rfl ?_
            refine VM_getI (q := 148) 47 dX7_touch_145 rfl flX7_194 rfl rfl rfl (fun z145_3 ez145_3 rz145_3 => ?_)
            rw [eM134_3, mu_t _ _ _ _ (by decide)] at ez145_3
            rw [eM120_3, mu_t _ _ _ _ (by decide)] at ez145_3
            rw [eM108_3, mu_t _ _ _ _ (by decide)] at ez145_3
            rw [eM81, mu_t _ _ _ _ (by decide)] at ez145_3
            refine VM_iast (q := 149) 36 dX7_touch_148 rfl rfl (by decide) rfl rfl (by omega) (fun M148_3 eM148_3 => ?_)
            refine V_aload_n (q := 150) dX7_touch_149 rfl rfl rfl ?_
            refine VM_getA (q := 153) 37 dX7_touch_150 rfl flX7_107 rfl rfl (Nat.succ_ne_zero _) ?_
            refine V_iconst (q := 154) dX7_touch_153 rfl (by decide) ?_
            refine V_iload_n (q := 155) dX7_touch_154 rfl rfl rfl ?_
            refine V_imul (q := 156) dX7_touch_155 rfl (by omega) (fun z155_3 ez155_3 => ?_)
            refine V_iconst (q := 157) dX7_touch_156 rfl (by decide) ?_
            refine V_iadd (q := 158) dX7_touch_157 rfl (by omega) (fun z157_3 ez157_3 => ?_)
            refine V_aload_n (q := 159) dX7_touch_158 rfl rfl rfl ?_
            refine VM_getI (q := 162) 48 dX7_touch_159 rfl flX7_225 rfl rfl rfl (fun z159_3 ez159_3 rz159_3 => ?_)
            rw [eM148_3, mu_t _ _ _ _ (by decide)] at ez159_3
            rw [eM134_3, mu_t _ _ _ _ (by decide)] at ez159_3
            rw [eM120_3, mu_t _ _ _ _ (by decide)] at ez159_3
            rw [eM108_3, mu_t _ _ _ _ (by decide)] at ez159_3
            rw [eM81, mu_t _ _ _ _ (by decide)] at ez159_3
            refine VM_iast (q := 163) 36 dX7_touch_162 rfl rfl (by decide) rfl rfl (by omega) (fun M162_3 eM162_3 => ?_)
            refine V_iload (q := 165) dX7_touch_163 rfl rfl ?_
            first | (exfalso; omega) | (refine VM_iret dX7_touch_165 ⟨_, rfl, Or.inr ⟨hrf, M34, hM34, by omega, ?_⟩⟩; unfold tchM; (repeat' (first | rw [if_pos (by omega)] | rw [if_neg (by omega)])); simp only [eM81, ez100_2, eM108_3, ez115_3, ez117_3, eM120_3, ez127_3, ez129_3, ez131_3, eM134_3, ez141_3, ez143_3, ez145_3, eM148_3, ez155_3, ez157_3, ez159_3, eM162_3])
      · refine V_iload (q := 68) dX7_touch_66 rfl rfl ?_
        refine V_iconst (q := 69) dX7_touch_68 rfl (by decide) ?_
        refine V_icmp_ne (q := 72) (tgt := 77) dX7_touch_69 (by decide) rfl (fun c69 => ?_) (fun c69 => ?_)
        · refine V_aload_n (q := 78) dX7_touch_77 rfl rfl rfl ?_
          refine VM_getI (q := 81) 51 dX7_touch_78 rfl flX7_204 rfl rfl rfl (fun z78 ez78 rz78 => ?_)
          refine VM_iast (q := 82) 34 dX7_touch_81 rfl rfl (by decide) rfl rfl (by omega) (fun M81_2 eM81_2 => ?_)
          refine V_aload_n (q := 83) dX7_touch_82 rfl rfl rfl ?_
          refine VM_getA (q := 86) 36 dX7_touch_83 rfl flX7_104 rfl rfl (Nat.succ_ne_zero _) ?_
          refine V_iload_n (q := 87) dX7_touch_86 rfl rfl rfl ?_
          refine V_iload (q := 89) dX7_touch_87 rfl rfl ?_
          refine V_iconst (q := 90) dX7_touch_89 rfl (by decide) ?_
          refine V_icmp_eq (q := 93) (tgt := 99) dX7_touch_90 (by decide) rfl (fun c90_2 => ?_) (fun c90_2 => ?_)
          · refine V_aload_n (q := 100) dX7_touch_99 rfl rfl rfl ?_
            refine VM_getI (q := 103) 52 dX7_touch_100 rfl flX7_207 rfl rfl rfl (fun z100_3 ez100_3 rz100_3 => ?_)
            rw [eM81_2, mu_t _ _ _ _ (by decide)] at ez100_3
            refine V_goto (tgt := 108) dX7_touch_103 (by decide) ?_
            refine VM_iast (q := 109) 35 dX7_touch_108 rfl rfl (by decide) rfl rfl (by omega) (fun M108_4 eM108_4 => ?_)
            refine V_aload_n (q := 110) dX7_touch_109 rfl rfl rfl ?_
            refine VM_getA (q := 113) 37 dX7_touch_110 rfl flX7_107 rfl rfl (Nat.succ_ne_zero _) ?_
            refine V_iconst (q := 114) dX7_touch_113 rfl (by decide) ?_
            refine V_iload_n (q := 115) dX7_touch_114 rfl rfl rfl ?_
            refine V_imul (q := 116) dX7_touch_115 rfl (by omega) (fun z115_4 ez115_4 => ?_)
            refine V_aload_n (q := 117) dX7_touch_116 rfl rfl rfl ?_
            refine VM_getI (q := 120) 45 dX7_touch_117 rfl flX7_250 rfl rfl rfl (fun z117_4 ez117_4 rz117_4 => ?_)
            rw [eM108_4, mu_t _ _ _ _ (by decide)] at ez117_4
            rw [eM81_2, mu_t _ _ _ _ (by decide)] at ez117_4
            refine VM_iast (q := 121) 36 dX7_touch_120 rfl rfl (by decide) rfl rfl (by omega) (fun M120_4 eM120_4 => ?_)
            refine V_aload_n (q := 122) dX7_touch_121 rfl rfl rfl ?_
            refine VM_getA (q := 125) 37 dX7_touch_122 rfl flX7_107 rfl rfl (Nat.succ_ne_zero _) ?_
            refine V_iconst (q := 126) dX7_touch_125 rfl (by decide) ?_
            refine V_iload_n (q := 127) dX7_touch_126 rfl rfl rfl ?_
            refine V_imul (q := 128) dX7_touch_127 rfl (by omega) (fun z127_4 ez127_4 => ?_)
            refine V_iconst (q := 129) dX7_touch_128 rfl (by decide) ?_
            refine V_iadd (q := 130) dX7_touch_129 rfl (by omega) (fun z129_4 ez129_4 => ?_)
            refine V_aload_n (q := 131) dX7_touch_130 rfl rfl rfl ?_
            refine VM_getI (q := 134) 46 dX7_touch_131 rfl flX7_216 rfl rfl rfl (fun z131_4 ez131_4 rz131_4 => ?_)
            rw [eM120_4, mu_t _ _ _ _ (by decide)] at ez131_4
            rw [eM108_4, mu_t _ _ _ _ (by decide)] at ez131_4
            rw [eM81_2, mu_t _ _ _ _ (by decide)] at ez131_4
            refine VM_iast (q := 135) 36 dX7_touch_134 rfl rfl (by decide) rfl rfl (by omega) (fun M134_4 eM134_4 => ?_)
            refine V_aload_n (q := 136) dX7_touch_135 rfl rfl rfl ?_
            refine VM_getA (q := 139) 37 dX7_touch_136 rfl flX7_107 rfl rfl (Nat.succ_ne_zero _) ?_
            refine V_iconst (q := 140) dX7_touch_139 rfl (by decide) ?_
            refine V_iload_n (q := 141) dX7_touch_140 rfl rfl rfl ?_
            refine V_imul (q := 142) dX7_touch_141 rfl (by omega) (fun z141_4 ez141_4 => ?_)
            refine V_iconst (q := 143) dX7_touch_142 rfl (by decide) ?_
            refine V_iadd (q := 144) dX7_touch_143 rfl (by omega) (fun z143_4 ez143_4 => ?_)
            refine V_aload_n (q := 145) dX7_touch_144 rfl rfl rfl ?_
            refine VM_getI (q := 148) 47 dX7_touch_145 rfl flX7_194 rfl rfl rfl (fun z145_4 ez145_4 rz145_4 => ?_)
            rw [eM134_4, mu_t _ _ _ _ (by decide)] at ez145_4
            rw [eM120_4, mu_t _ _ _ _ (by decide)] at ez145_4
            rw [eM108_4, mu_t _ _ _ _ (by decide)] at ez145_4
            rw [eM81_2, mu_t _ _ _ _ (by decide)] at ez145_4
            refine VM_iast (q := 149) 36 dX7_touch_148 rfl rfl (by decide) rfl rfl (by omega) (fun M148_4 eM148_4 => ?_)
            refine V_aload_n (q := 150) dX7_touch_149 rfl rfl rfl ?_
            refine VM_getA (q := 153) 37 dX7_touch_150 rfl flX7_107 rfl rfl (Nat.succ_ne_zero _) ?_
            refine V_iconst (q := 154) dX7_touch_153 rfl (by decide) ?_
            refine V_iload_n (q := 155) dX7_touch_154 rfl rfl rfl ?_
            refine V_imul (q := 156) dX7_touch_155 rfl (by omega) (fun z155_4 ez155_4 => ?_)
            refine V_iconst (q := 157) dX7_touch_156 rfl (by decide) ?_
            refine V_iadd (q := 158) dX7_touch_157 rfl (by omega) (fun z157_4 ez157_4 => ?_)
            refine V_aload_n (q := 159) dX7_touch_158 rfl rfl rfl ?_
            refine VM_getI (q := 162) 48 dX7_touch_159 rfl flX7_225 rfl rfl rfl (fun z159_4 ez159_4 rz159_4 => ?_)
            rw [eM148_4, mu_t _ _ _ _ (by decide)] at ez159_4
            rw [eM134_4, mu_t _ _ _ _ (by decide)] at ez159_4
            rw [eM120_4, mu_t _ _ _ _ (by decide)] at ez159_4
            rw [eM108_4, mu_t _ _ _ _ (by decide)] at ez159_4
            rw [eM81_2, mu_t _ _ _ _ (by decide)] at ez159_4
            refine VM_iast (q := 163) 36 dX7_touch_162 rfl rfl (by decide) rfl rfl (by omega) (fun M162_4 eM162_4 => ?_)
            refine V_iload (q := 165) dX7_touch_163 rfl rfl ?_
            first | (exfalso; omega) | (refine VM_iret dX7_touch_165 ⟨_, rfl, Or.inr ⟨hrf, M34, hM34, by omega, ?_⟩⟩; unfold tchM; (repeat' (first | rw [if_pos (by omega)] | rw [if_neg (by omega)])); simp only [ez78, eM81_2, ez100_3, eM108_4, ez115_4, ez117_4, eM120_4, ez127_4, ez129_4, ez131_4, eM134_4, ez141_4, ez143_4, ez145_4, eM148_4, ez155_4, ez157_4, ez159_4, eM162_4])
          · refine V_iload (q := 95) dX7_touch_93 rfl rfl ?_
            refine V_iconst (q := 96) dX7_touch_95 rfl (by decide) ?_
            refine V_icmp_ne (q := 99) (tgt := 106) dX7_touch_96 (by decide) rfl (fun c96_2 => ?_) (fun c96_2 => ?_)
            · refine V_bipush (q := 108) dX7_touch_106 rfl (by decide) ?_
              refine VM_iast (q := 109) 35 dX7_touch_108 rfl rfl (by decide) rfl rfl (by omega) (fun M108_5 eM108_5 => ?_)
              refine V_aload_n (q := 110) dX7_touch_109 rfl rfl rfl ?_
              refine VM_getA (q := 113) 37 dX7_touch_110 rfl flX7_107 rfl rfl (Nat.succ_ne_zero _) ?_
              refine V_iconst (q := 114) dX7_touch_113 rfl (by decide) ?_
              refine V_iload_n (q := 115) dX7_touch_114 rfl rfl rfl ?_
              refine V_imul (q := 116) dX7_touch_115 rfl (by omega) (fun z115_5 ez115_5 => ?_)
              refine V_aload_n (q := 117) dX7_touch_116 rfl rfl rfl ?_
              refine VM_getI (q := 120) 45 dX7_touch_117 rfl flX7_250 rfl rfl rfl (fun z117_5 ez117_5 rz117_5 => ?_)
              rw [eM108_5, mu_t _ _ _ _ (by decide)] at ez117_5
              rw [eM81_2, mu_t _ _ _ _ (by decide)] at ez117_5
              refine VM_iast (q := 121) 36 dX7_touch_120 rfl rfl (by decide) rfl rfl (by omega) (fun M120_5 eM120_5 => ?_)
              refine V_aload_n (q := 122) dX7_touch_121 rfl rfl rfl ?_
              refine VM_getA (q := 125) 37 dX7_touch_122 rfl flX7_107 rfl rfl (Nat.succ_ne_zero _) ?_
              refine V_iconst (q := 126) dX7_touch_125 rfl (by decide) ?_
              refine V_iload_n (q := 127) dX7_touch_126 rfl rfl rfl ?_
              refine V_imul (q := 128) dX7_touch_127 rfl (by omega) (fun z127_5 ez127_5 => ?_)
              refine V_iconst (q := 129) dX7_touch_128 rfl (by decide) ?_
              refine V_iadd (q := 130) dX7_touch_129 rfl (by omega) (fun z129_5 ez129_5 => ?_)
              refine V_aload_n (q := 131) dX7_touch_130 rfl rfl rfl ?_
              refine VM_getI (q := 134) 46 dX7_touch_131 rfl flX7_216 rfl rfl rfl (fun z131_5 ez131_5 rz131_5 => ?_)
              rw [eM120_5, mu_t _ _ _ _ (by decide)] at ez131_5
              rw [eM108_5, mu_t _ _ _ _ (by decide)] at ez131_5
              rw [eM81_2, mu_t _ _ _ _ (by decide)] at ez131_5
              refine VM_iast (q := 135) 36 dX7_touch_134 rfl rfl (by decide) rfl rfl (by omega) (fun M134_5 eM134_5 => ?_)
              refine V_aload_n (q := 136) dX7_touch_135 rfl rfl rfl ?_
              refine VM_getA (q := 139) 37 dX7_touch_136 rfl flX7_107 rfl rfl (Nat.succ_ne_zero _) ?_
              refine V_iconst (q := 140) dX7_touch_139 rfl (by decide) ?_
              refine V_iload_n (q := 141) dX7_touch_140 rfl rfl rfl ?_
              refine V_imul (q := 142) dX7_touch_141 rfl (by omega) (fun z141_5 ez141_5 => ?_)
              refine V_iconst (q := 143) dX7_touch_142 rfl (by decide) ?_
              refine V_iadd (q := 144) dX7_touch_143 rfl (by omega) (fun z143_5 ez143_5 => ?_)
              refine V_aload_n (q := 145) dX7_touch_144 rfl rfl rfl ?_
              refine VM_getI (q := 148) 47 dX7_touch_145 rfl flX7_194 rfl rfl rfl (fun z145_5 ez145_5 rz145_5 => ?_)
              rw [eM134_5, mu_t _ _ _ _ (by decide)] at ez145_5
              rw [eM120_5, mu_t _ _ _ _ (by decide)] at ez145_5
              rw [eM108_5, mu_t _ _ _ _ (by decide)] at ez145_5
              rw [eM81_2, mu_t _ _ _ _ (by decide)] at ez145_5
              refine VM_iast (q := 149) 36 dX7_touch_148 rfl rfl (by decide) rfl rfl (by omega) (fun M148_5 eM148_5 => ?_)
              refine V_aload_n (q := 150) dX7_touch_149 rfl rfl rfl ?_
              refine VM_getA (q := 153) 37 dX7_touch_150 rfl flX7_107 rfl rfl (Nat.succ_ne_zero _) ?_
              refine V_iconst (q := 154) dX7_touch_153 rfl (by decide) ?_
              refine V_iload_n (q := 155) dX7_touch_154 rfl rfl rfl ?_
              refine V_imul (q := 156) dX7_touch_155 rfl (by omega) (fun z155_5 ez155_5 => ?_)
              refine V_iconst (q := 157) dX7_touch_156 rfl (by decide) ?_
              refine V_iadd (q := 158) dX7_touch_157 rfl (by omega) (fun z157_5 ez157_5 => ?_)
              refine V_aload_n (q := 159) dX7_touch_158 rfl rfl rfl ?_
              refine VM_getI (q := 162) 48 dX7_touch_159 rfl flX7_225 rfl rfl rfl (fun z159_5 ez159_5 rz159_5 => ?_)
              rw [eM148_5, mu_t _ _ _ _ (by decide)] at ez159_5
              rw [eM134_5, mu_t _ _ _ _ (by decide)] at ez159_5
              rw [eM120_5, mu_t _ _ _ _ (by decide)] at ez159_5
              rw [eM108_5, mu_t _ _ _ _ (by decide)] at ez159_5
              rw [eM81_2, mu_t _ _ _ _ (by decide)] at ez159_5
              refine VM_iast (q := 163) 36 dX7_touch_162 rfl rfl (by decide) rfl rfl (by omega) (fun M162_5 eM162_5 => ?_)
              refine V_iload (q := 165) dX7_touch_163 rfl rfl ?_
              first | (exfalso; omega) | (refine VM_iret dX7_touch_165 ⟨_, rfl, Or.inr ⟨hrf, M34, hM34, by omega, ?_⟩⟩; unfold tchM; (repeat' (first | rw [if_pos (by omega)] | rw [if_neg (by omega)])); simp only [ez78, eM81_2, eM108_5, ez115_5, ez117_5, eM120_5, ez127_5, ez129_5, ez131_5, eM134_5, ez141_5, ez143_5, ez145_5, eM148_5, ez155_5, ez157_5, ez159_5, eM162_5])
            · refine V_aload_n (q := 100) dX7_touch_99 rfl rfl rfl ?_
              refine VM_getI (q := 103) 52 dX7_touch_100 rfl flX7_207 rfl rfl rfl (fun z100_4 ez100_4 rz100_4 => ?_)
              rw [eM81_2, mu_t _ _ _ _ (by decide)] at ez100_4
              refine V_goto (tgt := 108) dX7_touch_103 (by decide) ?_
              refine VM_iast (q := 109) 35 dX7_touch_108 rfl rfl (by decide) rfl rfl (by omega) (fun M108_6 eM108_6 => ?_)
              refine V_aload_n (q := 110) dX7_touch_109 rfl rfl rfl ?_
              refine VM_getA (q := 113) 37 dX7_touch_110 rfl flX7_107 rfl rfl (Nat.succ_ne_zero _) ?_
              refine V_iconst (q := 114) dX7_touch_113 rfl (by decide) ?_
              refine V_iload_n (q := 115) dX7_touch_114 rfl rfl rfl ?_
              refine V_imul (q := 116) dX7_touch_115 rfl (by omega) (fun z115_6 ez115_6 => ?_)
              refine V_aload_n (q := 117) dX7_touch_116 rfl rfl rfl ?_
              refine VM_getI (q := 120) 45 dX7_touch_117 rfl flX7_250 rfl rfl rfl (fun z117_6 ez117_6 rz117_6 => ?_)
              rw [eM108_6, mu_t _ _ _ _ (by decide)] at ez117_6
              rw [eM81_2, mu_t _ _ _ _ (by decide)] at ez117_6
              refine VM_iast (q := 121) 36 dX7_touch_120 rfl rfl (by decide) rfl rfl (by omega) (fun M120_6 eM120_6 => ?_)
              refine V_aload_n (q := 122) dX7_touch_121 rfl rfl rfl ?_
              refine VM_getA (q := 125) 37 dX7_touch_122 rfl flX7_107 rfl rfl (Nat.succ_ne_zero _) ?_
              refine V_iconst (q := 126) dX7_touch_125 rfl (by decide) ?_
              refine V_iload_n (q := 127) dX7_touch_126 rfl rfl rfl ?_
              refine V_imul (q := 128) dX7_touch_127 rfl (by omega) (fun z127_6 ez127_6 => ?_)
              refine V_iconst (q := 129) dX7_touch_128 rfl (by decide) ?_
              refine V_iadd (q := 130) dX7_touch_129 rfl (by omega) (fun z129_6 ez129_6 => ?_)
              refine V_aload_n (q := 131) dX7_touch_130 rfl rfl rfl ?_
              refine VM_getI (q := 134) 46 dX7_touch_131 rfl flX7_216 rfl rfl rfl (fun z131_6 ez131_6 rz131_6 => ?_)
              rw [eM120_6, mu_t _ _ _ _ (by decide)] at ez131_6
              rw [eM108_6, mu_t _ _ _ _ (by decide)] at ez131_6
              rw [eM81_2, mu_t _ _ _ _ (by decide)] at ez131_6
              refine VM_iast (q := 135) 36 dX7_touch_134 rfl rfl (by decide) rfl rfl (by omega) (fun M134_6 eM134_6 => ?_)
              refine V_aload_n (q := 136) dX7_touch_135 rfl rfl rfl ?_
              refine VM_getA (q := 139) 37 dX7_touch_136 rfl flX7_107 rfl rfl (Nat.succ_ne_zero _) ?_
              refine V_iconst (q := 140) dX7_touch_139 rfl (by decide) ?_
              refine V_iload_n (q := 141) dX7_touch_140 rfl rfl rfl ?_
              refine V_imul (q := 142) dX7_touch_141 rfl (by omega) (fun z141_6 ez141_6 => ?_)
              refine V_iconst (q := 143) dX7_touch_142 rfl (by decide) ?_
              refine V_iadd (q := 144) dX7_touch_143 rfl (by omega) (fun z143_6 ez143_6 => ?_)
              refine V_aload_n (q := 145) dX7_touch_144 rfl rfl rfl ?_
              refine VM_getI (q := 148) 47 dX7_touch_145 rfl flX7_194 rfl rfl rfl (fun z145_6 ez145_6 rz145_6 => ?_)
              rw [eM134_6, mu_t _ _ _ _ (by decide)] at ez145_6
              rw [eM120_6, mu_t _ _ _ _ (by decide)] at ez145_6
              rw [eM108_6, mu_t _ _ _ _ (by decide)] at ez145_6
              rw [eM81_2, mu_t _ _ _ _ (by decide)] at ez145_6
              refine VM_iast (q := 149) 36 dX7_touch_148 rfl rfl (by decide) rfl rfl (by omega) (fun M148_6 eM148_6 => ?_)
              refine V_aload_n (q := 150) dX7_touch_149 rfl rfl rfl ?_
              refine VM_getA (q := 153) 37 dX7_touch_150 rfl flX7_107 rfl rfl (Nat.succ_ne_zero _) ?_
              refine V_iconst (q := 154) dX7_touch_153 rfl (by decide) ?_
              refine V_iload_n (q := 155) dX7_touch_154 rfl rfl rfl ?_
              refine V_imul (q := 156) dX7_touch_155 rfl (by omega) (fun z155_6 ez155_6 => ?_)
              refine V_iconst (q := 157) dX7_touch_156 rfl (by decide) ?_
              refine V_iadd (q := 158) dX7_touch_157 rfl (by omega) (fun z157_6 ez157_6 => ?_)
              refine V_aload_n (q := 159) dX7_touch_158 rfl rfl rfl ?_
              refine VM_getI (q := 162) 48 dX7_touch_159 rfl flX7_225 rfl rfl rfl (fun z159_6 ez159_6 rz159_6 => ?_)
              rw [eM148_6, mu_t _ _ _ _ (by decide)] at ez159_6
              rw [eM134_6, mu_t _ _ _ _ (by decide)] at ez159_6
              rw [eM120_6, mu_t _ _ _ _ (by decide)] at ez159_6
              rw [eM108_6, mu_t _ _ _ _ (by decide)] at ez159_6
              rw [eM81_2, mu_t _ _ _ _ (by decide)] at ez159_6
              refine VM_iast (q := 163) 36 dX7_touch_162 rfl rfl (by decide) rfl rfl (by omega) (fun M162_6 eM162_6 => ?_)
              refine V_iload (q := 165) dX7_touch_163 rfl rfl ?_
              first | (exfalso; omega) | (refine VM_iret dX7_touch_165 ⟨_, rfl, Or.inr ⟨hrf, M34, hM34, by omega, ?_⟩⟩; unfold tchM; (repeat' (first | rw [if_pos (by omega)] | rw [if_neg (by omega)])); simp only [ez78, eM81_2, ez100_4, eM108_6, ez115_6, ez117_6, eM120_6, ez127_6, ez129_6, ez131_6, eM134_6, ez141_6, ez143_6, ez145_6, eM148_6, ez155_6, ez157_6, ez159_6, eM162_6])
        · refine V_bipush (q := 74) dX7_touch_72 rfl (by decide) ?_
          refine V_goto (tgt := 81) dX7_touch_74 (by decide) ?_
          refine VM_iast (q := 82) 34 dX7_touch_81 rfl rfl (by decide) rfl rfl (by omega) (fun M81_3 eM81_3 => ?_)
          refine V_aload_n (q := 83) dX7_touch_82 rfl rfl rfl ?_
          refine VM_getA (q := 86) 36 dX7_touch_83 rfl flX7_104 rfl rfl (Nat.succ_ne_zero _) ?_
          refine V_iload_n (q := 87) dX7_touch_86 rfl rfl rfl ?_
          refine V_iload (q := 89) dX7_touch_87 rfl rfl ?_
          refine V_iconst (q := 90) dX7_touch_89 rfl (by decide) ?_
          refine V_icmp_eq (q := 93) (tgt := 99) dX7_touch_90 (by decide) rfl (fun c90_3 => ?_) (fun c90_3 => ?_)
          · refine V_aload_n (q := 100) dX7_touch_99 rfl rfl rfl ?_
            refine VM_getI (q := 103) 52 dX7_touch_100 rfl flX7_207 rfl rfl rfl (fun z100_5 ez100_5 rz100_5 => ?_)
            rw [eM81_3, mu_t _ _ _ _ (by decide)] at ez100_5
            refine V_goto (tgt := 108) dX7_touch_103 (by decide) ?_
            refine VM_iast (q := 109) 35 dX7_touch_108 rfl rfl (by decide) rfl rfl (by omega) (fun M108_7 eM108_7 => ?_)
            refine V_aload_n (q := 110) dX7_touch_109 rfl rfl rfl ?_
            refine VM_getA (q := 113) 37 dX7_touch_110 rfl flX7_107 rfl rfl (Nat.succ_ne_zero _) ?_
            refine V_iconst (q := 114) dX7_touch_113 rfl (by decide) ?_
            refine V_iload_n (q := 115) dX7_touch_114 rfl rfl rfl ?_
            refine V_imul (q := 116) dX7_touch_115 rfl (by omega) (fun z115_7 ez115_7 => ?_)
            refine V_aload_n (q := 117) dX7_touch_116 rfl rfl rfl ?_
            refine VM_getI (q := 120) 45 dX7_touch_117 rfl flX7_250 rfl rfl rfl (fun z117_7 ez117_7 rz117_7 => ?_)
            rw [eM108_7, mu_t _ _ _ _ (by decide)] at ez117_7
            rw [eM81_3, mu_t _ _ _ _ (by decide)] at ez117_7
            refine VM_iast (q := 121) 36 dX7_touch_120 rfl rfl (by decide) rfl rfl (by omega) (fun M120_7 eM120_7 => ?_)
            refine V_aload_n (q := 122) dX7_touch_121 rfl rfl rfl ?_
            refine VM_getA (q := 125) 37 dX7_touch_122 rfl flX7_107 rfl rfl (Nat.succ_ne_zero _) ?_
            refine V_iconst (q := 126) dX7_touch_125 rfl (by decide) ?_
            refine V_iload_n (q := 127) dX7_touch_126 rfl rfl rfl ?_
            refine V_imul (q := 128) dX7_touch_127 rfl (by omega) (fun z127_7 ez127_7 => ?_)
            refine V_iconst (q := 129) dX7_touch_128 rfl (by decide) ?_
            refine V_iadd (q := 130) dX7_touch_129 rfl (by omega) (fun z129_7 ez129_7 => ?_)
            refine V_aload_n (q := 131) dX7_touch_130 rfl rfl rfl ?_
            refine VM_getI (q := 134) 46 dX7_touch_131 rfl flX7_216 rfl rfl rfl (fun z131_7 ez131_7 rz131_7 => ?_)
            rw [eM120_7, mu_t _ _ _ _ (by decide)] at ez131_7
            rw [eM108_7, mu_t _ _ _ _ (by decide)] at ez131_7
            rw [eM81_3, mu_t _ _ _ _ (by decide)] at ez131_7
            refine VM_iast (q := 135) 36 dX7_touch_134 rfl rfl (by decide) rfl rfl (by omega) (fun M134_7 eM134_7 => ?_)
            refine V_aload_n (q := 136) dX7_touch_135 rfl rfl rfl ?_
            refine VM_getA (q := 139) 37 dX7_touch_136 rfl flX7_107 rfl rfl (Nat.succ_ne_zero _) ?_
            refine V_iconst (q := 140) dX7_touch_139 rfl (by decide) ?_
            refine V_iload_n (q := 141) dX7_touch_140 rfl rfl rfl ?_
            refine V_imul (q := 142) dX7_touch_141 rfl (by omega) (fun z141_7 ez141_7 => ?_)
            refine V_iconst (q := 143) dX7_touch_142 rfl (by decide) ?_
            refine V_iadd (q := 144) dX7_touch_143 rfl (by omega) (fun z143_7 ez143_7 => ?_)
            refine V_aload_n (q := 145) dX7_touch_144 rfl rfl rfl ?_
            refine VM_getI (q := 148) 47 dX7_touch_145 rfl flX7_194 rfl rfl rfl (fun z145_7 ez145_7 rz145_7 => ?_)
            rw [eM134_7, mu_t _ _ _ _ (by decide)] at ez145_7
            rw [eM120_7, mu_t _ _ _ _ (by decide)] at ez145_7
            rw [eM108_7, mu_t _ _ _ _ (by decide)] at ez145_7
            rw [eM81_3, mu_t _ _ _ _ (by decide)] at ez145_7
            refine VM_iast (q := 149) 36 dX7_touch_148 rfl rfl (by decide) rfl rfl (by omega) (fun M148_7 eM148_7 => ?_)
            refine V_aload_n (q := 150) dX7_touch_149 rfl rfl rfl ?_
            refine VM_getA (q := 153) 37 dX7_touch_150 rfl flX7_107 rfl rfl (Nat.succ_ne_zero _) ?_
            refine V_iconst (q := 154) dX7_touch_153 rfl (by decide) ?_
            refine V_iload_n (q := 155) dX7_touch_154 rfl rfl rfl ?_
            refine V_imul (q := 156) dX7_touch_155 rfl (by omega) (fun z155_7 ez155_7 => ?_)
            refine V_iconst (q := 157) dX7_touch_156 rfl (by decide) ?_
            refine V_iadd (q := 158) dX7_touch_157 rfl (by omega) (fun z157_7 ez157_7 => ?_)
            refine V_aload_n (q := 159) dX7_touch_158 rfl rfl rfl ?_
            refine VM_getI (q := 162) 48 dX7_touch_159 rfl flX7_225 rfl rfl rfl (fun z159_7 ez159_7 rz159_7 => ?_)
            rw [eM148_7, mu_t _ _ _ _ (by decide)] at ez159_7
            rw [eM134_7, mu_t _ _ _ _ (by decide)] at ez159_7
            rw [eM120_7, mu_t _ _ _ _ (by decide)] at ez159_7
            rw [eM108_7, mu_t _ _ _ _ (by decide)] at ez159_7
            rw [eM81_3, mu_t _ _ _ _ (by decide)] at ez159_7
            refine VM_iast (q := 163) 36 dX7_touch_162 rfl rfl (by decide) rfl rfl (by omega) (fun M162_7 eM162_7 => ?_)
            refine V_iload (q := 165) dX7_touch_163 rfl rfl ?_
            first | (exfalso; omega) | (refine VM_iret dX7_touch_165 ⟨_, rfl, Or.inr ⟨hrf, M34, hM34, by omega, ?_⟩⟩; unfold tchM; (repeat' (first | rw [if_pos (by omega)] | rw [if_neg (by omega)])); simp only [eM81_3, ez100_5, eM108_7, ez115_7, ez117_7, eM120_7, ez127_7, ez129_7, ez131_7, eM134_7, ez141_7, ez143_7, ez145_7, eM148_7, ez155_7, ez157_7, ez159_7, eM162_7])
          · refine V_iload (q := 95) dX7_touch_93 rfl rfl ?_
            refine V_iconst (q := 96) dX7_touch_95 rfl (by decide) ?_
            refine V_icmp_ne (q := 99) (tgt := 106) dX7_touch_96 (by decide) rfl (fun c96_3 => ?_) (fun c96_3 => ?_)
            · refine V_bipush (q := 108) dX7_touch_106 rfl (by decide) ?_
              refine VM_iast (q := 109) 35 dX7_touch_108 rfl rfl (by decide) rfl rfl (by omega) (fun M108_8 eM108_8 => ?_)
              refine V_aload_n (q := 110) dX7_touch_109 rfl rfl rfl ?_
              refine VM_getA (q := 113) 37 dX7_touch_110 rfl flX7_107 rfl rfl (Nat.succ_ne_zero _) ?_
              refine V_iconst (q := 114) dX7_touch_113 rfl (by decide) ?_
              refine V_iload_n (q := 115) dX7_touch_114 rfl rfl rfl ?_
              refine V_imul (q := 116) dX7_touch_115 rfl (by omega) (fun z115_8 ez115_8 => ?_)
              refine V_aload_n (q := 117) dX7_touch_116 rfl rfl rfl ?_
              refine VM_getI (q := 120) 45 dX7_touch_117 rfl flX7_250 rfl rfl rfl (fun z117_8 ez117_8 rz117_8 => ?_)
              rw [eM108_8, mu_t _ _ _ _ (by decide)] at ez117_8
              rw [eM81_3, mu_t _ _ _ _ (by decide)] at ez117_8
              refine VM_iast (q := 121) 36 dX7_touch_120 rfl rfl (by decide) rfl rfl (by omega) (fun M120_8 eM120_8 => ?_)
              refine V_aload_n (q := 122) dX7_touch_121 rfl rfl rfl ?_
              refine VM_getA (q := 125) 37 dX7_touch_122 rfl flX7_107 rfl rfl (Nat.succ_ne_zero _) ?_
              refine V_iconst (q := 126) dX7_touch_125 rfl (by decide) ?_
              refine V_iload_n (q := 127) dX7_touch_126 rfl rfl rfl ?_
              refine V_imul (q := 128) dX7_touch_127 rfl (by omega) (fun z127_8 ez127_8 => ?_)
              refine V_iconst (q := 129) dX7_touch_128 rfl (by decide) ?_
              refine V_iadd (q := 130) dX7_touch_129 rfl (by omega) (fun z129_8 ez129_8 => ?_)
              refine V_aload_n (q := 131) dX7_touch_130 rfl rfl rfl ?_
              refine VM_getI (q := 134) 46 dX7_touch_131 rfl flX7_216 rfl rfl rfl (fun z131_8 ez131_8 rz131_8 => ?_)
              rw [eM120_8, mu_t _ _ _ _ (by decide)] at ez131_8
              rw [eM108_8, mu_t _ _ _ _ (by decide)] at ez131_8
              rw [eM81_3, mu_t _ _ _ _ (by decide)] at ez131_8
              refine VM_iast (q := 135) 36 dX7_touch_134 rfl rfl (by decide) rfl rfl (by omega) (fun M134_8 eM134_8 => ?_)
              refine V_aload_n (q := 136) dX7_touch_135 rfl rfl rfl ?_
              refine VM_getA (q := 139) 37 dX7_touch_136 rfl flX7_107 rfl rfl (Nat.succ_ne_zero _) ?_
              refine V_iconst (q := 140) dX7_touch_139 rfl (by decide) ?_
              refine V_iload_n (q := 141) dX7_touch_140 rfl rfl rfl ?_
              refine V_imul (q := 142) dX7_touch_141 rfl (by omega) (fun z141_8 ez141_8 => ?_)
              refine V_iconst (q := 143) dX7_touch_142 rfl (by decide) ?_
              refine V_iadd (q := 144) dX7_touch_143 rfl (by omega) (fun z143_8 ez143_8 => ?_)
              refine V_aload_n (q := 145) dX7_touch_144 rfl rfl rfl ?_
              refine VM_getI (q := 148) 47 dX7_touch_145 rfl flX7_194 rfl rfl rfl (fun z145_8 ez145_8 rz145_8 => ?_)
              rw [eM134_8, mu_t _ _ _ _ (by decide)] at ez145_8
              rw [eM120_8, mu_t _ _ _ _ (by decide)] at ez145_8
              rw [eM108_8, mu_t _ _ _ _ (by decide)] at ez145_8
              rw [eM81_3, mu_t _ _ _ _ (by decide)] at ez145_8
              refine VM_iast (q := 149) 36 dX7_touch_148 rfl rfl (by decide) rfl rfl (by omega) (fun M148_8 eM148_8 => ?_)
              refine V_aload_n (q := 150) dX7_touch_149 rfl rfl rfl ?_
              refine VM_getA (q := 153) 37 dX7_touch_150 rfl flX7_107 rfl rfl (Nat.succ_ne_zero _) ?_
              refine V_iconst (q := 154) dX7_touch_153 rfl (by decide) ?_
              refine V_iload_n (q := 155) dX7_touch_154 rfl rfl rfl ?_
              refine V_imul (q := 156) dX7_touch_155 rfl (by omega) (fun z155_8 ez155_8 => ?_)
              refine V_iconst (q := 157) dX7_touch_156 rfl (by decide) ?_
              refine V_iadd (q := 158) dX7_touch_157 rfl (by omega) (fun z157_8 ez157_8 => ?_)
              refine V_aload_n (q := 159) dX7_touch_158 rfl rfl rfl ?_
              refine VM_getI (q := 162) 48 dX7_touch_159 rfl flX7_225 rfl rfl rfl (fun z159_8 ez159_8 rz159_8 => ?_)
              rw [eM148_8, mu_t _ _ _ _ (by decide)] at ez159_8
              rw [eM134_8, mu_t _ _ _ _ (by decide)] at ez159_8
              rw [eM120_8, mu_t _ _ _ _ (by decide)] at ez159_8
              rw [eM108_8, mu_t _ _ _ _ (by decide)] at ez159_8
              rw [eM81_3, mu_t _ _ _ _ (by decide)] at ez159_8
              refine VM_iast (q := 163) 36 dX7_touch_162 rfl rfl (by decide) rfl rfl (by omega) (fun M162_8 eM162_8 => ?_)
              refine V_iload (q := 165) dX7_touch_163 rfl rfl ?_
              first | (exfalso; omega) | (refine VM_iret dX7_touch_165 ⟨_, rfl, Or.inr ⟨hrf, M34, hM34, by omega, ?_⟩⟩; unfold tchM; (repeat' (first | rw [if_pos (by omega)] | rw [if_neg (by omega)])); simp only [eM81_3, eM108_8, ez115_8, ez117_8, eM120_8, ez127_8, ez129_8, ez131_8, eM134_8, ez141_8, ez143_8, ez145_8, eM148_8, ez155_8, ez157_8, ez159_8, eM162_8])
            · refine V_aload_n (q := 100) dX7_touch_99 rfl rfl rfl ?_
              refine VM_getI (q := 103) 52 dX7_touch_100 rfl flX7_207 rfl rfl rfl (fun z100_6 ez100_6 rz100_6 => ?_)
              rw [eM81_3, mu_t _ _ _ _ (by decide)] at ez100_6
              refine V_goto (tgt := 108) dX7_touch_103 (by decide) ?_
              refine VM_iast (q := 109) 35 dX7_touch_108 rfl rfl (by decide) rfl rfl (by omega) (fun M108_9 eM108_9 => ?_)
              refine V_aload_n (q := 110) dX7_touch_109 rfl rfl rfl ?_
              refine VM_getA (q := 113) 37 dX7_touch_110 rfl flX7_107 rfl rfl (Nat.succ_ne_zero _) ?_
              refine V_iconst (q := 114) dX7_touch_113 rfl (by decide) ?_
              refine V_iload_n (q := 115) dX7_touch_114 rfl rfl rfl ?_
              refine V_imul (q := 116) dX7_touch_115 rfl (by omega) (fun z115_9 ez115_9 => ?_)
              refine V_aload_n (q := 117) dX7_touch_116 rfl rfl rfl ?_
              refine VM_getI (q := 120) 45 dX7_touch_117 rfl flX7_250 rfl rfl rfl (fun z117_9 ez117_9 rz117_9 => ?_)
              rw [eM108_9, mu_t _ _ _ _ (by decide)] at ez117_9
              rw [eM81_3, mu_t _ _ _ _ (by decide)] at ez117_9
              refine VM_iast (q := 121) 36 dX7_touch_120 rfl rfl (by decide) rfl rfl (by omega) (fun M120_9 eM120_9 => ?_)
              refine V_aload_n (q := 122) dX7_touch_121 rfl rfl rfl ?_
              refine VM_getA (q := 125) 37 dX7_touch_122 rfl flX7_107 rfl rfl (Nat.succ_ne_zero _) ?_
              refine V_iconst (q := 126) dX7_touch_125 rfl (by decide) ?_
              refine V_iload_n (q := 127) dX7_touch_126 rfl rfl rfl ?_
              refine V_imul (q := 128) dX7_touch_127 rfl (by omega) (fun z127_9 ez127_9 => ?_)
              refine V_iconst (q := 129) dX7_touch_128 rfl (by decide) ?_
              refine V_iadd (q := 130) dX7_touch_129 rfl (by omega) (fun z129_9 ez129_9 => ?_)
              refine V_aload_n (q := 131) dX7_touch_130 rfl rfl rfl ?_
              refine VM_getI (q := 134) 46 dX7_touch_131 rfl flX7_216 rfl rfl rfl (fun z131_9 ez131_9 rz131_9 => ?_)
              rw [eM120_9, mu_t _ _ _ _ (by decide)] at ez131_9
              rw [eM108_9, mu_t _ _ _ _ (by decide)] at ez131_9
              rw [eM81_3, mu_t _ _ _ _ (by decide)] at ez131_9
              refine VM_iast (q := 135) 36 dX7_touch_134 rfl rfl (by decide) rfl rfl (by omega) (fun M134_9 eM134_9 => ?_)
              refine V_aload_n (q := 136) dX7_touch_135 rfl rfl rfl ?_
              refine VM_getA (q := 139) 37 dX7_touch_136 rfl flX7_107 rfl rfl (Nat.succ_ne_zero _) ?_
              refine V_iconst (q := 140) dX7_touch_139 rfl (by decide) ?_
              refine V_iload_n (q := 141) dX7_touch_140 rfl rfl rfl ?_
              refine V_imul (q := 142) dX7_touch_141 rfl (by omega) (fun z141_9 ez141_9 => ?_)
              refine V_iconst (q := 143) dX7_touch_142 rfl (by decide) ?_
              refine V_iadd (q := 144) dX7_touch_143 rfl (by omega) (fun z143_9 ez143_9 => ?_)
              refine V_aload_n (q := 145) dX7_touch_144 rfl rfl rfl ?_
              refine VM_getI (q := 148) 47 dX7_touch_145 rfl flX7_194 rfl rfl rfl (fun z145_9 ez145_9 rz145_9 => ?_)
              rw [eM134_9, mu_t _ _ _ _ (by decide)] at ez145_9
              rw [eM120_9, mu_t _ _ _ _ (by decide)] at ez145_9
              rw [eM108_9, mu_t _ _ _ _ (by decide)] at ez145_9
              rw [eM81_3, mu_t _ _ _ _ (by decide)] at ez145_9
              refine VM_iast (q := 149) 36 dX7_touch_148 rfl rfl (by decide) rfl rfl (by omega) (fun M148_9 eM148_9 => ?_)
              refine V_aload_n (q := 150) dX7_touch_149 rfl rfl rfl ?_
              refine VM_getA (q := 153) 37 dX7_touch_150 rfl flX7_107 rfl rfl (Nat.succ_ne_zero _) ?_
              refine V_iconst (q := 154) dX7_touch_153 rfl (by decide) ?_
              refine V_iload_n (q := 155) dX7_touch_154 rfl rfl rfl ?_
              refine V_imul (q := 156) dX7_touch_155 rfl (by omega) (fun z155_9 ez155_9 => ?_)
              refine V_iconst (q := 157) dX7_touch_156 rfl (by decide) ?_
              refine V_iadd (q := 158) dX7_touch_157 rfl (by omega) (fun z157_9 ez157_9 => ?_)
              refine V_aload_n (q := 159) dX7_touch_158 rfl rfl rfl ?_
              refine VM_getI (q := 162) 48 dX7_touch_159 rfl flX7_225 rfl rfl rfl (fun z159_9 ez159_9 rz159_9 => ?_)
              rw [eM148_9, mu_t _ _ _ _ (by decide)] at ez159_9
              rw [eM134_9, mu_t _ _ _ _ (by decide)] at ez159_9
              rw [eM120_9, mu_t _ _ _ _ (by decide)] at ez159_9
              rw [eM108_9, mu_t _ _ _ _ (by decide)] at ez159_9
              rw [eM81_3, mu_t _ _ _ _ (by decide)] at ez159_9
              refine VM_iast (q := 163) 36 dX7_touch_162 rfl rfl (by decide) rfl rfl (by omega) (fun M162_9 eM162_9 => ?_)
              refine V_iload (q := 165) dX7_touch_163 rfl rfl ?_
              first | (exfalso; omega) | (refine VM_iret dX7_touch_165 ⟨_, rfl, Or.inr ⟨hrf, M34, hM34, by omega, ?_⟩⟩; unfold tchM; (repeat' (first | rw [if_pos (by omega)] | rw [if_neg (by omega)])); simp only [eM81_3, ez100_6, eM108_9, ez115_9, ez117_9, eM120_9, ez127_9, ez129_9, ez131_9, eM134_9, ez141_9, ez143_9, ez145_9, eM148_9, ez155_9, ez157_9, ez159_9, eM162_9])
    · refine V_aload_n (q := 50) dX7_touch_49 rfl rfl rfl ?_
      refine V_bipush (q := 52) dX7_touch_50 rfl (by decide) ?_
      refine V_iload_n (q := 53) dX7_touch_52 rfl rfl rfl ?_
      refine VM_callN (q := 56) (As := [(0, 12), (0, x)]) (tX7_copy (C := C) (M := M34) ⟨by omega, by omega⟩ ⟨by omega, by omega⟩ (by omega)) dX7_touch_53 rfl mlX7_287 mw_X7_copy im_X7_copy sl_X7_copy md_X7_copy rfl rfl rfl (by decide) (by decide) (Nat.le_refl _) (Nat.le_refl _) (Nat.le_of_ble_eq_true rfl) (fun M53 hM53 => ?_)
      refine V_aload_n (q := 57) dX7_touch_56 rfl rfl rfl ?_
      refine VM_getA (q := 60) 35 dX7_touch_57 rfl flX7_101 rfl rfl (Nat.succ_ne_zero _) ?_
      refine V_iload_n (q := 61) dX7_touch_60 rfl rfl rfl ?_
      refine V_iload (q := 63) dX7_touch_61 rfl rfl ?_
      refine V_if_eq (q := 66) (tgt := 72) dX7_touch_63 (by decide) rfl (fun c63_2 => ?_) (fun c63_2 => ?_)
      · refine V_bipush (q := 74) dX7_touch_72 rfl (by decide) ?_
        refine V_goto (tgt := 81) dX7_touch_74 (by decide) ?_
        refine VM_iast (q := 82) 34 dX7_touch_81 rfl rfl (by decide) rfl rfl (by omega) (fun M81_4 eM81_4 => ?_)
        refine V_aload_n (q := 83) dX7_touch_82 rfl rfl rfl ?_
        refine VM_getA (q := 86) 36 dX7_touch_83 rfl flX7_104 rfl rfl (Nat.succ_ne_zero _) ?_
        refine V_iload_n (q := 87) dX7_touch_86 rfl rfl rfl ?_
        refine V_iload (q := 89) dX7_touch_87 rfl rfl ?_
        refine V_iconst (q := 90) dX7_touch_89 rfl (by decide) ?_
        refine V_icmp_eq (q := 93) (tgt := 99) dX7_touch_90 (by decide) rfl (fun c90_4 => ?_) (fun c90_4 => ?_)
        · refine V_aload_n (q := 100) dX7_touch_99 rfl rfl rfl ?_
          refine VM_getI (q := 103) 52 dX7_touch_100 rfl flX7_207 rfl rfl rfl (fun z100_7 ez100_7 rz100_7 => ?_)
          rw [eM81_4, mu_t _ _ _ _ (by decide)] at ez100_7
          rw [hM53, copyM_f _ (by decide)] at ez100_7
          refine V_goto (tgt := 108) dX7_touch_103 (by decide) ?_
          refine VM_iast (q := 109) 35 dX7_touch_108 rfl rfl (by decide) rfl rfl (by omega) (fun M108_10 eM108_10 => ?_)
          refine V_aload_n (q := 110) dX7_touch_109 rfl rfl rfl ?_
          refine VM_getA (q := 113) 37 dX7_touch_110 rfl flX7_107 rfl rfl (Nat.succ_ne_zero _) ?_
          refine V_iconst (q := 114) dX7_touch_113 rfl (by decide) ?_
          refine V_iload_n (q := 115) dX7_touch_114 rfl rfl rfl ?_
          refine V_imul (q := 116) dX7_touch_115 rfl (by omega) (fun z115_10 ez115_10 => ?_)
          refine V_aload_n (q := 117) dX7_touch_116 rfl rfl rfl ?_
          refine VM_getI (q := 120) 45 dX7_touch_117 rfl flX7_250 rfl rfl rfl (fun z117_10 ez117_10 rz117_10 => ?_)
          rw [eM108_10, mu_t _ _ _ _ (by decide)] at ez117_10
          rw [eM81_4, mu_t _ _ _ _ (by decide)] at ez117_10
          rw [hM53, copyM_f _ (by decide)] at ez117_10
          refine VM_iast (q := 121) 36 dX7_touch_120 rfl rfl (by decide) rfl rfl (by omega) (fun M120_10 eM120_10 => ?_)
          refine V_aload_n (q := 122) dX7_touch_121 rfl rfl rfl ?_
          refine VM_getA (q := 125) 37 dX7_touch_122 rfl flX7_107 rfl rfl (Nat.succ_ne_zero _) ?_
          refine V_iconst (q := 126) dX7_touch_125 rfl (by decide) ?_
          refine V_iload_n (q := 127) dX7_touch_126 rfl rfl rfl ?_
          refine V_imul (q := 128) dX7_touch_127 rfl (by omega) (fun z127_10 ez127_10 => ?_)
          refine V_iconst (q := 129) dX7_touch_128 rfl (by decide) ?_
          refine V_iadd (q := 130) dX7_touch_129 rfl (by omega) (fun z129_10 ez129_10 => ?_)
          refine V_aload_n (q := 131) dX7_touch_130 rfl rfl rfl ?_
          refine VM_getI (q := 134) 46 dX7_touch_131 rfl flX7_216 rfl rfl rfl (fun z131_10 ez131_10 rz131_10 => ?_)
          rw [eM120_10, mu_t _ _ _ _ (by decide)] at ez131_10
          rw [eM108_10, mu_t _ _ _ _ (by decide)] at ez131_10
          rw [eM81_4, mu_t _ _ _ _ (by decide)] at ez131_10
          rw [hM53, copyM_f _ (by decide)] at ez131_10
          refine VM_iast (q := 135) 36 dX7_touch_134 rfl rfl (by decide) rfl rfl (by omega) (fun M134_10 eM134_10 => ?_)
          refine V_aload_n (q := 136) dX7_touch_135 rfl rfl rfl ?_
          refine VM_getA (q := 139) 37 dX7_touch_136 rfl flX7_107 rfl rfl (Nat.succ_ne_zero _) ?_
          refine V_iconst (q := 140) dX7_touch_139 rfl (by decide) ?_
          refine V_iload_n (q := 141) dX7_touch_140 rfl rfl rfl ?_
          refine V_imul (q := 142) dX7_touch_141 rfl (by omega) (fun z141_10 ez141_10 => ?_)
          refine V_iconst (q := 143) dX7_touch_142 rfl (by decide) ?_
          refine V_iadd (q := 144) dX7_touch_143 rfl (by omega) (fun z143_10 ez143_10 => ?_)
          refine V_aload_n (q := 145) dX7_touch_144 rfl rfl rfl ?_
          refine VM_getI (q := 148) 47 dX7_touch_145 rfl flX7_194 rfl rfl rfl (fun z145_10 ez145_10 rz145_10 => ?_)
          rw [eM134_10, mu_t _ _ _ _ (by decide)] at ez145_10
          rw [eM120_10, mu_t _ _ _ _ (by decide)] at ez145_10
          rw [eM108_10, mu_t _ _ _ _ (by decide)] at ez145_10
          rw [eM81_4, mu_t _ _ _ _ (by decide)] at ez145_10
          rw [hM53, copyM_f _ (by decide)] at ez145_10
          refine VM_iast (q := 149) 36 dX7_touch_148 rfl rfl (by decide) rfl rfl (by omega) (fun M148_10 eM148_10 => ?_)
          refine V_aload_n (q := 150) dX7_touch_149 rfl rfl rfl ?_
          refine VM_getA (q := 153) 37 dX7_touch_150 rfl flX7_107 rfl rfl (Nat.succ_ne_zero _) ?_
          refine V_iconst (q := 154) dX7_touch_153 rfl (by decide) ?_
          refine V_iload_n (q := 155) dX7_touch_154 rfl rfl rfl ?_
          refine V_imul (q := 156) dX7_touch_155 rfl (by omega) (fun z155_10 ez155_10 => ?_)
          refine V_iconst (q := 157) dX7_touch_156 rfl (by decide) ?_
          refine V_iadd (q := 158) dX7_touch_157 rfl (by omega) (fun z157_10 ez157_10 => ?_)
          refine V_aload_n (q := 159) dX7_touch_158 rfl rfl rfl ?_
          refine VM_getI (q := 162) 48 dX7_touch_159 rfl flX7_225 rfl rfl rfl (fun z159_10 ez159_10 rz159_10 => ?_)
          rw [eM148_10, mu_t _ _ _ _ (by decide)] at ez159_10
          rw [eM134_10, mu_t _ _ _ _ (by decide)] at ez159_10
          rw [eM120_10, mu_t _ _ _ _ (by decide)] at ez159_10
          rw [eM108_10, mu_t _ _ _ _ (by decide)] at ez159_10
          rw [eM81_4, mu_t _ _ _ _ (by decide)] at ez159_10
          rw [hM53, copyM_f _ (by decide)] at ez159_10
          refine VM_iast (q := 163) 36 dX7_touch_162 rfl rfl (by decide) rfl rfl (by omega) (fun M162_10 eM162_10 => ?_)
          refine V_iload (q := 165) dX7_touch_163 rfl rfl ?_
          first | (exfalso; omega) | (refine VM_iret dX7_touch_165 ⟨_, rfl, Or.inr ⟨hrf, M34, hM34, by omega, ?_⟩⟩; unfold tchM; (repeat' (first | rw [if_pos (by omega)] | rw [if_neg (by omega)])); simp only [eM81_4, ez100_7, eM108_10, ez115_10, ez117_10, eM120_10, ez127_10, ez129_10, ez131_10, eM134_10, ez141_10, ez143_10, ez145_10, eM148_10, ez155_10, ez157_10, ez159_10, eM162_10, hM53])
        · refine V_iload (q := 95) dX7_touch_93 rfl rfl ?_
          refine V_iconst (q := 96) dX7_touch_95 rfl (by decide) ?_
          refine V_icmp_ne (q := 99) (tgt := 106) dX7_touch_96 (by decide) rfl (fun c96_4 => ?_) (fun c96_4 => ?_)
          · refine V_bipush (q := 108) dX7_touch_106 rfl (by decide) ?_
            refine VM_iast (q := 109) 35 dX7_touch_108 rfl rfl (by decide) rfl rfl (by omega) (fun M108_11 eM108_11 => ?_)
            refine V_aload_n (q := 110) dX7_touch_109 rfl rfl rfl ?_
            refine VM_getA (q := 113) 37 dX7_touch_110 rfl flX7_107 rfl rfl (Nat.succ_ne_zero _) ?_
            refine V_iconst (q := 114) dX7_touch_113 rfl (by decide) ?_
            refine V_iload_n (q := 115) dX7_touch_114 rfl rfl rfl ?_
            refine V_imul (q := 116) dX7_touch_115 rfl (by omega) (fun z115_11 ez115_11 => ?_)
            refine V_aload_n (q := 117) dX7_touch_116 rfl rfl rfl ?_
            refine VM_getI (q := 120) 45 dX7_touch_117 rfl flX7_250 rfl rfl rfl (fun z117_11 ez117_11 rz117_11 => ?_)
            rw [eM108_11, mu_t _ _ _ _ (by decide)] at ez117_11
            rw [eM81_4, mu_t _ _ _ _ (by decide)] at ez117_11
            rw [hM53, copyM_f _ (by decide)] at ez117_11
            refine VM_iast (q := 121) 36 dX7_touch_120 rfl rfl (by decide) rfl rfl (by omega) (fun M120_11 eM120_11 => ?_)
            refine V_aload_n (q := 122) dX7_touch_121 rfl rfl rfl ?_
            refine VM_getA (q := 125) 37 dX7_touch_122 rfl flX7_107 rfl rfl (Nat.succ_ne_zero _) ?_
            refine V_iconst (q := 126) dX7_touch_125 rfl (by decide) ?_
            refine V_iload_n (q := 127) dX7_touch_126 rfl rfl rfl ?_
            refine V_imul (q := 128) dX7_touch_127 rfl (by omega) (fun z127_11 ez127_11 => ?_)
            refine V_iconst (q := 129) dX7_touch_128 rfl (by decide) ?_
            refine V_iadd (q := 130) dX7_touch_129 rfl (by omega) (fun z129_11 ez129_11 => ?_)
            refine V_aload_n (q := 131) dX7_touch_130 rfl rfl rfl ?_
            refine VM_getI (q := 134) 46 dX7_touch_131 rfl flX7_216 rfl rfl rfl (fun z131_11 ez131_11 rz131_11 => ?_)
            rw [eM120_11, mu_t _ _ _ _ (by decide)] at ez131_11
            rw [eM108_11, mu_t _ _ _ _ (by decide)] at ez131_11
            rw [eM81_4, mu_t _ _ _ _ (by decide)] at ez131_11
            rw [hM53, copyM_f _ (by decide)] at ez131_11
            refine VM_iast (q := 135) 36 dX7_touch_134 rfl rfl (by decide) rfl rfl (by omega) (fun M134_11 eM134_11 => ?_)
            refine V_aload_n (q := 136) dX7_touch_135 rfl rfl rfl ?_
            refine VM_getA (q := 139) 37 dX7_touch_136 rfl flX7_107 rfl rfl (Nat.succ_ne_zero _) ?_
            refine V_iconst (q := 140) dX7_touch_139 rfl (by decide) ?_
            refine V_iload_n (q := 141) dX7_touch_140 rfl rfl rfl ?_
            refine V_imul (q := 142) dX7_touch_141 rfl (by omega) (fun z141_11 ez141_11 => ?_)
            refine V_iconst (q := 143) dX7_touch_142 rfl (by decide) ?_
            refine V_iadd (q := 144) dX7_touch_143 rfl (by omega) (fun z143_11 ez143_11 => ?_)
            refine V_aload_n (q := 145) dX7_touch_144 rfl rfl rfl ?_
            refine VM_getI (q := 148) 47 dX7_touch_145 rfl flX7_194 rfl rfl rfl (fun z145_11 ez145_11 rz145_11 => ?_)
            rw [eM134_11, mu_t _ _ _ _ (by decide)] at ez145_11
            rw [eM120_11, mu_t _ _ _ _ (by decide)] at ez145_11
            rw [eM108_11, mu_t _ _ _ _ (by decide)] at ez145_11
            rw [eM81_4, mu_t _ _ _ _ (by decide)] at ez145_11
            rw [hM53, copyM_f _ (by decide)] at ez145_11
            refine VM_iast (q := 149) 36 dX7_touch_148 rfl rfl (by decide) rfl rfl (by omega) (fun M148_11 eM148_11 => ?_)
            refine V_aload_n (q := 150) dX7_touch_149 rfl rfl rfl ?_
            refine VM_getA (q := 153) 37 dX7_touch_150 rfl flX7_107 rfl rfl (Nat.succ_ne_zero _) ?_
            refine V_iconst (q := 154) dX7_touch_153 rfl (by decide) ?_
            refine V_iload_n (q := 155) dX7_touch_154 rfl rfl rfl ?_
            refine V_imul (q := 156) dX7_touch_155 rfl (by omega) (fun z155_11 ez155_11 => ?_)
            refine V_iconst (q := 157) dX7_touch_156 rfl (by decide) ?_
            refine V_iadd (q := 158) dX7_touch_157 rfl (by omega) (fun z157_11 ez157_11 => ?_)
            refine V_aload_n (q := 159) dX7_touch_158 rfl rfl rfl ?_
            refine VM_getI (q := 162) 48 dX7_touch_159 rfl flX7_225 rfl rfl rfl (fun z159_11 ez159_11 rz159_11 => ?_)
            rw [eM148_11, mu_t _ _ _ _ (by decide)] at ez159_11
            rw [eM134_11, mu_t _ _ _ _ (by decide)] at ez159_11
            rw [eM120_11, mu_t _ _ _ _ (by decide)] at ez159_11
            rw [eM108_11, mu_t _ _ _ _ (by decide)] at ez159_11
            rw [eM81_4, mu_t _ _ _ _ (by decide)] at ez159_11
            rw [hM53, copyM_f _ (by decide)] at ez159_11
            refine VM_iast (q := 163) 36 dX7_touch_162 rfl rfl (by decide) rfl rfl (by omega) (fun M162_11 eM162_11 => ?_)
            refine V_iload (q := 165) dX7_touch_163 rfl rfl ?_
            first | (exfalso; omega) | (refine VM_iret dX7_touch_165 ⟨_, rfl, Or.inr ⟨hrf, M34, hM34, by omega, ?_⟩⟩; unfold tchM; (repeat' (first | rw [if_pos (by omega)] | rw [if_neg (by omega)])); simp only [eM81_4, eM108_11, ez115_11, ez117_11, eM120_11, ez127_11, ez129_11, ez131_11, eM134_11, ez141_11, ez143_11, ez145_11, eM148_11, ez155_11, ez157_11, ez159_11, eM162_11, hM53])
          · refine V_aload_n (q := 100) dX7_touch_99 rfl rfl rfl ?_
            refine VM_getI (q := 103) 52 dX7_touch_100 rfl flX7_207 rfl rfl rfl (fun z100_8 ez100_8 rz100_8 => ?_)
            rw [eM81_4, mu_t _ _ _ _ (by decide)] at ez100_8
            rw [hM53, copyM_f _ (by decide)] at ez100_8
            refine V_goto (tgt := 108) dX7_touch_103 (by decide) ?_
            refine VM_iast (q := 109) 35 dX7_touch_108 rfl rfl (by decide) rfl rfl (by omega) (fun M108_12 eM108_12 => ?_)
            refine V_aload_n (q := 110) dX7_touch_109 rfl rfl rfl ?_
            refine VM_getA (q := 113) 37 dX7_touch_110 rfl flX7_107 rfl rfl (Nat.succ_ne_zero _) ?_
            refine V_iconst (q := 114) dX7_touch_113 rfl (by decide) ?_
            refine V_iload_n (q := 115) dX7_touch_114 rfl rfl rfl ?_
            refine V_imul (q := 116) dX7_touch_115 rfl (by omega) (fun z115_12 ez115_12 => ?_)
            refine V_aload_n (q := 117) dX7_touch_116 rfl rfl rfl ?_
            refine VM_getI (q := 120) 45 dX7_touch_117 rfl flX7_250 rfl rfl rfl (fun z117_12 ez117_12 rz117_12 => ?_)
            rw [eM108_12, mu_t _ _ _ _ (by decide)] at ez117_12
            rw [eM81_4, mu_t _ _ _ _ (by decide)] at ez117_12
            rw [hM53, copyM_f _ (by decide)] at ez117_12
            refine VM_iast (q := 121) 36 dX7_touch_120 rfl rfl (by decide) rfl rfl (by omega) (fun M120_12 eM120_12 => ?_)
            refine V_aload_n (q := 122) dX7_touch_121 rfl rfl rfl ?_
            refine VM_getA (q := 125) 37 dX7_touch_122 rfl flX7_107 rfl rfl (Nat.succ_ne_zero _) ?_
            refine V_iconst (q := 126) dX7_touch_125 rfl (by decide) ?_
            refine V_iload_n (q := 127) dX7_touch_126 rfl rfl rfl ?_
            refine V_imul (q := 128) dX7_touch_127 rfl (by omega) (fun z127_12 ez127_12 => ?_)
            refine V_iconst (q := 129) dX7_touch_128 rfl (by decide) ?_
            refine V_iadd (q := 130) dX7_touch_129 rfl (by omega) (fun z129_12 ez129_12 => ?_)
            refine V_aload_n (q := 131) dX7_touch_130 rfl rfl rfl ?_
            refine VM_getI (q := 134) 46 dX7_touch_131 rfl flX7_216 rfl rfl rfl (fun z131_12 ez131_12 rz131_12 => ?_)
            rw [eM120_12, mu_t _ _ _ _ (by decide)] at ez131_12
            rw [eM108_12, mu_t _ _ _ _ (by decide)] at ez131_12
            rw [eM81_4, mu_t _ _ _ _ (by decide)] at ez131_12
            rw [hM53, copyM_f _ (by decide)] at ez131_12
            refine VM_iast (q := 135) 36 dX7_touch_134 rfl rfl (by decide) rfl rfl (by omega) (fun M134_12 eM134_12 => ?_)
            refine V_aload_n (q := 136) dX7_touch_135 rfl rfl rfl ?_
            refine VM_getA (q := 139) 37 dX7_touch_136 rfl flX7_107 rfl rfl (Nat.succ_ne_zero _) ?_
            refine V_iconst (q := 140) dX7_touch_139 rfl (by decide) ?_
            refine V_iload_n (q := 141) dX7_touch_140 rfl rfl rfl ?_
            refine V_imul (q := 142) dX7_touch_141 rfl (by omega) (fun z141_12 ez141_12 => ?_)
            refine V_iconst (q := 143) dX7_touch_142 rfl (by decide) ?_
            refine V_iadd (q := 144) dX7_touch_143 rfl (by omega) (fun z143_12 ez143_12 => ?_)
            refine V_aload_n (q := 145) dX7_touch_144 rfl rfl rfl ?_
            refine VM_getI (q := 148) 47 dX7_touch_145 rfl flX7_194 rfl rfl rfl (fun z145_12 ez145_12 rz145_12 => ?_)
            rw [eM134_12, mu_t _ _ _ _ (by decide)] at ez145_12
            rw [eM120_12, mu_t _ _ _ _ (by decide)] at ez145_12
            rw [eM108_12, mu_t _ _ _ _ (by decide)] at ez145_12
            rw [eM81_4, mu_t _ _ _ _ (by decide)] at ez145_12
            rw [hM53, copyM_f _ (by decide)] at ez145_12
            refine VM_iast (q := 149) 36 dX7_touch_148 rfl rfl (by decide) rfl rfl (by omega) (fun M148_12 eM148_12 => ?_)
            refine V_aload_n (q := 150) dX7_touch_149 rfl rfl rfl ?_
            refine VM_getA (q := 153) 37 dX7_touch_150 rfl flX7_107 rfl rfl (Nat.succ_ne_zero _) ?_
            refine V_iconst (q := 154) dX7_touch_153 rfl (by decide) ?_
            refine V_iload_n (q := 155) dX7_touch_154 rfl rfl rfl ?_
            refine V_imul (q := 156) dX7_touch_155 rfl (by omega) (fun z155_12 ez155_12 => ?_)
            refine V_iconst (q := 157) dX7_touch_156 rfl (by decide) ?_
            refine V_iadd (q := 158) dX7_touch_157 rfl (by omega) (fun z157_12 ez157_12 => ?_)
            refine V_aload_n (q := 159) dX7_touch_158 rfl rfl rfl ?_
            refine VM_getI (q := 162) 48 dX7_touch_159 rfl flX7_225 rfl rfl rfl (fun z159_12 ez159_12 rz159_12 => ?_)
            rw [eM148_12, mu_t _ _ _ _ (by decide)] at ez159_12
            rw [eM134_12, mu_t _ _ _ _ (by decide)] at ez159_12
            rw [eM120_12, mu_t _ _ _ _ (by decide)] at ez159_12
            rw [eM108_12, mu_t _ _ _ _ (by decide)] at ez159_12
            rw [eM81_4, mu_t _ _ _ _ (by decide)] at ez159_12
            rw [hM53, copyM_f _ (by decide)] at ez159_12
            refine VM_iast (q := 163) 36 dX7_touch_162 rfl rfl (by decide) rfl rfl (by omega) (fun M162_12 eM162_12 => ?_)
            refine V_iload (q := 165) dX7_touch_163 rfl rfl ?_
            first | (exfalso; omega) | (refine VM_iret dX7_touch_165 ⟨_, rfl, Or.inr ⟨hrf, M34, hM34, by omega, ?_⟩⟩; unfold tchM; (repeat' (first | rw [if_pos (by omega)] | rw [if_neg (by omega)])); simp only [eM81_4, ez100_8, eM108_12, ez115_12, ez117_12, eM120_12, ez127_12, ez129_12, ez131_12, eM134_12, ez141_12, ez143_12, ez145_12, eM148_12, ez155_12, ez157_12, ez159_12, eM162_12, hM53])
      · refine V_iload (q := 68) dX7_touch_66 rfl rfl ?_
        refine V_iconst (q := 69) dX7_touch_68 rfl (by decide) ?_
        refine V_icmp_ne (q := 72) (tgt := 77) dX7_touch_69 (by decide) rfl (fun c69_2 => ?_) (fun c69_2 => ?_)
        · refine V_aload_n (q := 78) dX7_touch_77 rfl rfl rfl ?_
          refine VM_getI (q := 81) 51 dX7_touch_78 rfl flX7_204 rfl rfl rfl (fun z78_2 ez78_2 rz78_2 => ?_)
          rw [hM53, copyM_f _ (by decide)] at ez78_2
          refine VM_iast (q := 82) 34 dX7_touch_81 rfl rfl (by decide) rfl rfl (by omega) (fun M81_5 eM81_5 => ?_)
          refine V_aload_n (q := 83) dX7_touch_82 rfl rfl rfl ?_
          refine VM_getA (q := 86) 36 dX7_touch_83 rfl flX7_104 rfl rfl (Nat.succ_ne_zero _) ?_
          refine V_iload_n (q := 87) dX7_touch_86 rfl rfl rfl ?_
          refine V_iload (q := 89) dX7_touch_87 rfl rfl ?_
          refine V_iconst (q := 90) dX7_touch_89 rfl (by decide) ?_
          refine V_icmp_eq (q := 93) (tgt := 99) dX7_touch_90 (by decide) rfl (fun c90_5 => ?_) (fun c90_5 => ?_)
          · refine V_aload_n (q := 100) dX7_touch_99 rfl rfl rfl ?_
            refine VM_getI (q := 103) 52 dX7_touch_100 rfl flX7_207 rfl rfl rfl (fun z100_9 ez100_9 rz100_9 => ?_)
            rw [eM81_5, mu_t _ _ _ _ (by decide)] at ez100_9
            rw [hM53, copyM_f _ (by decide)] at ez100_9
            refine V_goto (tgt := 108) dX7_touch_103 (by decide) ?_
            refine VM_iast (q := 109) 35 dX7_touch_108 rfl rfl (by decide) rfl rfl (by omega) (fun M108_13 eM108_13 => ?_)
            refine V_aload_n (q := 110) dX7_touch_109 rfl rfl rfl ?_
            refine VM_getA (q := 113) 37 dX7_touch_110 rfl flX7_107 rfl rfl (Nat.succ_ne_zero _) ?_
            refine V_iconst (q := 114) dX7_touch_113 rfl (by decide) ?_
            refine V_iload_n (q := 115) dX7_touch_114 rfl rfl rfl ?_
            refine V_imul (q := 116) dX7_touch_115 rfl (by omega) (fun z115_13 ez115_13 => ?_)
            refine V_aload_n (q := 117) dX7_touch_116 rfl rfl rfl ?_
            refine VM_getI (q := 120) 45 dX7_touch_117 rfl flX7_250 rfl rfl rfl (fun z117_13 ez117_13 rz117_13 => ?_)
            rw [eM108_13, mu_t _ _ _ _ (by decide)] at ez117_13
            rw [eM81_5, mu_t _ _ _ _ (by decide)] at ez117_13
            rw [hM53, copyM_f _ (by decide)] at ez117_13
            refine VM_iast (q := 121) 36 dX7_touch_120 rfl rfl (by decide) rfl rfl (by omega) (fun M120_13 eM120_13 => ?_)
            refine V_aload_n (q := 122) dX7_touch_121 rfl rfl rfl ?_
            refine VM_getA (q := 125) 37 dX7_touch_122 rfl flX7_107 rfl rfl (Nat.succ_ne_zero _) ?_
            refine V_iconst (q := 126) dX7_touch_125 rfl (by decide) ?_
            refine V_iload_n (q := 127) dX7_touch_126 rfl rfl rfl ?_
            refine V_imul (q := 128) dX7_touch_127 rfl (by omega) (fun z127_13 ez127_13 => ?_)
            refine V_iconst (q := 129) dX7_touch_128 rfl (by decide) ?_
            refine V_iadd (q := 130) dX7_touch_129 rfl (by omega) (fun z129_13 ez129_13 => ?_)
            refine V_aload_n (q := 131) dX7_touch_130 rfl rfl rfl ?_
            refine VM_getI (q := 134) 46 dX7_touch_131 rfl flX7_216 rfl rfl rfl (fun z131_13 ez131_13 rz131_13 => ?_)
            rw [eM120_13, mu_t _ _ _ _ (by decide)] at ez131_13
            rw [eM108_13, mu_t _ _ _ _ (by decide)] at ez131_13
            rw [eM81_5, mu_t _ _ _ _ (by decide)] at ez131_13
            rw [hM53, copyM_f _ (by decide)] at ez131_13
            refine VM_iast (q := 135) 36 dX7_touch_134 rfl rfl (by decide) rfl rfl (by omega) (fun M134_13 eM134_13 => ?_)
            refine V_aload_n (q := 136) dX7_touch_135 rfl rfl rfl ?_
            refine VM_getA (q := 139) 37 dX7_touch_136 rfl flX7_107 rfl rfl (Nat.succ_ne_zero _) ?_
            refine V_iconst (q := 140) dX7_touch_139 rfl (by decide) ?_
            refine V_iload_n (q := 141) dX7_touch_140 rfl rfl rfl ?_
            refine V_imul (q := 142) dX7_touch_141 rfl (by omega) (fun z141_13 ez141_13 => ?_)
            refine V_iconst (q := 143) dX7_touch_142 rfl (by decide) ?_
            refine V_iadd (q := 144) dX7_touch_143 rfl (by omega) (fun z143_13 ez143_13 => ?_)
            refine V_aload_n (q := 145) dX7_touch_144 rfl rfl rfl ?_
            refine VM_getI (q := 148) 47 dX7_touch_145 rfl flX7_194 rfl rfl rfl (fun z145_13 ez145_13 rz145_13 => ?_)
            rw [eM134_13, mu_t _ _ _ _ (by decide)] at ez145_13
            rw [eM120_13, mu_t _ _ _ _ (by decide)] at ez145_13
            rw [eM108_13, mu_t _ _ _ _ (by decide)] at ez145_13
            rw [eM81_5, mu_t _ _ _ _ (by decide)] at ez145_13
            rw [hM53, copyM_f _ (by decide)] at ez145_13
            refine VM_iast (q := 149) 36 dX7_touch_148 rfl rfl (by decide) rfl rfl (by omega) (fun M148_13 eM148_13 => ?_)
            refine V_aload_n (q := 150) dX7_touch_149 rfl rfl rfl ?_
            refine VM_getA (q := 153) 37 dX7_touch_150 rfl flX7_107 rfl rfl (Nat.succ_ne_zero _) ?_
            refine V_iconst (q := 154) dX7_touch_153 rfl (by decide) ?_
            refine V_iload_n (q := 155) dX7_touch_154 rfl rfl rfl ?_
            refine V_imul (q := 156) dX7_touch_155 rfl (by omega) (fun z155_13 ez155_13 => ?_)
            refine V_iconst (q := 157) dX7_touch_156 rfl (by decide) ?_
            refine V_iadd (q := 158) dX7_touch_157 rfl (by omega) (fun z157_13 ez157_13 => ?_)
            refine V_aload_n (q := 159) dX7_touch_158 rfl rfl rfl ?_
            refine VM_getI (q := 162) 48 dX7_touch_159 rfl flX7_225 rfl rfl rfl (fun z159_13 ez159_13 rz159_13 => ?_)
            rw [eM148_13, mu_t _ _ _ _ (by decide)] at ez159_13
            rw [eM134_13, mu_t _ _ _ _ (by decide)] at ez159_13
            rw [eM120_13, mu_t _ _ _ _ (by decide)] at ez159_13
            rw [eM108_13, mu_t _ _ _ _ (by decide)] at ez159_13
            rw [eM81_5, mu_t _ _ _ _ (by decide)] at ez159_13
            rw [hM53, copyM_f _ (by decide)] at ez159_13
            refine VM_iast (q := 163) 36 dX7_touch_162 rfl rfl (by decide) rfl rfl (by omega) (fun M162_13 eM162_13 => ?_)
            refine V_iload (q := 165) dX7_touch_163 rfl rfl ?_
            first | (exfalso; omega) | (refine VM_iret dX7_touch_165 ⟨_, rfl, Or.inr ⟨hrf, M34, hM34, by omega, ?_⟩⟩; unfold tchM; (repeat' (first | rw [if_pos (by omega)] | rw [if_neg (by omega)])); simp only [ez78_2, eM81_5, ez100_9, eM108_13, ez115_13, ez117_13, eM120_13, ez127_13, ez129_13, ez131_13, eM134_13, ez141_13, ez143_13, ez145_13, eM148_13, ez155_13, ez157_13, ez159_13, eM162_13, hM53])
          · refine V_iload (q := 95) dX7_touch_93 rfl rfl ?_
            refine V_iconst (q := 96) dX7_touch_95 rfl (by decide) ?_
            refine V_icmp_ne (q := 99) (tgt := 106) dX7_touch_96 (by decide) rfl (fun c96_5 => ?_) (fun c96_5 => ?_)
            · refine V_bipush (q := 108) dX7_touch_106 rfl (by decide) ?_
              refine VM_iast (q := 109) 35 dX7_touch_108 rfl rfl (by decide) rfl rfl (by omega) (fun M108_14 eM108_14 => ?_)
              refine V_aload_n (q := 110) dX7_touch_109 rfl rfl rfl ?_
              refine VM_getA (q := 113) 37 dX7_touch_110 rfl flX7_107 rfl rfl (Nat.succ_ne_zero _) ?_
              refine V_iconst (q := 114) dX7_touch_113 rfl (by decide) ?_
              refine V_iload_n (q := 115) dX7_touch_114 rfl rfl rfl ?_
              refine V_imul (q := 116) dX7_touch_115 rfl (by omega) (fun z115_14 ez115_14 => ?_)
              refine V_aload_n (q := 117) dX7_touch_116 rfl rfl rfl ?_
              refine VM_getI (q := 120) 45 dX7_touch_117 rfl flX7_250 rfl rfl rfl (fun z117_14 ez117_14 rz117_14 => ?_)
              rw [eM108_14, mu_t _ _ _ _ (by decide)] at ez117_14
              rw [eM81_5, mu_t _ _ _ _ (by decide)] at ez117_14
              rw [hM53, copyM_f _ (by decide)] at ez117_14
              refine VM_iast (q := 121) 36 dX7_touch_120 rfl rfl (by decide) rfl rfl (by omega) (fun M120_14 eM120_14 => ?_)
              refine V_aload_n (q := 122) dX7_touch_121 rfl rfl rfl ?_
              refine VM_getA (q := 125) 37 dX7_touch_122 rfl flX7_107 rfl rfl (Nat.succ_ne_zero _) ?_
              refine V_iconst (q := 126) dX7_touch_125 rfl (by decide) ?_
              refine V_iload_n (q := 127) dX7_touch_126 rfl rfl rfl ?_
              refine V_imul (q := 128) dX7_touch_127 rfl (by omega) (fun z127_14 ez127_14 => ?_)
              refine V_iconst (q := 129) dX7_touch_128 rfl (by decide) ?_
              refine V_iadd (q := 130) dX7_touch_129 rfl (by omega) (fun z129_14 ez129_14 => ?_)
              refine V_aload_n (q := 131) dX7_touch_130 rfl rfl rfl ?_
              refine VM_getI (q := 134) 46 dX7_touch_131 rfl flX7_216 rfl rfl rfl (fun z131_14 ez131_14 rz131_14 => ?_)
              rw [eM120_14, mu_t _ _ _ _ (by decide)] at ez131_14
              rw [eM108_14, mu_t _ _ _ _ (by decide)] at ez131_14
              rw [eM81_5, mu_t _ _ _ _ (by decide)] at ez131_14
              rw [hM53, copyM_f _ (by decide)] at ez131_14
              refine VM_iast (q := 135) 36 dX7_touch_134 rfl rfl (by decide) rfl rfl (by omega) (fun M134_14 eM134_14 => ?_)
              refine V_aload_n (q := 136) dX7_touch_135 rfl rfl rfl ?_
              refine VM_getA (q := 139) 37 dX7_touch_136 rfl flX7_107 rfl rfl (Nat.succ_ne_zero _) ?_
              refine V_iconst (q := 140) dX7_touch_139 rfl (by decide) ?_
              refine V_iload_n (q := 141) dX7_touch_140 rfl rfl rfl ?_
              refine V_imul (q := 142) dX7_touch_141 rfl (by omega) (fun z141_14 ez141_14 => ?_)
              refine V_iconst (q := 143) dX7_touch_142 rfl (by decide) ?_
              refine V_iadd (q := 144) dX7_touch_143 rfl (by omega) (fun z143_14 ez143_14 => ?_)
              refine V_aload_n (q := 145) dX7_touch_144 rfl rfl rfl ?_
              refine VM_getI (q := 148) 47 dX7_touch_145 rfl flX7_194 rfl rfl rfl (fun z145_14 ez145_14 rz145_14 => ?_)
              rw [eM134_14, mu_t _ _ _ _ (by decide)] at ez145_14
              rw [eM120_14, mu_t _ _ _ _ (by decide)] at ez145_14
              rw [eM108_14, mu_t _ _ _ _ (by decide)] at ez145_14
              rw [eM81_5, mu_t _ _ _ _ (by decide)] at ez145_14
              rw [hM53, copyM_f _ (by decide)] at ez145_14
              refine VM_iast (q := 149) 36 dX7_touch_148 rfl rfl (by decide) rfl rfl (by omega) (fun M148_14 eM148_14 => ?_)
              refine V_aload_n (q := 150) dX7_touch_149 rfl rfl rfl ?_
              refine VM_getA (q := 153) 37 dX7_touch_150 rfl flX7_107 rfl rfl (Nat.succ_ne_zero _) ?_
              refine V_iconst (q := 154) dX7_touch_153 rfl (by decide) ?_
              refine V_iload_n (q := 155) dX7_touch_154 rfl rfl rfl ?_
              refine V_imul (q := 156) dX7_touch_155 rfl (by omega) (fun z155_14 ez155_14 => ?_)
              refine V_iconst (q := 157) dX7_touch_156 rfl (by decide) ?_
              refine V_iadd (q := 158) dX7_touch_157 rfl (by omega) (fun z157_14 ez157_14 => ?_)
              refine V_aload_n (q := 159) dX7_touch_158 rfl rfl rfl ?_
              refine VM_getI (q := 162) 48 dX7_touch_159 rfl flX7_225 rfl rfl rfl (fun z159_14 ez159_14 rz159_14 => ?_)
              rw [eM148_14, mu_t _ _ _ _ (by decide)] at ez159_14
              rw [eM134_14, mu_t _ _ _ _ (by decide)] at ez159_14
              rw [eM120_14, mu_t _ _ _ _ (by decide)] at ez159_14
              rw [eM108_14, mu_t _ _ _ _ (by decide)] at ez159_14
              rw [eM81_5, mu_t _ _ _ _ (by decide)] at ez159_14
              rw [hM53, copyM_f _ (by decide)] at ez159_14
              refine VM_iast (q := 163) 36 dX7_touch_162 rfl rfl (by decide) rfl rfl (by omega) (fun M162_14 eM162_14 => ?_)
              refine V_iload (q := 165) dX7_touch_163 rfl rfl ?_
              first | (exfalso; omega) | (refine VM_iret dX7_touch_165 ⟨_, rfl, Or.inr ⟨hrf, M34, hM34, by omega, ?_⟩⟩; unfold tchM; (repeat' (first | rw [if_pos (by omega)] | rw [if_neg (by omega)])); simp only [ez78_2, eM81_5, eM108_14, ez115_14, ez117_14, eM120_14, ez127_14, ez129_14, ez131_14, eM134_14, ez141_14, ez143_14, ez145_14, eM148_14, ez155_14, ez157_14, ez159_14, eM162_14, hM53])
            · refine V_aload_n (q := 100) dX7_touch_99 rfl rfl rfl ?_
              refine VM_getI (q := 103) 52 dX7_touch_100 rfl flX7_207 rfl rfl rfl (fun z100_10 ez100_10 rz100_10 => ?_)
              rw [eM81_5, mu_t _ _ _ _ (by decide)] at ez100_10
              rw [hM53, copyM_f _ (by decide)] at ez100_10
              refine V_goto (tgt := 108) dX7_touch_103 (by decide) ?_
              refine VM_iast (q := 109) 35 dX7_touch_108 rfl rfl (by decide) rfl rfl (by omega) (fun M108_15 eM108_15 => ?_)
              refine V_aload_n (q := 110) dX7_touch_109 rfl rfl rfl ?_
              refine VM_getA (q := 113) 37 dX7_touch_110 rfl flX7_107 rfl rfl (Nat.succ_ne_zero _) ?_
              refine V_iconst (q := 114) dX7_touch_113 rfl (by decide) ?_
              refine V_iload_n (q := 115) dX7_touch_114 rfl rfl rfl ?_
              refine V_imul (q := 116) dX7_touch_115 rfl (by omega) (fun z115_15 ez115_15 => ?_)
              refine V_aload_n (q := 117) dX7_touch_116 rfl rfl rfl ?_
              refine VM_getI (q := 120) 45 dX7_touch_117 rfl flX7_250 rfl rfl rfl (fun z117_15 ez117_15 rz117_15 => ?_)
              rw [eM108_15, mu_t _ _ _ _ (by decide)] at ez117_15
              rw [eM81_5, mu_t _ _ _ _ (by decide)] at ez117_15
              rw [hM53, copyM_f _ (by decide)] at ez117_15
              refine VM_iast (q := 121) 36 dX7_touch_120 rfl rfl (by decide) rfl rfl (by omega) (fun M120_15 eM120_15 => ?_)
              refine V_aload_n (q := 122) dX7_touch_121 rfl rfl rfl ?_
              refine VM_getA (q := 125) 37 dX7_touch_122 rfl flX7_107 rfl rfl (Nat.succ_ne_zero _) ?_
              refine V_iconst (q := 126) dX7_touch_125 rfl (by decide) ?_
              refine V_iload_n (q := 127) dX7_touch_126 rfl rfl rfl ?_
              refine V_imul (q := 128) dX7_touch_127 rfl (by omega) (fun z127_15 ez127_15 => ?_)
              refine V_iconst (q := 129) dX7_touch_128 rfl (by decide) ?_
              refine V_iadd (q := 130) dX7_touch_129 rfl (by omega) (fun z129_15 ez129_15 => ?_)
              refine V_aload_n (q := 131) dX7_touch_130 rfl rfl rfl ?_
              refine VM_getI (q := 134) 46 dX7_touch_131 rfl flX7_216 rfl rfl rfl (fun z131_15 ez131_15 rz131_15 => ?_)
              rw [eM120_15, mu_t _ _ _ _ (by decide)] at ez131_15
              rw [eM108_15, mu_t _ _ _ _ (by decide)] at ez131_15
              rw [eM81_5, mu_t _ _ _ _ (by decide)] at ez131_15
              rw [hM53, copyM_f _ (by decide)] at ez131_15
              refine VM_iast (q := 135) 36 dX7_touch_134 rfl rfl (by decide) rfl rfl (by omega) (fun M134_15 eM134_15 => ?_)
              refine V_aload_n (q := 136) dX7_touch_135 rfl rfl rfl ?_
              refine VM_getA (q := 139) 37 dX7_touch_136 rfl flX7_107 rfl rfl (Nat.succ_ne_zero _) ?_
              refine V_iconst (q := 140) dX7_touch_139 rfl (by decide) ?_
              refine V_iload_n (q := 141) dX7_touch_140 rfl rfl rfl ?_
              refine V_imul (q := 142) dX7_touch_141 rfl (by omega) (fun z141_15 ez141_15 => ?_)
              refine V_iconst (q := 143) dX7_touch_142 rfl (by decide) ?_
              refine V_iadd (q := 144) dX7_touch_143 rfl (by omega) (fun z143_15 ez143_15 => ?_)
              refine V_aload_n (q := 145) dX7_touch_144 rfl rfl rfl ?_
              refine VM_getI (q := 148) 47 dX7_touch_145 rfl flX7_194 rfl rfl rfl (fun z145_15 ez145_15 rz145_15 => ?_)
              rw [eM134_15, mu_t _ _ _ _ (by decide)] at ez145_15
              rw [eM120_15, mu_t _ _ _ _ (by decide)] at ez145_15
              rw [eM108_15, mu_t _ _ _ _ (by decide)] at ez145_15
              rw [eM81_5, mu_t _ _ _ _ (by decide)] at ez145_15
              rw [hM53, copyM_f _ (by decide)] at ez145_15
              refine VM_iast (q := 149) 36 dX7_touch_148 rfl rfl (by decide) rfl rfl (by omega) (fun M148_15 eM148_15 => ?_)
              refine V_aload_n (q := 150) dX7_touch_149 rfl rfl rfl ?_
              refine VM_getA (q := 153) 37 dX7_touch_150 rfl flX7_107 rfl rfl (Nat.succ_ne_zero _) ?_
              refine V_iconst (q := 154) dX7_touch_153 rfl (by decide) ?_
              refine V_iload_n (q := 155) dX7_touch_154 rfl rfl rfl ?_
              refine V_imul (q := 156) dX7_touch_155 rfl (by omega) (fun z155_15 ez155_15 => ?_)
              refine V_iconst (q := 157) dX7_touch_156 rfl (by decide) ?_
              refine V_iadd (q := 158) dX7_touch_157 rfl (by omega) (fun z157_15 ez157_15 => ?_)
              refine V_aload_n (q := 159) dX7_touch_158 rfl rfl rfl ?_
              refine VM_getI (q := 162) 48 dX7_touch_159 rfl flX7_225 rfl rfl rfl (fun z159_15 ez159_15 rz159_15 => ?_)
              rw [eM148_15, mu_t _ _ _ _ (by decide)] at ez159_15
              rw [eM134_15, mu_t _ _ _ _ (by decide)] at ez159_15
              rw [eM120_15, mu_t _ _ _ _ (by decide)] at ez159_15
              rw [eM108_15, mu_t _ _ _ _ (by decide)] at ez159_15
              rw [eM81_5, mu_t _ _ _ _ (by decide)] at ez159_15
              rw [hM53, copyM_f _ (by decide)] at ez159_15
              refine VM_iast (q := 163) 36 dX7_touch_162 rfl rfl (by decide) rfl rfl (by omega) (fun M162_15 eM162_15 => ?_)
              refine V_iload (q := 165) dX7_touch_163 rfl rfl ?_
              first | (exfalso; omega) | (refine VM_iret dX7_touch_165 ⟨_, rfl, Or.inr ⟨hrf, M34, hM34, by omega, ?_⟩⟩; unfold tchM; (repeat' (first | rw [if_pos (by omega)] | rw [if_neg (by omega)])); simp only [ez78_2, eM81_5, ez100_10, eM108_15, ez115_15, ez117_15, eM120_15, ez127_15, ez129_15, ez131_15, eM134_15, ez141_15, ez143_15, ez145_15, eM148_15, ez155_15, ez157_15, ez159_15, eM162_15, hM53])
        · refine V_bipush (q := 74) dX7_touch_72 rfl (by decide) ?_
          refine V_goto (tgt := 81) dX7_touch_74 (by decide) ?_
          refine VM_iast (q := 82) 34 dX7_touch_81 rfl rfl (by decide) rfl rfl (by omega) (fun M81_6 eM81_6 => ?_)
          refine V_aload_n (q := 83) dX7_touch_82 rfl rfl rfl ?_
          refine VM_getA (q := 86) 36 dX7_touch_83 rfl flX7_104 rfl rfl (Nat.succ_ne_zero _) ?_
          refine V_iload_n (q := 87) dX7_touch_86 rfl rfl rfl ?_
          refine V_iload (q := 89) dX7_touch_87 rfl rfl ?_
          refine V_iconst (q := 90) dX7_touch_89 rfl (by decide) ?_
          refine V_icmp_eq (q := 93) (tgt := 99) dX7_touch_90 (by decide) rfl (fun c90_6 => ?_) (fun c90_6 => ?_)
          · refine V_aload_n (q := 100) dX7_touch_99 rfl rfl rfl ?_
            refine VM_getI (q := 103) 52 dX7_touch_100 rfl flX7_207 rfl rfl rfl (fun z100_11 ez100_11 rz100_11 => ?_)
            rw [eM81_6, mu_t _ _ _ _ (by decide)] at ez100_11
            rw [hM53, copyM_f _ (by decide)] at ez100_11
            refine V_goto (tgt := 108) dX7_touch_103 (by decide) ?_
            refine VM_iast (q := 109) 35 dX7_touch_108 rfl rfl (by decide) rfl rfl (by omega) (fun M108_16 eM108_16 => ?_)
            refine V_aload_n (q := 110) dX7_touch_109 rfl rfl rfl ?_
            refine VM_getA (q := 113) 37 dX7_touch_110 rfl flX7_107 rfl rfl (Nat.succ_ne_zero _) ?_
            refine V_iconst (q := 114) dX7_touch_113 rfl (by decide) ?_
            refine V_iload_n (q := 115) dX7_touch_114 rfl rfl rfl ?_
            refine V_imul (q := 116) dX7_touch_115 rfl (by omega) (fun z115_16 ez115_16 => ?_)
            refine V_aload_n (q := 117) dX7_touch_116 rfl rfl rfl ?_
            refine VM_getI (q := 120) 45 dX7_touch_117 rfl flX7_250 rfl rfl rfl (fun z117_16 ez117_16 rz117_16 => ?_)
            rw [eM108_16, mu_t _ _ _ _ (by decide)] at ez117_16
            rw [eM81_6, mu_t _ _ _ _ (by decide)] at ez117_16
            rw [hM53, copyM_f _ (by decide)] at ez117_16
            refine VM_iast (q := 121) 36 dX7_touch_120 rfl rfl (by decide) rfl rfl (by omega) (fun M120_16 eM120_16 => ?_)
            refine V_aload_n (q := 122) dX7_touch_121 rfl rfl rfl ?_
            refine VM_getA (q := 125) 37 dX7_touch_122 rfl flX7_107 rfl rfl (Nat.succ_ne_zero _) ?_
            refine V_iconst (q := 126) dX7_touch_125 rfl (by decide) ?_
            refine V_iload_n (q := 127) dX7_touch_126 rfl rfl rfl ?_
            refine V_imul (q := 128) dX7_touch_127 rfl (by omega) (fun z127_16 ez127_16 => ?_)
            refine V_iconst (q := 129) dX7_touch_128 rfl (by decide) ?_
            refine V_iadd (q := 130) dX7_touch_129 rfl (by omega) (fun z129_16 ez129_16 => ?_)
            refine V_aload_n (q := 131) dX7_touch_130 rfl rfl rfl ?_
            refine VM_getI (q := 134) 46 dX7_touch_131 rfl flX7_216 rfl rfl rfl (fun z131_16 ez131_16 rz131_16 => ?_)
            rw [eM120_16, mu_t _ _ _ _ (by decide)] at ez131_16
            rw [eM108_16, mu_t _ _ _ _ (by decide)] at ez131_16
            rw [eM81_6, mu_t _ _ _ _ (by decide)] at ez131_16
            rw [hM53, copyM_f _ (by decide)] at ez131_16
            refine VM_iast (q := 135) 36 dX7_touch_134 rfl rfl (by decide) rfl rfl (by omega) (fun M134_16 eM134_16 => ?_)
            refine V_aload_n (q := 136) dX7_touch_135 rfl rfl rfl ?_
            refine VM_getA (q := 139) 37 dX7_touch_136 rfl flX7_107 rfl rfl (Nat.succ_ne_zero _) ?_
            refine V_iconst (q := 140) dX7_touch_139 rfl (by decide) ?_
            refine V_iload_n (q := 141) dX7_touch_140 rfl rfl rfl ?_
            refine V_imul (q := 142) dX7_touch_141 rfl (by omega) (fun z141_16 ez141_16 => ?_)
            refine V_iconst (q := 143) dX7_touch_142 rfl (by decide) ?_
            refine V_iadd (q := 144) dX7_touch_143 rfl (by omega) (fun z143_16 ez143_16 => ?_)
            refine V_aload_n (q := 145) dX7_touch_144 rfl rfl rfl ?_
            refine VM_getI (q := 148) 47 dX7_touch_145 rfl flX7_194 rfl rfl rfl (fun z145_16 ez145_16 rz145_16 => ?_)
            rw [eM134_16, mu_t _ _ _ _ (by decide)] at ez145_16
            rw [eM120_16, mu_t _ _ _ _ (by decide)] at ez145_16
            rw [eM108_16, mu_t _ _ _ _ (by decide)] at ez145_16
            rw [eM81_6, mu_t _ _ _ _ (by decide)] at ez145_16
            rw [hM53, copyM_f _ (by decide)] at ez145_16
            refine VM_iast (q := 149) 36 dX7_touch_148 rfl rfl (by decide) rfl rfl (by omega) (fun M148_16 eM148_16 => ?_)
            refine V_aload_n (q := 150) dX7_touch_149 rfl rfl rfl ?_
            refine VM_getA (q := 153) 37 dX7_touch_150 rfl flX7_107 rfl rfl (Nat.succ_ne_zero _) ?_
            refine V_iconst (q := 154) dX7_touch_153 rfl (by decide) ?_
            refine V_iload_n (q := 155) dX7_touch_154 rfl rfl rfl ?_
            refine V_imul (q := 156) dX7_touch_155 rfl (by omega) (fun z155_16 ez155_16 => ?_)
            refine V_iconst (q := 157) dX7_touch_156 rfl (by decide) ?_
            refine V_iadd (q := 158) dX7_touch_157 rfl (by omega) (fun z157_16 ez157_16 => ?_)
            refine V_aload_n (q := 159) dX7_touch_158 rfl rfl rfl ?_
            refine VM_getI (q := 162) 48 dX7_touch_159 rfl flX7_225 rfl rfl rfl (fun z159_16 ez159_16 rz159_16 => ?_)
            rw [eM148_16, mu_t _ _ _ _ (by decide)] at ez159_16
            rw [eM134_16, mu_t _ _ _ _ (by decide)] at ez159_16
            rw [eM120_16, mu_t _ _ _ _ (by decide)] at ez159_16
            rw [eM108_16, mu_t _ _ _ _ (by decide)] at ez159_16
            rw [eM81_6, mu_t _ _ _ _ (by decide)] at ez159_16
            rw [hM53, copyM_f _ (by decide)] at ez159_16
            refine VM_iast (q := 163) 36 dX7_touch_162 rfl rfl (by decide) rfl rfl (by omega) (fun M162_16 eM162_16 => ?_)
            refine V_iload (q := 165) dX7_touch_163 rfl rfl ?_
            first | (exfalso; omega) | (refine VM_iret dX7_touch_165 ⟨_, rfl, Or.inr ⟨hrf, M34, hM34, by omega, ?_⟩⟩; unfold tchM; (repeat' (first | rw [if_pos (by omega)] | rw [if_neg (by omega)])); simp only [eM81_6, ez100_11, eM108_16, ez115_16, ez117_16, eM120_16, ez127_16, ez129_16, ez131_16, eM134_16, ez141_16, ez143_16, ez145_16, eM148_16, ez155_16, ez157_16, ez159_16, eM162_16, hM53])
          · refine V_iload (q := 95) dX7_touch_93 rfl rfl ?_
            refine V_iconst (q := 96) dX7_touch_95 rfl (by decide) ?_
            refine V_icmp_ne (q := 99) (tgt := 106) dX7_touch_96 (by decide) rfl (fun c96_6 => ?_) (fun c96_6 => ?_)
            · refine V_bipush (q := 108) dX7_touch_106 rfl (by decide) ?_
              refine VM_iast (q := 109) 35 dX7_touch_108 rfl rfl (by decide) rfl rfl (by omega) (fun M108_17 eM108_17 => ?_)
              refine V_aload_n (q := 110) dX7_touch_109 rfl rfl rfl ?_
              refine VM_getA (q := 113) 37 dX7_touch_110 rfl flX7_107 rfl rfl (Nat.succ_ne_zero _) ?_
              refine V_iconst (q := 114) dX7_touch_113 rfl (by decide) ?_
              refine V_iload_n (q := 115) dX7_touch_114 rfl rfl rfl ?_
              refine V_imul (q := 116) dX7_touch_115 rfl (by omega) (fun z115_17 ez115_17 => ?_)
              refine V_aload_n (q := 117) dX7_touch_116 rfl rfl rfl ?_
              refine VM_getI (q := 120) 45 dX7_touch_117 rfl flX7_250 rfl rfl rfl (fun z117_17 ez117_17 rz117_17 => ?_)
              rw [eM108_17, mu_t _ _ _ _ (by decide)] at ez117_17
              rw [eM81_6, mu_t _ _ _ _ (by decide)] at ez117_17
              rw [hM53, copyM_f _ (by decide)] at ez117_17
              refine VM_iast (q := 121) 36 dX7_touch_120 rfl rfl (by decide) rfl rfl (by omega) (fun M120_17 eM120_17 => ?_)
              refine V_aload_n (q := 122) dX7_touch_121 rfl rfl rfl ?_
              refine VM_getA (q := 125) 37 dX7_touch_122 rfl flX7_107 rfl rfl (Nat.succ_ne_zero _) ?_
              refine V_iconst (q := 126) dX7_touch_125 rfl (by decide) ?_
              refine V_iload_n (q := 127) dX7_touch_126 rfl rfl rfl ?_
              refine V_imul (q := 128) dX7_touch_127 rfl (by omega) (fun z127_17 ez127_17 => ?_)
              refine V_iconst (q := 129) dX7_touch_128 rfl (by decide) ?_
              refine V_iadd (q := 130) dX7_touch_129 rfl (by omega) (fun z129_17 ez129_17 => ?_)
              refine V_aload_n (q := 131) dX7_touch_130 rfl rfl rfl ?_
              refine VM_getI (q := 134) 46 dX7_touch_131 rfl flX7_216 rfl rfl rfl (fun z131_17 ez131_17 rz131_17 => ?_)
              rw [eM120_17, mu_t _ _ _ _ (by decide)] at ez131_17
              rw [eM108_17, mu_t _ _ _ _ (by decide)] at ez131_17
              rw [eM81_6, mu_t _ _ _ _ (by decide)] at ez131_17
              rw [hM53, copyM_f _ (by decide)] at ez131_17
              refine VM_iast (q := 135) 36 dX7_touch_134 rfl rfl (by decide) rfl rfl (by omega) (fun M134_17 eM134_17 => ?_)
              refine V_aload_n (q := 136) dX7_touch_135 rfl rfl rfl ?_
              refine VM_getA (q := 139) 37 dX7_touch_136 rfl flX7_107 rfl rfl (Nat.succ_ne_zero _) ?_
              refine V_iconst (q := 140) dX7_touch_139 rfl (by decide) ?_
              refine V_iload_n (q := 141) dX7_touch_140 rfl rfl rfl ?_
              refine V_imul (q := 142) dX7_touch_141 rfl (by omega) (fun z141_17 ez141_17 => ?_)
              refine V_iconst (q := 143) dX7_touch_142 rfl (by decide) ?_
              refine V_iadd (q := 144) dX7_touch_143 rfl (by omega) (fun z143_17 ez143_17 => ?_)
              refine V_aload_n (q := 145) dX7_touch_144 rfl rfl rfl ?_
              refine VM_getI (q := 148) 47 dX7_touch_145 rfl flX7_194 rfl rfl rfl (fun z145_17 ez145_17 rz145_17 => ?_)
              rw [eM134_17, mu_t _ _ _ _ (by decide)] at ez145_17
              rw [eM120_17, mu_t _ _ _ _ (by decide)] at ez145_17
              rw [eM108_17, mu_t _ _ _ _ (by decide)] at ez145_17
              rw [eM81_6, mu_t _ _ _ _ (by decide)] at ez145_17
              rw [hM53, copyM_f _ (by decide)] at ez145_17
              refine VM_iast (q := 149) 36 dX7_touch_148 rfl rfl (by decide) rfl rfl (by omega) (fun M148_17 eM148_17 => ?_)
              refine V_aload_n (q := 150) dX7_touch_149 rfl rfl rfl ?_
              refine VM_getA (q := 153) 37 dX7_touch_150 rfl flX7_107 rfl rfl (Nat.succ_ne_zero _) ?_
              refine V_iconst (q := 154) dX7_touch_153 rfl (by decide) ?_
              refine V_iload_n (q := 155) dX7_touch_154 rfl rfl rfl ?_
              refine V_imul (q := 156) dX7_touch_155 rfl (by omega) (fun z155_17 ez155_17 => ?_)
              refine V_iconst (q := 157) dX7_touch_156 rfl (by decide) ?_
              refine V_iadd (q := 158) dX7_touch_157 rfl (by omega) (fun z157_17 ez157_17 => ?_)
              refine V_aload_n (q := 159) dX7_touch_158 rfl rfl rfl ?_
              refine VM_getI (q := 162) 48 dX7_touch_159 rfl flX7_225 rfl rfl rfl (fun z159_17 ez159_17 rz159_17 => ?_)
              rw [eM148_17, mu_t _ _ _ _ (by decide)] at ez159_17
              rw [eM134_17, mu_t _ _ _ _ (by decide)] at ez159_17
              rw [eM120_17, mu_t _ _ _ _ (by decide)] at ez159_17
              rw [eM108_17, mu_t _ _ _ _ (by decide)] at ez159_17
              rw [eM81_6, mu_t _ _ _ _ (by decide)] at ez159_17
              rw [hM53, copyM_f _ (by decide)] at ez159_17
              refine VM_iast (q := 163) 36 dX7_touch_162 rfl rfl (by decide) rfl rfl (by omega) (fun M162_17 eM162_17 => ?_)
              refine V_iload (q := 165) dX7_touch_163 rfl rfl ?_
              first | (exfalso; omega) | (refine VM_iret dX7_touch_165 ⟨_, rfl, Or.inr ⟨hrf, M34, hM34, by omega, ?_⟩⟩; unfold tchM; (repeat' (first | rw [if_pos (by omega)] | rw [if_neg (by omega)])); simp only [eM81_6, eM108_17, ez115_17, ez117_17, eM120_17, ez127_17, ez129_17, ez131_17, eM134_17, ez141_17, ez143_17, ez145_17, eM148_17, ez155_17, ez157_17, ez159_17, eM162_17, hM53])
            · refine V_aload_n (q := 100) dX7_touch_99 rfl rfl rfl ?_
              refine VM_getI (q := 103) 52 dX7_touch_100 rfl flX7_207 rfl rfl rfl (fun z100_12 ez100_12 rz100_12 => ?_)
              rw [eM81_6, mu_t _ _ _ _ (by decide)] at ez100_12
              rw [hM53, copyM_f _ (by decide)] at ez100_12
              refine V_goto (tgt := 108) dX7_touch_103 (by decide) ?_
              refine VM_iast (q := 109) 35 dX7_touch_108 rfl rfl (by decide) rfl rfl (by omega) (fun M108_18 eM108_18 => ?_)
              refine V_aload_n (q := 110) dX7_touch_109 rfl rfl rfl ?_
              refine VM_getA (q := 113) 37 dX7_touch_110 rfl flX7_107 rfl rfl (Nat.succ_ne_zero _) ?_
              refine V_iconst (q := 114) dX7_touch_113 rfl (by decide) ?_
              refine V_iload_n (q := 115) dX7_touch_114 rfl rfl rfl ?_
              refine V_imul (q := 116) dX7_touch_115 rfl (by omega) (fun z115_18 ez115_18 => ?_)
              refine V_aload_n (q := 117) dX7_touch_116 rfl rfl rfl ?_
              refine VM_getI (q := 120) 45 dX7_touch_117 rfl flX7_250 rfl rfl rfl (fun z117_18 ez117_18 rz117_18 => ?_)
              rw [eM108_18, mu_t _ _ _ _ (by decide)] at ez117_18
              rw [eM81_6, mu_t _ _ _ _ (by decide)] at ez117_18
              rw [hM53, copyM_f _ (by decide)] at ez117_18
              refine VM_iast (q := 121) 36 dX7_touch_120 rfl rfl (by decide) rfl rfl (by omega) (fun M120_18 eM120_18 => ?_)
              refine V_aload_n (q := 122) dX7_touch_121 rfl rfl rfl ?_
              refine VM_getA (q := 125) 37 dX7_touch_122 rfl flX7_107 rfl rfl (Nat.succ_ne_zero _) ?_
              refine V_iconst (q := 126) dX7_touch_125 rfl (by decide) ?_
              refine V_iload_n (q := 127) dX7_touch_126 rfl rfl rfl ?_
              refine V_imul (q := 128) dX7_touch_127 rfl (by omega) (fun z127_18 ez127_18 => ?_)
              refine V_iconst (q := 129) dX7_touch_128 rfl (by decide) ?_
              refine V_iadd (q := 130) dX7_touch_129 rfl (by omega) (fun z129_18 ez129_18 => ?_)
              refine V_aload_n (q := 131) dX7_touch_130 rfl rfl rfl ?_
              refine VM_getI (q := 134) 46 dX7_touch_131 rfl flX7_216 rfl rfl rfl (fun z131_18 ez131_18 rz131_18 => ?_)
              rw [eM120_18, mu_t _ _ _ _ (by decide)] at ez131_18
              rw [eM108_18, mu_t _ _ _ _ (by decide)] at ez131_18
              rw [eM81_6, mu_t _ _ _ _ (by decide)] at ez131_18
              rw [hM53, copyM_f _ (by decide)] at ez131_18
              refine VM_iast (q := 135) 36 dX7_touch_134 rfl rfl (by decide) rfl rfl (by omega) (fun M134_18 eM134_18 => ?_)
              refine V_aload_n (q := 136) dX7_touch_135 rfl rfl rfl ?_
              refine VM_getA (q := 139) 37 dX7_touch_136 rfl flX7_107 rfl rfl (Nat.succ_ne_zero _) ?_
              refine V_iconst (q := 140) dX7_touch_139 rfl (by decide) ?_
              refine V_iload_n (q := 141) dX7_touch_140 rfl rfl rfl ?_
              refine V_imul (q := 142) dX7_touch_141 rfl (by omega) (fun z141_18 ez141_18 => ?_)
              refine V_iconst (q := 143) dX7_touch_142 rfl (by decide) ?_
              refine V_iadd (q := 144) dX7_touch_143 rfl (by omega) (fun z143_18 ez143_18 => ?_)
              refine V_aload_n (q := 145) dX7_touch_144 rfl rfl rfl ?_
              refine VM_getI (q := 148) 47 dX7_touch_145 rfl flX7_194 rfl rfl rfl (fun z145_18 ez145_18 rz145_18 => ?_)
              rw [eM134_18, mu_t _ _ _ _ (by decide)] at ez145_18
              rw [eM120_18, mu_t _ _ _ _ (by decide)] at ez145_18
              rw [eM108_18, mu_t _ _ _ _ (by decide)] at ez145_18
              rw [eM81_6, mu_t _ _ _ _ (by decide)] at ez145_18
              rw [hM53, copyM_f _ (by decide)] at ez145_18
              refine VM_iast (q := 149) 36 dX7_touch_148 rfl rfl (by decide) rfl rfl (by omega) (fun M148_18 eM148_18 => ?_)
              refine V_aload_n (q := 150) dX7_touch_149 rfl rfl rfl ?_
              refine VM_getA (q := 153) 37 dX7_touch_150 rfl flX7_107 rfl rfl (Nat.succ_ne_zero _) ?_
              refine V_iconst (q := 154) dX7_touch_153 rfl (by decide) ?_
              refine V_iload_n (q := 155) dX7_touch_154 rfl rfl rfl ?_
              refine V_imul (q := 156) dX7_touch_155 rfl (by omega) (fun z155_18 ez155_18 => ?_)
              refine V_iconst (q := 157) dX7_touch_156 rfl (by decide) ?_
              refine V_iadd (q := 158) dX7_touch_157 rfl (by omega) (fun z157_18 ez157_18 => ?_)
              refine V_aload_n (q := 159) dX7_touch_158 rfl rfl rfl ?_
              refine VM_getI (q := 162) 48 dX7_touch_159 rfl flX7_225 rfl rfl rfl (fun z159_18 ez159_18 rz159_18 => ?_)
              rw [eM148_18, mu_t _ _ _ _ (by decide)] at ez159_18
              rw [eM134_18, mu_t _ _ _ _ (by decide)] at ez159_18
              rw [eM120_18, mu_t _ _ _ _ (by decide)] at ez159_18
              rw [eM108_18, mu_t _ _ _ _ (by decide)] at ez159_18
              rw [eM81_6, mu_t _ _ _ _ (by decide)] at ez159_18
              rw [hM53, copyM_f _ (by decide)] at ez159_18
              refine VM_iast (q := 163) 36 dX7_touch_162 rfl rfl (by decide) rfl rfl (by omega) (fun M162_18 eM162_18 => ?_)
              refine V_iload (q := 165) dX7_touch_163 rfl rfl ?_
              first | (exfalso; omega) | (refine VM_iret dX7_touch_165 ⟨_, rfl, Or.inr ⟨hrf, M34, hM34, by omega, ?_⟩⟩; unfold tchM; (repeat' (first | rw [if_pos (by omega)] | rw [if_neg (by omega)])); simp only [eM81_6, ez100_12, eM108_18, ez115_18, ez117_18, eM120_18, ez127_18, ez129_18, ez131_18, eM134_18, ez141_18, ez143_18, ez145_18, eM148_18, ez155_18, ez157_18, ez159_18, eM162_18, hM53])
  · refine V_iload (q := 18) dX7_touch_16 rfl rfl ?_
    exact VM_iret dX7_touch_18 ⟨_, rfl, Or.inl ⟨by omega, by omega, rfl⟩⟩
theorem tX7_foretell {Γ : GC} {αC : Sh} {C M : Mem} {x k t n v : Int} {Q : Mem → Prop} (w : WFD M) (hxx : refR M x k t n = 0 → 0 ≤ x ∧ x ≤ 11) (h : refR M x k t n = 0 → ∀ G : Mem → Prop, Mach Q G → G (goM (copyM M x 12) x k t n v)) : MM Γ yX7_foretell cX7_foretell 7 (some .int) 6 [(0, x), (0, k), (0, t), (0, n), (0, v)] αC C M (mI fun r M1 => (refR M x k t n ≠ 0 ∧ r = refR M x k t n ∧ M1 = M) ∨ (refR M x k t n = 0 ∧ ∃ Mg, Q Mg ∧ r = cmM Mg ∧ M1 = copyM Mg 12 x)) := by
  have hn0 := w.n
  have hw0 := w.w
  refine MM_of (k := 1) [(3, 0), (0, x), (0, k), (0, t), (0, n), (0, v), (9, 0)] pn_X7_foretell rfl rfl rfl (fun ad0 => ?_)
  refine V_aload_n (q := 1) dX7_foretell_0 rfl rfl rfl ?_
  refine V_iload_n (q := 2) dX7_foretell_1 rfl rfl rfl ?_
  refine V_iload_n (q := 3) dX7_foretell_2 rfl rfl rfl ?_
  refine V_iload_n (q := 4) dX7_foretell_3 rfl rfl rfl ?_
  refine V_iload (q := 6) dX7_foretell_4 rfl rfl ?_
  refine VM_callI (q := 9) (As := [(0, x), (0, k), (0, t), (0, n)]) (tX7_refusal (C := C) (M := M) w) dX7_foretell_6 rfl mlX7_283 mw_X7_refusal im_X7_refusal sl_X7_refusal md_X7_refusal rfl rfl rfl (by decide) (by decide) (Nat.le_refl _) (Nat.le_refl _) (Nat.le_of_ble_eq_true rfl) (fun z6 M6 rz6 hz6 => ?_)
  obtain ⟨hm, hz6⟩ := hz6
  replace hm := hm.symm
  subst hm
  have hrr := refR_rng M x k t n
  refine V_istore (q := 11) (lv1 := [(3, 0), (0, x), (0, k), (0, t), (0, n), (0, v), (0, z6)]) dX7_foretell_9 rfl (by decide) rfl rfl ?_
  refine V_iload (q := 13) dX7_foretell_11 rfl rfl ?_
  refine V_if_ge (q := 16) (tgt := 19) dX7_foretell_13 (by decide) rfl (fun c13 => ?_) (fun c13 => ?_)
  · refine V_aload_n (q := 20) dX7_foretell_19 rfl rfl rfl ?_
    refine V_iload_n (q := 21) dX7_foretell_20 rfl rfl rfl ?_
    refine V_bipush (q := 23) dX7_foretell_21 rfl (by decide) ?_
    have hrf : refR M x k t n = 0 := by omega
    have hx := hxx hrf
    refine VM_callN (q := 26) (As := [(0, x), (0, 12)]) (tX7_copy (C := C) (M := M) ⟨by omega, by omega⟩ ⟨by omega, by omega⟩ (by omega)) dX7_foretell_23 rfl mlX7_287 mw_X7_copy im_X7_copy sl_X7_copy md_X7_copy rfl rfl rfl (by decide) (by decide) (Nat.le_refl _) (Nat.le_refl _) (Nat.le_of_ble_eq_true rfl) (fun M23 hM23 => ?_)
    refine V_aload_n (q := 27) dX7_foretell_26 rfl rfl rfl ?_
    refine V_iload_n (q := 28) dX7_foretell_27 rfl rfl rfl ?_
    refine V_iload_n (q := 29) dX7_foretell_28 rfl rfl rfl ?_
    refine V_iload_n (q := 30) dX7_foretell_29 rfl rfl rfl ?_
    refine V_iload (q := 32) dX7_foretell_30 rfl rfl ?_
    refine V_iload (q := 34) dX7_foretell_32 rfl rfl ?_
    refine VM_callN (q := 37) (As := [(0, x), (0, k), (0, t), (0, n), (0, v)]) (tX7_go (C := C) (M := M23) (Q := Q) (by { rw [hM23]; exact h hrf })) dX7_foretell_34 rfl mlX7_290 mw_X7_go im_X7_go sl_X7_go md_X7_go rfl rfl rfl (by decide) (by decide) (Nat.le_refl _) (Nat.le_refl _) (Nat.le_of_ble_eq_true rfl) (fun M34 hM34 => ?_)
    refine V_aload_n (q := 38) dX7_foretell_37 rfl rfl rfl ?_
    refine V_bipush (q := 40) dX7_foretell_38 rfl (by decide) ?_
    refine V_iload_n (q := 41) dX7_foretell_40 rfl rfl rfl ?_
    refine VM_callN (q := 44) (As := [(0, 12), (0, x)]) (tX7_copy (C := C) (M := M34) ⟨by omega, by omega⟩ ⟨by omega, by omega⟩ (by omega)) dX7_foretell_41 rfl mlX7_287 mw_X7_copy im_X7_copy sl_X7_copy md_X7_copy rfl rfl rfl (by decide) (by decide) (Nat.le_refl _) (Nat.le_refl _) (Nat.le_of_ble_eq_true rfl) (fun M41 hM41 => ?_)
    refine V_aload_n (q := 45) dX7_foretell_44 rfl rfl rfl ?_
    refine VM_callI (q := 48) (As := []) (tX7_cameTo (C := C) (M := M41)) dX7_foretell_45 rfl mlX7_294 mw_X7_cameTo im_X7_cameTo sl_X7_cameTo md_X7_cameTo rfl rfl rfl (by decide) (by decide) (Nat.le_refl _) (Nat.le_refl _) (Nat.le_of_ble_eq_true rfl) (fun z45 M45 rz45 hz45 => ?_)
    obtain ⟨hm, hz45⟩ := hz45
    replace hm := hm.symm
    subst hm
    exact VM_iret dX7_foretell_48 ⟨_, rfl, Or.inr ⟨hrf, M34, hM34, by { rw [hz45, hM41]; unfold cmM; rw [copyM_f _ (by decide), copyM_f _ (by decide), copyM_f _ (by decide)] }, hM41⟩⟩
  · refine V_iload (q := 18) dX7_foretell_16 rfl rfl ?_
    exact VM_iret dX7_foretell_18 ⟨_, rfl, Or.inl ⟨by omega, by omega, rfl⟩⟩
