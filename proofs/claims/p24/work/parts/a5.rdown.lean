/-! THE REFERENCE'S TOUCH MACHINE: what fails goes down -/
theorem onTM_o {v k : Int} {M : Mem} (h1 : k ≠ 31) (h2 : k ≠ 30) : onTM v M k = M k := by
  unfold onTM
  split
  · rw [mu_f _ _ _ _ h2, mu_f _ _ _ _ h1]
  · rw [mu_f _ _ _ _ h2]
def dnS (len f : Int) (Ms : Mem) : Mem := if Ms 41 f = len + 1 ∧ Ms 51 0 < 20 then failM 20 (Ms 51 0) (mu Ms 38 0 (Ms 38 0 - 1)) else mu Ms 38 0 (Ms 38 0 - 1)
def cgt (M : Mem) (f : Int) : Prop := M 42 f ≠ -6 ∧ anC M (12 * M 40 f + M 42 f) (M 51 0) (M 41 f - M 42 f).toNat = true
def dnP (f : Int) (M M1 : Mem) : Prop := (M 39 f ≠ 0 ∧ ∃ Ms : Mem, SCf (mu (mu M 57 f 0) 28 (40 * M 37 0 + M 40 f) 3) Ms ∧ M1 = dnS (LF M (M 40 f)).length f Ms) ∨ (M 39 f = 0 ∧ M 40 f < 0 ∧ M1 = mu (mu M 57 f 0) 38 0 (M 38 0 - 1)) ∨
  (M 39 f = 0 ∧ 0 ≤ M 40 f ∧ cgt M f ∧ M1 = didM f (onTM (1000 + M 51 0) (mu (mu M 57 f 0) 50 0 0))) ∨ (M 39 f = 0 ∧ 0 ≤ M 40 f ∧ ¬ cgt M f ∧ M1 = mu (mu (mu M 57 f 0) 44 0 (M 44 0 - 1)) 38 0 (M 38 0 - 1))
theorem LF_sd {M M1 : Mem} (h : SD M M1) (t : Int) : LF M1 t = LF M t := SD_LF h t
theorem tX7_goDown {Γ : GC} {αC : Sh} {C M : Mem} {f : Int} (w : WFD M) (g : RG M) (hf : f = M 38 0 - 1) (f0 : 0 ≤ f) (h40 : M 39 f ≠ 0 → 0 ≤ M 40 f ∧ M 40 f < M 0 0) (h41 : 0 ≤ M 41 f ∧ M 41 f ≤ 100) (hb : M 39 f = 0 → (-1 ≤ M 40 f ∧ M 40 f < 200) ∧ M 41 f ≤ 12 ∧ (M 42 f = -6 ∨ (0 ≤ M 42 f ∧ M 42 f ≤ M 41 f))) (h51 : 0 ≤ M 51 0 ∧ M 51 0 ≤ 1000) : MM Γ yX7_goDown cX7_goDown 4 none 2 [] αC C M (mN fun M1 => dnP f M M1) := by
  have hn := w.n
  obtain ⟨g1, g2, g3, g4, g5⟩ := id g
  refine MM_of (k := 3) [(3, 0), (9, 0), (9, 0), (9, 0)] pn_X7_goDown rfl rfl rfl (fun ad0 => ?_)
  unfold dnP
  have loop : M 39 f = 0 → 0 ≤ M 40 f → ∀ Mc : Mem, Mc = mu M 57 f 0 → ∀ c : Int, (M 41 f - 100 ≤ c ∧ c ≤ 12 ∧ (M 42 f ≠ -6 → M 42 f - 1 ≤ c ∧ c < M 41 f ∧ anC M (12 * M 40 f + M 42 f) (M 51 0) (M 41 f - M 42 f).toNat = anC M (12 * M 40 f + M 42 f) (M 51 0) (c + 1 - M 42 f).toNat)) → V Γ (gα αC) ad0 (ZM Γ (gα αC) ad0 (mQ αC C (mN fun M1 => dnP f M M1)) 0 0) (RM 2 0 0) RX7 cX7_goDown 4 none yX7_goDown.name 126 [] [(3, 0), (0, f), (0, c), (9, 0)] (gα αC) (mm Mc C) 0 0 := by
    intro h39 h40p Mc eMc
    have hb2 := hb h39
    refine loop1 _ (fun c => (c + 1 - M 42 f).toNat) _ ?_
    rintro c ⟨hc1, hc2, hc⟩ ih
    refine V_aload_n (q := 127) dX7_goDown_126 rfl rfl rfl ?_
    refine VM_getA (q := 130) 43 dX7_goDown_127 rfl flX7_119 rfl rfl (Nat.succ_ne_zero _) ?_
    refine V_iload_n (q := 131) dX7_goDown_130 rfl rfl rfl ?_
    refine VM_iald (q := 132) 42 dX7_goDown_131 rfl rfl (by decide) rfl rfl (by omega) (fun z131 ez131 rz131 => ?_)
    rw [eMc, mu_t _ _ _ _ (by decide)] at ez131
    refine V_bipush (q := 134) dX7_goDown_132 rfl (by decide) ?_
    refine V_icmp_eq (q := 137) (tgt := 206) dX7_goDown_134 (by decide) rfl (fun c134 => ?_) (fun c134 => ?_)
    · refine V_aload_n (q := 207) dX7_goDown_206 rfl rfl rfl ?_
      refine V_dup (q := 208) dX7_goDown_207 rfl (show (3 : Nat) ≠ 2 by decide) ?_
      refine VM_getI (q := 211) 44 dX7_goDown_208 rfl flX7_210 rfl rfl rfl (fun z208 ez208 rz208 => ?_)
      rw [eMc, mu_t _ _ _ _ (by decide)] at ez208
      refine V_iconst (q := 212) dX7_goDown_211 rfl (by decide) ?_
      refine V_isub (q := 213) dX7_goDown_212 rfl (by omega) (fun z212 ez212 => ?_)
      refine VM_putI (q := 216) 44 dX7_goDown_213 rfl flX7_210 rfl rfl rfl rfl (fun M213 eM213 => ?_)
      refine V_aload_n (q := 217) dX7_goDown_216 rfl rfl rfl ?_
      refine V_dup (q := 218) dX7_goDown_217 rfl (show (3 : Nat) ≠ 2 by decide) ?_
      refine VM_getI (q := 221) 38 dX7_goDown_218 rfl flX7_213 rfl rfl rfl (fun z218 ez218 rz218 => ?_)
      rw [eM213, mu_t _ _ _ _ (by decide)] at ez218
      rw [eMc, mu_t _ _ _ _ (by decide)] at ez218
      refine V_iconst (q := 222) dX7_goDown_221 rfl (by decide) ?_
      refine V_isub (q := 223) dX7_goDown_222 rfl (by omega) (fun z222 ez222 => ?_)
      refine VM_putI (q := 226) 38 dX7_goDown_223 rfl flX7_213 rfl rfl rfl rfl (fun M223 eM223 => ?_)
      refine VM_vret dX7_goDown_226 ⟨rfl, Or.inr (Or.inr (Or.inr ⟨by omega, by omega, ?_, ?_⟩))⟩
      · { rintro ⟨q1, q2⟩; first | (exact absurd q1 (by omega)) | (rw [(hc (by omega)).2.2, show (c + 1 - M 42 f).toNat = 0 by omega, anC_0] at q2; exact absurd q2 (by decide)) }
      · { simp only [eMc, ez131, ez208, ez212, eM213, ez218, ez222, eM223] }
    · refine V_iload_n (q := 138) dX7_goDown_137 rfl rfl rfl ?_
      refine V_aload_n (q := 139) dX7_goDown_138 rfl rfl rfl ?_
      refine VM_getA (q := 142) 43 dX7_goDown_139 rfl flX7_119 rfl rfl (Nat.succ_ne_zero _) ?_
      refine V_iload_n (q := 143) dX7_goDown_142 rfl rfl rfl ?_
      refine VM_iald (q := 144) 42 dX7_goDown_143 rfl rfl (by decide) rfl rfl (by omega) (fun z143 ez143 rz143 => ?_)
      rw [eMc, mu_t _ _ _ _ (by decide)] at ez143
      refine V_icmp_lt (q := 147) (tgt := 206) dX7_goDown_144 (by decide) rfl (fun c144 => ?_) (fun c144 => ?_)
      · refine V_aload_n (q := 207) dX7_goDown_206 rfl rfl rfl ?_
        refine V_dup (q := 208) dX7_goDown_207 rfl (show (3 : Nat) ≠ 2 by decide) ?_
        refine VM_getI (q := 211) 44 dX7_goDown_208 rfl flX7_210 rfl rfl rfl (fun z208_2 ez208_2 rz208_2 => ?_)
        rw [eMc, mu_t _ _ _ _ (by decide)] at ez208_2
        refine V_iconst (q := 212) dX7_goDown_211 rfl (by decide) ?_
        refine V_isub (q := 213) dX7_goDown_212 rfl (by omega) (fun z212_2 ez212_2 => ?_)
        refine VM_putI (q := 216) 44 dX7_goDown_213 rfl flX7_210 rfl rfl rfl rfl (fun M213_2 eM213_2 => ?_)
        refine V_aload_n (q := 217) dX7_goDown_216 rfl rfl rfl ?_
        refine V_dup (q := 218) dX7_goDown_217 rfl (show (3 : Nat) ≠ 2 by decide) ?_
        refine VM_getI (q := 221) 38 dX7_goDown_218 rfl flX7_213 rfl rfl rfl (fun z218_2 ez218_2 rz218_2 => ?_)
        rw [eM213_2, mu_t _ _ _ _ (by decide)] at ez218_2
        rw [eMc, mu_t _ _ _ _ (by decide)] at ez218_2
        refine V_iconst (q := 222) dX7_goDown_221 rfl (by decide) ?_
        refine V_isub (q := 223) dX7_goDown_222 rfl (by omega) (fun z222_2 ez222_2 => ?_)
        refine VM_putI (q := 226) 38 dX7_goDown_223 rfl flX7_213 rfl rfl rfl rfl (fun M223_2 eM223_2 => ?_)
        refine VM_vret dX7_goDown_226 ⟨rfl, Or.inr (Or.inr (Or.inr ⟨by omega, by omega, ?_, ?_⟩))⟩
        · { rintro ⟨q1, q2⟩; first | (exact absurd q1 (by omega)) | (rw [(hc (by omega)).2.2, show (c + 1 - M 42 f).toNat = 0 by omega, anC_0] at q2; exact absurd q2 (by decide)) }
        · { simp only [eMc, ez131, ez143, ez208_2, ez212_2, eM213_2, ez218_2, ez222_2, eM223_2] }
      · refine V_aload_n (q := 148) dX7_goDown_147 rfl rfl rfl ?_
        refine VM_getA (q := 151) 17 dX7_goDown_148 rfl flX7_56 rfl rfl (Nat.succ_ne_zero _) ?_
        refine V_bipush (q := 153) dX7_goDown_151 rfl (by decide) ?_
        refine V_aload_n (q := 154) dX7_goDown_153 rfl rfl rfl ?_
        refine VM_getA (q := 157) 41 dX7_goDown_154 rfl flX7_113 rfl rfl (Nat.succ_ne_zero _) ?_
        refine V_iload_n (q := 158) dX7_goDown_157 rfl rfl rfl ?_
        refine VM_iald (q := 159) 40 dX7_goDown_158 rfl rfl (by decide) rfl rfl (by omega) (fun z158 ez158 rz158 => ?_)
        rw [eMc, mu_t _ _ _ _ (by decide)] at ez158
        refine V_imul (q := 160) dX7_goDown_159 rfl (by omega) (fun z159 ez159 => ?_)
        refine V_iload_n (q := 161) dX7_goDown_160 rfl rfl rfl ?_
        refine V_iadd (q := 162) dX7_goDown_161 rfl (by omega) (fun z161 ez161 => ?_)
        refine VM_iald (q := 163) 16 dX7_goDown_162 rfl rfl (by decide) rfl rfl (by omega) (fun z162 ez162 rz162 => ?_)
        rw [eMc, mu_t _ _ _ _ (by decide)] at ez162
        have e16 : z162 = M 16 (12 * M 40 f + c) := by { rw [ez162]; congr 1; omega }
        refine V_istore_n (q := 164) (lv1 := [(3, 0), (0, f), (0, c), (0, z162)]) dX7_goDown_163 rfl rfl (by decide) rfl rfl ?_
        refine V_iload_n (q := 165) dX7_goDown_164 rfl rfl rfl ?_
        refine V_iconst (q := 166) dX7_goDown_165 rfl (by decide) ?_
        refine V_icmp_eq (q := 169) (tgt := 177) dX7_goDown_166 (by decide) rfl (fun c166 => ?_) (fun c166 => ?_)
        · refine V_aload_n (q := 178) dX7_goDown_177 rfl rfl rfl ?_
          refine V_iconst (q := 179) dX7_goDown_178 rfl (by decide) ?_
          refine VM_putZ (q := 182) 50 dX7_goDown_179 rfl flX7_201 rfl rfl rfl rfl (by omega) (fun M179 eM179 => ?_)
          refine V_aload_n (q := 183) dX7_goDown_182 rfl rfl rfl ?_
          refine V_sipush (q := 186) dX7_goDown_183 rfl (by decide) ?_
          refine V_aload_n (q := 187) dX7_goDown_186 rfl rfl rfl ?_
          refine VM_getI (q := 190) 51 dX7_goDown_187 rfl flX7_204 rfl rfl rfl (fun z187 ez187 rz187 => ?_)
          rw [eM179, mu_t _ _ _ _ (by decide)] at ez187
          rw [eMc, mu_t _ _ _ _ (by decide)] at ez187
          refine V_iadd (q := 191) dX7_goDown_190 rfl (by omega) (fun z190 ez190 => ?_)
          refine VM_callN (q := 194) (As := [(0, z190)]) (tX7_onTape (C := C) (M := M179) (RG_c (fun k i h => by rw [eM179, mu_ne (by omega), eMc, mu_ne (by omega)]) g)) dX7_goDown_191 rfl mlX7_268 mw_X7_onTape im_X7_onTape sl_X7_onTape md_X7_onTape rfl rfl rfl (by decide) (by decide) (Nat.le_refl _) (Nat.le_refl _) (Nat.le_of_ble_eq_true rfl) (fun M191 hM191 => ?_)
          refine V_aload_n (q := 195) dX7_goDown_194 rfl rfl rfl ?_
          refine V_iload_n (q := 196) dX7_goDown_195 rfl rfl rfl ?_
          refine VM_callN (q := 199) (As := [(0, f)]) (tX7_did (C := C) (M := M191) ⟨by omega, by omega⟩ (by { rw [hM191, onTM_o (by decide) (by decide), eM179, mu_ne (by omega), eMc, mu_ne (by omega)]; omega })) dX7_goDown_196 rfl mlX7_265 mw_X7_did im_X7_did sl_X7_did md_X7_did rfl rfl rfl (by decide) (by decide) (Nat.le_refl _) (Nat.le_refl _) (Nat.le_of_ble_eq_true rfl) (fun M196 hM196 => ?_)
          refine VM_vret dX7_goDown_199 ⟨rfl, Or.inr (Or.inr (Or.inl ⟨by omega, by omega, ⟨by omega, ?_⟩, ?_⟩))⟩
          · { rw [(hc (by omega)).2.2, anC_s _ _ _ (by omega), show 12 * M 40 f + M 42 f + (c - M 42 f) = 12 * M 40 f + c by omega]; first | (rw [decide_eq_true (show M 16 (12 * M 40 f + c) = -1 by omega)]; simp) | (rw [decide_eq_true (show M 16 (12 * M 40 f + c) = M 51 0 by omega)]; simp) }
          · { rw [hM196, hM191]; simp only [eMc, ez131, ez143, ez158, ez159, ez161, ez162, eM179, ez187, ez190] }
        · refine V_iload_n (q := 170) dX7_goDown_169 rfl rfl rfl ?_
          refine V_aload_n (q := 171) dX7_goDown_170 rfl rfl rfl ?_
          refine VM_getI (q := 174) 51 dX7_goDown_171 rfl flX7_204 rfl rfl rfl (fun z171 ez171 rz171 => ?_)
          rw [eMc, mu_t _ _ _ _ (by decide)] at ez171
          refine V_icmp_ne (q := 177) (tgt := 200) dX7_goDown_174 (by decide) rfl (fun c174 => ?_) (fun c174 => ?_)
          · refine V_iinc (q := 203) dX7_goDown_200 rfl rfl (by decide) rfl (by omega) (fun z200 lz200 ez200 hlz200 => ?_)
            obtain rfl : lz200 = [(3, 0), (0, f), (0, z200), (0, z162)] := hlz200
            refine V_goto (tgt := 126) dX7_goDown_203 (by decide) ?_
            refine V_fgt [(3, 0), (0, f), (0, z200), (9, 0)] ⟨Or.inl rfl, Or.inl rfl, Or.inl rfl, Or.inr rfl, trivial⟩ ?_
            exact ih z200 ⟨by omega, by omega, fun h => ⟨by omega, by omega, by { rw [(hc h).2.2, anC_s _ _ _ (by omega), show 12 * M 40 f + M 42 f + (c - M 42 f) = 12 * M 40 f + c by omega, decide_eq_false (show ¬ M 16 (12 * M 40 f + c) = -1 by omega), decide_eq_false (show ¬ M 16 (12 * M 40 f + c) = M 51 0 by omega), show z200 + 1 - M 42 f = c - M 42 f by omega]; rfl }⟩⟩ (by omega)
          · refine V_aload_n (q := 178) dX7_goDown_177 rfl rfl rfl ?_
            refine V_iconst (q := 179) dX7_goDown_178 rfl (by decide) ?_
            refine VM_putZ (q := 182) 50 dX7_goDown_179 rfl flX7_201 rfl rfl rfl rfl (by omega) (fun M179_2 eM179_2 => ?_)
            refine V_aload_n (q := 183) dX7_goDown_182 rfl rfl rfl ?_
            refine V_sipush (q := 186) dX7_goDown_183 rfl (by decide) ?_
            refine V_aload_n (q := 187) dX7_goDown_186 rfl rfl rfl ?_
            refine VM_getI (q := 190) 51 dX7_goDown_187 rfl flX7_204 rfl rfl rfl (fun z187_2 ez187_2 rz187_2 => ?_)
            rw [eM179_2, mu_t _ _ _ _ (by decide)] at ez187_2
            rw [eMc, mu_t _ _ _ _ (by decide)] at ez187_2
            refine V_iadd (q := 191) dX7_goDown_190 rfl (by omega) (fun z190_2 ez190_2 => ?_)
            refine VM_callN (q := 194) (As := [(0, z190_2)]) (tX7_onTape (C := C) (M := M179_2) (RG_c (fun k i h => by rw [eM179_2, mu_ne (by omega), eMc, mu_ne (by omega)]) g)) dX7_goDown_191 rfl mlX7_268 mw_X7_onTape im_X7_onTape sl_X7_onTape md_X7_onTape rfl rfl rfl (by decide) (by decide) (Nat.le_refl _) (Nat.le_refl _) (Nat.le_of_ble_eq_true rfl) (fun M191_2 hM191_2 => ?_)
            refine V_aload_n (q := 195) dX7_goDown_194 rfl rfl rfl ?_
            refine V_iload_n (q := 196) dX7_goDown_195 rfl rfl rfl ?_
            refine VM_callN (q := 199) (As := [(0, f)]) (tX7_did (C := C) (M := M191_2) ⟨by omega, by omega⟩ (by { rw [hM191_2, onTM_o (by decide) (by decide), eM179_2, mu_ne (by omega), eMc, mu_ne (by omega)]; omega })) dX7_goDown_196 rfl mlX7_265 mw_X7_did im_X7_did sl_X7_did md_X7_did rfl rfl rfl (by decide) (by decide) (Nat.le_refl _) (Nat.le_refl _) (Nat.le_of_ble_eq_true rfl) (fun M196_2 hM196_2 => ?_)
            refine VM_vret dX7_goDown_199 ⟨rfl, Or.inr (Or.inr (Or.inl ⟨by omega, by omega, ⟨by omega, ?_⟩, ?_⟩))⟩
            · { rw [(hc (by omega)).2.2, anC_s _ _ _ (by omega), show 12 * M 40 f + M 42 f + (c - M 42 f) = 12 * M 40 f + c by omega]; first | (rw [decide_eq_true (show M 16 (12 * M 40 f + c) = -1 by omega)]; simp) | (rw [decide_eq_true (show M 16 (12 * M 40 f + c) = M 51 0 by omega)]; simp) }
            · { rw [hM196_2, hM191_2]; simp only [eMc, ez131, ez143, ez158, ez159, ez161, ez162, ez171, eM179_2, ez187_2, ez190_2] }
  refine V_aload_n (q := 1) dX7_goDown_0 rfl rfl rfl ?_
  refine VM_getI (q := 4) 38 dX7_goDown_1 rfl flX7_213 rfl rfl rfl (fun z1 ez1 rz1 => ?_)
  refine V_iconst (q := 5) dX7_goDown_4 rfl (by decide) ?_
  refine V_isub (q := 6) dX7_goDown_5 rfl (by omega) (fun z5 ez5 => ?_)
  refine V_istore_n (q := 7) (lv1 := [(3, 0), (0, z5), (9, 0), (9, 0)]) dX7_goDown_6 rfl rfl (by decide) rfl rfl ?_
  obtain rfl : z5 = f := by omega
  refine V_aload_n (q := 8) dX7_goDown_7 rfl rfl rfl ?_
  refine VM_getA (q := 11) 58 dX7_goDown_8 rfl flX7_125 rfl rfl (Nat.succ_ne_zero _) ?_
  refine V_iload_n (q := 12) dX7_goDown_11 rfl rfl rfl ?_
  refine V_iconst (q := 13) dX7_goDown_12 rfl (by decide) ?_
  refine VM_zast (q := 14) 57 dX7_goDown_13 rfl rfl (by decide) rfl rfl (by omega) (by omega) (fun M13 eM13 => ?_)
  refine V_aload_n (q := 15) dX7_goDown_14 rfl rfl rfl ?_
  refine VM_getA (q := 18) 40 dX7_goDown_15 rfl flX7_110 rfl rfl (Nat.succ_ne_zero _) ?_
  refine V_iload_n (q := 19) dX7_goDown_18 rfl rfl rfl ?_
  refine VM_zald (q := 20) 39 dX7_goDown_19 rfl rfl (by decide) rfl rfl (by omega) (fun z19 ez19 rz19 => ?_)
  rw [eM13, mu_t _ _ _ _ (by decide)] at ez19
  refine V_if_eq (q := 23) (tgt := 108) dX7_goDown_20 (by decide) rfl (fun c20 => ?_) (fun c20 => ?_)
  · refine V_aload_n (q := 109) dX7_goDown_108 rfl rfl rfl ?_
    refine VM_getA (q := 112) 41 dX7_goDown_109 rfl flX7_113 rfl rfl (Nat.succ_ne_zero _) ?_
    refine V_iload_n (q := 113) dX7_goDown_112 rfl rfl rfl ?_
    refine VM_iald (q := 114) 40 dX7_goDown_113 rfl rfl (by decide) rfl rfl (by omega) (fun z113 ez113 rz113 => ?_)
    rw [eM13, mu_t _ _ _ _ (by decide)] at ez113
    refine V_if_lt (q := 117) (tgt := 216) dX7_goDown_114 (by decide) rfl (fun c114 => ?_) (fun c114 => ?_)
    · refine V_aload_n (q := 217) dX7_goDown_216 rfl rfl rfl ?_
      refine V_dup (q := 218) dX7_goDown_217 rfl (show (3 : Nat) ≠ 2 by decide) ?_
      refine VM_getI (q := 221) 38 dX7_goDown_218 rfl flX7_213 rfl rfl rfl (fun z218_3 ez218_3 rz218_3 => ?_)
      rw [eM13, mu_t _ _ _ _ (by decide)] at ez218_3
      refine V_iconst (q := 222) dX7_goDown_221 rfl (by decide) ?_
      refine V_isub (q := 223) dX7_goDown_222 rfl (by omega) (fun z222_3 ez222_3 => ?_)
      refine VM_putI (q := 226) 38 dX7_goDown_223 rfl flX7_213 rfl rfl rfl rfl (fun M223_3 eM223_3 => ?_)
      refine VM_vret dX7_goDown_226 ⟨rfl, Or.inr (Or.inl ⟨by omega, by omega, ?_⟩)⟩
      simp only [ez1, ez5, eM13, ez19, ez113, ez218_3, ez222_3, eM223_3]
    · refine V_aload_n (q := 118) dX7_goDown_117 rfl rfl rfl ?_
      refine VM_getA (q := 121) 42 dX7_goDown_118 rfl flX7_116 rfl rfl (Nat.succ_ne_zero _) ?_
      refine V_iload_n (q := 122) dX7_goDown_121 rfl rfl rfl ?_
      refine VM_iald (q := 123) 41 dX7_goDown_122 rfl rfl (by decide) rfl rfl (by omega) (fun z122 ez122 rz122 => ?_)
      rw [eM13, mu_t _ _ _ _ (by decide)] at ez122
      refine V_iconst (q := 124) dX7_goDown_123 rfl (by decide) ?_
      refine V_isub (q := 125) dX7_goDown_124 rfl (by omega) (fun z124 ez124 => ?_)
      refine V_istore_n (q := 126) (lv1 := [(3, 0), (0, z5), (0, z124), (9, 0)]) dX7_goDown_125 rfl rfl (by decide) rfl rfl ?_
      exact loop (by omega) (by omega) M13 eM13 z124 ⟨by omega, by omega, fun h => ⟨by omega, by omega, by rw [show z124 + 1 - M 42 z5 = M 41 z5 - M 42 z5 by omega]⟩⟩
  · refine V_aload_n (q := 24) dX7_goDown_23 rfl rfl rfl ?_
    refine VM_getA (q := 27) 29 dX7_goDown_24 rfl flX7_83 rfl rfl (Nat.succ_ne_zero _) ?_
    refine V_bipush (q := 29) dX7_goDown_27 rfl (by decide) ?_
    refine V_aload_n (q := 30) dX7_goDown_29 rfl rfl rfl ?_
    refine VM_getI (q := 33) 37 dX7_goDown_30 rfl flX7_191 rfl rfl rfl (fun z30 ez30 rz30 => ?_)
    rw [eM13, mu_t _ _ _ _ (by decide)] at ez30
    refine V_imul (q := 34) dX7_goDown_33 rfl (by omega) (fun z33 ez33 => ?_)
    refine V_aload_n (q := 35) dX7_goDown_34 rfl rfl rfl ?_
    refine VM_getA (q := 38) 41 dX7_goDown_35 rfl flX7_113 rfl rfl (Nat.succ_ne_zero _) ?_
    refine V_iload_n (q := 39) dX7_goDown_38 rfl rfl rfl ?_
    refine VM_iald (q := 40) 40 dX7_goDown_39 rfl rfl (by decide) rfl rfl (by omega) (fun z39 ez39 rz39 => ?_)
    rw [eM13, mu_t _ _ _ _ (by decide)] at ez39
    refine V_iadd (q := 41) dX7_goDown_40 rfl (by omega) (fun z40 ez40 => ?_)
    refine V_iconst (q := 42) dX7_goDown_41 rfl (by decide) ?_
    refine VM_iast (q := 43) 28 dX7_goDown_42 rfl rfl (by decide) rfl rfl (by omega) (fun M42 eM42 => ?_)
    refine V_aload_n (q := 44) dX7_goDown_43 rfl rfl rfl ?_
    refine V_aload_n (q := 45) dX7_goDown_44 rfl rfl rfl ?_
    refine VM_getA (q := 48) 41 dX7_goDown_45 rfl flX7_113 rfl rfl (Nat.succ_ne_zero _) ?_
    refine V_iload_n (q := 49) dX7_goDown_48 rfl rfl rfl ?_
    refine VM_iald (q := 50) 40 dX7_goDown_49 rfl rfl (by decide) rfl rfl (by omega) (fun z49 ez49 rz49 => ?_)
    rw [eM42, mu_t _ _ _ _ (by decide)] at ez49
    rw [eM13, mu_t _ _ _ _ (by decide)] at ez49
    have sdd : SD M M42 := fun k a b => by { rw [eM42, mu_f _ _ _ _ (by omega), eM13, mu_f _ _ _ _ (by omega)] }
    have e48 : z49 = M 40 z5 := by rw [ez49]
    refine VM_callN (q := 53) (As := [(0, z49)]) (tX7_listFirst (C := C) (M := M42) (SD_WFD sdd w) (by { rw [sdd 0 (by decide) (by decide), e48]; exact h40 (by omega) })) dX7_goDown_50 rfl mlX7_173 mw_X7_listFirst im_X7_listFirst sl_X7_listFirst md_X7_listFirst rfl rfl rfl (by decide) (by decide) (Nat.le_refl _) (Nat.le_refl _) (Nat.le_of_ble_eq_true rfl) (fun M50 hM50 => ?_)
    obtain ⟨gM50, hl1, hl2, hl3⟩ := hM50
    rw [LF_sd sdd, e48] at hl1 hl2
    have gg : RG M50 := RG_c (fun k i h => by rw [gM50 k (by omega) (by omega) (by omega) (by omega) (by omega), eM42, mu_ne (by omega), eM13, mu_ne (by omega)]) g
    have q51 : M50 51 0 = M 51 0 := by rw [gM50 51 (by decide) (by decide) (by decide) (by decide) (by decide), eM42, mu_ne (by omega), eM13, mu_ne (by omega)]
    have q38 : M50 38 0 = M 38 0 := by rw [gM50 38 (by decide) (by decide) (by decide) (by decide) (by decide), eM42, mu_ne (by omega), eM13, mu_ne (by omega)]
    refine V_aload_n (q := 54) dX7_goDown_53 rfl rfl rfl ?_
    refine VM_getA (q := 57) 42 dX7_goDown_54 rfl flX7_116 rfl rfl (Nat.succ_ne_zero _) ?_
    refine V_iload_n (q := 58) dX7_goDown_57 rfl rfl rfl ?_
    refine VM_iald (q := 59) 41 dX7_goDown_58 rfl rfl (by decide) rfl rfl (by omega) (fun z58 ez58 rz58 => ?_)
    refine V_aload_n (q := 60) dX7_goDown_59 rfl rfl rfl ?_
    refine VM_getI (q := 63) 21 dX7_goDown_60 rfl flX7_164 rfl rfl rfl (fun z60 ez60 rz60 => ?_)
    refine V_iconst (q := 64) dX7_goDown_63 rfl (by decide) ?_
    refine V_iadd (q := 65) dX7_goDown_64 rfl (by omega) (fun z64 ez64 => ?_)
    refine V_icmp_ne (q := 68) (tgt := 72) dX7_goDown_65 (by decide) rfl (fun c65 => ?_) (fun c65 => ?_)
    · refine V_iconst (q := 73) dX7_goDown_72 rfl (by decide) ?_
      refine V_istore_n (q := 74) (lv1 := [(3, 0), (0, z5), (0, 0), (9, 0)]) dX7_goDown_73 rfl rfl (by decide) rfl rfl ?_
      refine V_aload_n (q := 75) dX7_goDown_74 rfl rfl rfl ?_
      refine V_dup (q := 76) dX7_goDown_75 rfl (show (3 : Nat) ≠ 2 by decide) ?_
      refine VM_getI (q := 79) 38 dX7_goDown_76 rfl flX7_213 rfl rfl rfl (fun z76 ez76 rz76 => ?_)
      refine V_iconst (q := 80) dX7_goDown_79 rfl (by decide) ?_
      refine V_isub (q := 81) dX7_goDown_80 rfl (by omega) (fun z80 ez80 => ?_)
      refine VM_putI (q := 84) 38 dX7_goDown_81 rfl flX7_213 rfl rfl rfl rfl (fun M81 eM81 => ?_)
      refine V_iload_n (q := 85) dX7_goDown_84 rfl rfl rfl ?_
      refine V_if_eq (q := 88) (tgt := 107) dX7_goDown_85 (by decide) rfl (fun c85 => ?_) (fun c85 => ?_)
      · refine VM_vret dX7_goDown_107 ⟨rfl, Or.inl ⟨by omega, M50, ?_, ?_⟩⟩
        · { intro k a b c e f1; rw [gM50 k a b c e f1, eM42, eM13]; simp only [ez1, ez5, eM13, ez19, ez30, ez33, ez39, ez40, eM42, ez49] }
        · { unfold dnS; rw [if_neg (by omega)]; simp only [ez58, ez60, ez64, ez76, ez80, eM81] }
      · refine V_aload_n (q := 89) dX7_goDown_88 rfl rfl rfl ?_
        refine VM_getI (q := 92) 51 dX7_goDown_89 rfl flX7_204 rfl rfl rfl (fun z89 ez89 rz89 => ?_)
        rw [eM81, mu_t _ _ _ _ (by decide)] at ez89
        refine V_bipush (q := 94) dX7_goDown_92 rfl (by decide) ?_
        refine V_icmp_ge (q := 97) (tgt := 107) dX7_goDown_94 (by decide) rfl (fun c94 => ?_) (fun c94 => ?_)
        · refine VM_vret dX7_goDown_107 ⟨rfl, Or.inl ⟨by omega, M50, ?_, ?_⟩⟩
          · { intro k a b c e f1; rw [gM50 k a b c e f1, eM42, eM13]; simp only [ez1, ez5, eM13, ez19, ez30, ez33, ez39, ez40, eM42, ez49] }
          · { unfold dnS; rw [if_neg (by omega)]; simp only [ez58, ez60, ez64, ez76, ez80, eM81, ez89] }
        · refine V_aload_n (q := 98) dX7_goDown_97 rfl rfl rfl ?_
          refine V_bipush (q := 100) dX7_goDown_98 rfl (by decide) ?_
          refine V_aload_n (q := 101) dX7_goDown_100 rfl rfl rfl ?_
          refine VM_getI (q := 104) 51 dX7_goDown_101 rfl flX7_204 rfl rfl rfl (fun z101 ez101 rz101 => ?_)
          rw [eM81, mu_t _ _ _ _ (by decide)] at ez101
          refine VM_callN (q := 107) (As := [(0, 20), (0, z101)]) (tX7_fail (C := C) (M := M81) (by { obtain ⟨r1, r2, r3, r4, r5⟩ := id gg; have e38 : M81 38 0 = M 38 0 - 1 := (by { rw [eM81, mu_s]; omega }); have er : ∀ k i : Int, k ≠ 38 → M81 k i = M50 k i := (fun k i h => by rw [eM81, mu_ne (by omega)]); unfold RG; rw [e38, er 37 0 (by decide), er 30 _ (by decide), er 44 0 (by decide), er 47 0 (by decide)]; exact ⟨r1, by omega, r3, r4, r5⟩ })) dX7_goDown_104 rfl mlX7_219 mw_X7_fail im_X7_fail sl_X7_fail md_X7_fail rfl rfl rfl (by decide) (by decide) (Nat.le_refl _) (Nat.le_refl _) (Nat.le_of_ble_eq_true rfl) (fun M104 hM104 => ?_)
          refine VM_vret dX7_goDown_107 ⟨rfl, Or.inl ⟨by omega, M50, ?_, ?_⟩⟩
          · { intro k a b c e f1; rw [gM50 k a b c e f1, eM42, eM13]; simp only [ez1, ez5, eM13, ez19, ez30, ez33, ez39, ez40, eM42, ez49] }
          · { unfold dnS; rw [if_pos ⟨by omega, by omega⟩, hM104]; simp only [ez58, ez60, ez64, ez76, ez80, eM81, ez89, ez101] }
    · refine V_iconst (q := 69) dX7_goDown_68 rfl (by decide) ?_
      refine V_goto (tgt := 73) dX7_goDown_69 (by decide) ?_
      refine V_istore_n (q := 74) (lv1 := [(3, 0), (0, z5), (0, 1), (9, 0)]) dX7_goDown_73 rfl rfl (by decide) rfl rfl ?_
      refine V_aload_n (q := 75) dX7_goDown_74 rfl rfl rfl ?_
      refine V_dup (q := 76) dX7_goDown_75 rfl (show (3 : Nat) ≠ 2 by decide) ?_
      refine VM_getI (q := 79) 38 dX7_goDown_76 rfl flX7_213 rfl rfl rfl (fun z76_2 ez76_2 rz76_2 => ?_)
      refine V_iconst (q := 80) dX7_goDown_79 rfl (by decide) ?_
      refine V_isub (q := 81) dX7_goDown_80 rfl (by omega) (fun z80_2 ez80_2 => ?_)
      refine VM_putI (q := 84) 38 dX7_goDown_81 rfl flX7_213 rfl rfl rfl rfl (fun M81_2 eM81_2 => ?_)
      refine V_iload_n (q := 85) dX7_goDown_84 rfl rfl rfl ?_
      refine V_if_eq (q := 88) (tgt := 107) dX7_goDown_85 (by decide) rfl (fun c85_2 => ?_) (fun c85_2 => ?_)
      · refine VM_vret dX7_goDown_107 ⟨rfl, Or.inl ⟨by omega, M50, ?_, ?_⟩⟩
        · { intro k a b c e f1; rw [gM50 k a b c e f1, eM42, eM13]; simp only [ez1, ez5, eM13, ez19, ez30, ez33, ez39, ez40, eM42, ez49] }
        · { unfold dnS; rw [if_neg (by omega)]; simp only [ez58, ez60, ez64, ez76_2, ez80_2, eM81_2] }
      · refine V_aload_n (q := 89) dX7_goDown_88 rfl rfl rfl ?_
        refine VM_getI (q := 92) 51 dX7_goDown_89 rfl flX7_204 rfl rfl rfl (fun z89_2 ez89_2 rz89_2 => ?_)
        rw [eM81_2, mu_t _ _ _ _ (by decide)] at ez89_2
        refine V_bipush (q := 94) dX7_goDown_92 rfl (by decide) ?_
        refine V_icmp_ge (q := 97) (tgt := 107) dX7_goDown_94 (by decide) rfl (fun c94_2 => ?_) (fun c94_2 => ?_)
        · refine VM_vret dX7_goDown_107 ⟨rfl, Or.inl ⟨by omega, M50, ?_, ?_⟩⟩
          · { intro k a b c e f1; rw [gM50 k a b c e f1, eM42, eM13]; simp only [ez1, ez5, eM13, ez19, ez30, ez33, ez39, ez40, eM42, ez49] }
          · { unfold dnS; rw [if_neg (by omega)]; simp only [ez58, ez60, ez64, ez76_2, ez80_2, eM81_2, ez89_2] }
        · refine V_aload_n (q := 98) dX7_goDown_97 rfl rfl rfl ?_
          refine V_bipush (q := 100) dX7_goDown_98 rfl (by decide) ?_
          refine V_aload_n (q := 101) dX7_goDown_100 rfl rfl rfl ?_
          refine VM_getI (q := 104) 51 dX7_goDown_101 rfl flX7_204 rfl rfl rfl (fun z101_2 ez101_2 rz101_2 => ?_)
          rw [eM81_2, mu_t _ _ _ _ (by decide)] at ez101_2
          refine VM_callN (q := 107) (As := [(0, 20), (0, z101_2)]) (tX7_fail (C := C) (M := M81_2) (by { obtain ⟨r1, r2, r3, r4, r5⟩ := id gg; have e38 : M81_2 38 0 = M 38 0 - 1 := (by { rw [eM81_2, mu_s]; omega }); have er : ∀ k i : Int, k ≠ 38 → M81_2 k i = M50 k i := (fun k i h => by rw [eM81_2, mu_ne (by omega)]); unfold RG; rw [e38, er 37 0 (by decide), er 30 _ (by decide), er 44 0 (by decide), er 47 0 (by decide)]; exact ⟨r1, by omega, r3, r4, r5⟩ })) dX7_goDown_104 rfl mlX7_219 mw_X7_fail im_X7_fail sl_X7_fail md_X7_fail rfl rfl rfl (by decide) (by decide) (Nat.le_refl _) (Nat.le_refl _) (Nat.le_of_ble_eq_true rfl) (fun M104_2 hM104_2 => ?_)
          refine VM_vret dX7_goDown_107 ⟨rfl, Or.inl ⟨by omega, M50, ?_, ?_⟩⟩
          · { intro k a b c e f1; rw [gM50 k a b c e f1, eM42, eM13]; simp only [ez1, ez5, eM13, ez19, ez30, ez33, ez39, ez40, eM42, ez49] }
          · { unfold dnS; rw [if_pos ⟨by omega, by omega⟩, hM104_2]; simp only [ez58, ez60, ez64, ez76_2, ez80_2, eM81_2, ez89_2, ez101_2] }
