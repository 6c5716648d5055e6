theorem tX7_act {Γ : GC} {αC : Sh} {C M : Mem} {t nm k u n v : Int} (w : WFD M) : MM Γ yX7_act cX7_act 11 (some .int) 2 [(0, t), (0, nm), (0, k), (0, u), (0, n), (0, v)] αC C M (mI fun r M1 => M1 = actM M t nm k u n v ∧ r = actR M t nm k u n v) := by
  have hn0 := w.n
  refine MM_of (k := 4) [(3, 0), (0, t), (0, nm), (0, k), (0, u), (0, n), (0, v), (9, 0), (9, 0), (9, 0), (9, 0)] pn_X7_act rfl rfl rfl (fun ad0 => ?_)
  have j112 : ∀ f2 : Int, ((0 ≤ t ∧ t < M 0 0) ∧ (1 ≤ k → k ≤ 6 → 0 ≤ u ∧ u < M 0 0)) → (0 ≤ f2 ∧ f2 ≤ 1) → (f2 = 1 ↔ ((0 ≤ k ∧ k ≤ 8) ∧ (¬ (1 ≤ k ∧ k ≤ 3) ∨ (0 ≤ n ∧ n ≤ 9)) ∧ (k ≠ 7 ∨ (0 ≤ v ∧ v ≤ 19)) ∧ (k ≠ 8 ∨ (-1 ≤ v ∧ v ≤ 22)))) → V Γ (gα αC) ad0 (ZM Γ (gα αC) ad0 (mQ αC C (mI fun r M1 => M1 = actM M t nm k u n v ∧ r = actR M t nm k u n v)) 0 0) (RM 2 0 0) RX7 cX7_act 11 (some .int) yX7_act.name 112 [] [(3, 0), (0, t), (0, nm), (0, k), (0, u), (0, n), (0, v), (0, f2), (9, 0), (9, 0), (9, 0)] (gα αC) (mm M C) 0 0 := by
    intro f2 hU hb2 hf2
    refine V_iload (q := 114) dX7_act_112 rfl rfl ?_
    refine V_if_ne (q := 117) (tgt := 120) dX7_act_114 (by decide) rfl (fun c114 => ?_) (fun c114 => ?_)
    · have hc := w.cnt t hU.1.1 (by omega)
      refine V_aload_n (q := 121) dX7_act_120 rfl rfl rfl ?_
      refine VM_getI (q := 124) 17 dX7_act_121 rfl flX7_140 rfl rfl rfl (fun z121 ez121 rz121 => ?_)
      refine V_if_le (q := 127) (tgt := 130) dX7_act_124 (by decide) rfl (fun c124 => ?_) (fun c124 => ?_)
      · refine V_iload_n (q := 131) dX7_act_130 rfl rfl rfl ?_
        refine V_iconst (q := 132) dX7_act_131 rfl (by decide) ?_
        refine V_icmp_ne (q := 135) (tgt := 139) dX7_act_132 (by decide) rfl (fun c132 => ?_) (fun c132 => ?_)
        · refine V_aload_n (q := 140) dX7_act_139 rfl rfl rfl ?_
          refine V_iload_n (q := 141) dX7_act_140 rfl rfl rfl ?_
          refine V_iload_n (q := 142) dX7_act_141 rfl rfl rfl ?_
          refine VM_callI (q := 145) (As := [(0, t), (0, nm)]) (tX7_ownMethod (C := C) (M := M) ⟨hU.1.1, by omega⟩ hc.2.2) dX7_act_142 rfl mlX7_155 mw_X7_ownMethod im_X7_ownMethod sl_X7_ownMethod md_X7_ownMethod rfl rfl rfl (by decide) (by decide) (Nat.le_refl _) (Nat.le_refl _) (Nat.le_of_ble_eq_true rfl) (fun z142 M142 rz142 hz142 => ?_)
          obtain ⟨hm, hz142⟩ := hz142
          replace hm := hm.symm
          subst hm
          refine V_istore (q := 147) (lv1 := [(3, 0), (0, t), (0, nm), (0, k), (0, u), (0, n), (0, v), (0, f2), (0, z142), (9, 0), (9, 0)]) dX7_act_145 rfl (by decide) rfl rfl ?_
          have hrm := oM_rng M t nm
          refine V_iload (q := 149) dX7_act_147 rfl rfl ?_
          refine V_bipush (q := 151) dX7_act_149 rfl (by decide) ?_
          refine V_icmp_ne (q := 154) (tgt := 157) dX7_act_151 (by decide) rfl (fun c151 => ?_) (fun c151 => ?_)
          · refine V_iconst (q := 158) dX7_act_157 rfl (by decide) ?_
            refine V_iload_n (q := 159) dX7_act_158 rfl rfl rfl ?_
            refine V_imul (q := 160) dX7_act_159 rfl (by omega) (fun z159 ez159 => ?_)
            refine V_iconst (q := 161) dX7_act_160 rfl (by decide) ?_
            refine V_iadd (q := 162) dX7_act_161 rfl (by omega) (fun z161 ez161 => ?_)
            refine V_iload (q := 164) dX7_act_162 rfl rfl ?_
            refine V_iadd (q := 165) dX7_act_164 rfl (by omega) (fun z164 ez164 => ?_)
            refine V_istore (q := 167) (lv1 := [(3, 0), (0, t), (0, nm), (0, k), (0, u), (0, n), (0, v), (0, f2), (0, z142), (0, z164), (9, 0)]) dX7_act_165 rfl (by decide) rfl rfl ?_
            have hb : bodyAt M t nm = z164 := by { unfold bodyAt; rw [if_neg (by omega), if_neg (by omega)]; omega }
            have hsz := w.size z164 (by omega) (by omega)
            rw [← hb] at hsz
            refine V_aload_n (q := 168) dX7_act_167 rfl rfl rfl ?_
            refine VM_getA (q := 171) 13 dX7_act_168 rfl flX7_44 rfl rfl (Nat.succ_ne_zero _) ?_
            refine V_iload (q := 173) dX7_act_171 rfl rfl ?_
            refine VM_iald (q := 174) 12 dX7_act_173 rfl rfl (by decide) rfl rfl (by omega) (fun z173 ez173 rz173 => ?_)
            rw [← hb] at ez173
            refine V_bipush (q := 176) dX7_act_174 rfl (by decide) ?_
            refine V_icmp_ne (q := 179) (tgt := 182) dX7_act_176 (by decide) rfl (fun c176 => ?_) (fun c176 => ?_)
            · refine V_bipush (q := 184) dX7_act_182 rfl (by decide) ?_
              refine V_iload (q := 186) dX7_act_184 rfl rfl ?_
              refine V_imul (q := 187) dX7_act_186 rfl (by omega) (fun z186 ez186 => ?_)
              refine V_aload_n (q := 188) dX7_act_187 rfl rfl rfl ?_
              refine VM_getA (q := 191) 13 dX7_act_188 rfl flX7_44 rfl rfl (Nat.succ_ne_zero _) ?_
              refine V_iload (q := 193) dX7_act_191 rfl rfl ?_
              refine VM_iald (q := 194) 12 dX7_act_193 rfl rfl (by decide) rfl rfl (by omega) (fun z193 ez193 rz193 => ?_)
              rw [← hb] at ez193
              refine V_iadd (q := 195) dX7_act_194 rfl (by omega) (fun z194 ez194 => ?_)
              refine V_istore (q := 197) (lv1 := [(3, 0), (0, t), (0, nm), (0, k), (0, u), (0, n), (0, v), (0, f2), (0, z142), (0, z164), (0, z194)]) dX7_act_195 rfl (by decide) rfl rfl ?_
              refine V_aload_n (q := 198) dX7_act_197 rfl rfl rfl ?_
              refine VM_getA (q := 201) 14 dX7_act_198 rfl flX7_47 rfl rfl (Nat.succ_ne_zero _) ?_
              refine V_iload (q := 203) dX7_act_201 rfl rfl ?_
              refine V_iload_n (q := 204) dX7_act_203 rfl rfl rfl ?_
              refine VM_iast (q := 205) 13 dX7_act_204 rfl rfl (by decide) rfl rfl (by omega) (fun M204 eM204 => ?_)
              refine V_aload_n (q := 206) dX7_act_205 rfl rfl rfl ?_
              refine VM_getA (q := 209) 15 dX7_act_206 rfl flX7_50 rfl rfl (Nat.succ_ne_zero _) ?_
              refine V_iload (q := 211) dX7_act_209 rfl rfl ?_
              refine V_iload (q := 213) dX7_act_211 rfl rfl ?_
              refine VM_iast (q := 214) 14 dX7_act_213 rfl rfl (by decide) rfl rfl (by omega) (fun M213 eM213 => ?_)
              refine V_aload_n (q := 215) dX7_act_214 rfl rfl rfl ?_
              refine VM_getA (q := 218) 16 dX7_act_215 rfl flX7_53 rfl rfl (Nat.succ_ne_zero _) ?_
              refine V_iload (q := 220) dX7_act_218 rfl rfl ?_
              refine V_iload (q := 222) dX7_act_220 rfl rfl ?_
              refine VM_iast (q := 223) 15 dX7_act_222 rfl rfl (by decide) rfl rfl (by omega) (fun M222 eM222 => ?_)
              refine V_aload_n (q := 224) dX7_act_223 rfl rfl rfl ?_
              refine VM_getA (q := 227) 17 dX7_act_224 rfl flX7_56 rfl rfl (Nat.succ_ne_zero _) ?_
              refine V_iload (q := 229) dX7_act_227 rfl rfl ?_
              refine V_iload (q := 231) dX7_act_229 rfl rfl ?_
              refine VM_iast (q := 232) 16 dX7_act_231 rfl rfl (by decide) rfl rfl (by omega) (fun M231 eM231 => ?_)
              refine V_aload_n (q := 233) dX7_act_232 rfl rfl rfl ?_
              refine VM_getA (q := 236) 13 dX7_act_233 rfl flX7_44 rfl rfl (Nat.succ_ne_zero _) ?_
              refine V_iload (q := 238) dX7_act_236 rfl rfl ?_
              refine V_dup2 (q := 239) dX7_act_238 rfl (show (0 : Nat) ≠ 2 by decide) (show (3 : Nat) ≠ 2 by decide) ?_
              refine VM_iald (q := 240) 12 dX7_act_239 rfl rfl (by decide) rfl rfl (by omega) (fun z239 ez239 rz239 => ?_)
              rw [eM231, mu_t _ _ _ _ (by decide)] at ez239
              rw [eM222, mu_t _ _ _ _ (by decide)] at ez239
              rw [eM213, mu_t _ _ _ _ (by decide)] at ez239
              rw [eM204, mu_t _ _ _ _ (by decide)] at ez239
              rw [← hb] at ez239
              refine V_iconst (q := 241) dX7_act_240 rfl (by decide) ?_
              refine V_iadd (q := 242) dX7_act_241 rfl (by omega) (fun z241 ez241 => ?_)
              refine VM_iast (q := 243) 12 dX7_act_242 rfl rfl (by decide) rfl rfl (by omega) (fun M242 eM242 => ?_)
              refine V_aload_n (q := 244) dX7_act_243 rfl rfl rfl ?_
              refine VM_getA (q := 247) 13 dX7_act_244 rfl flX7_44 rfl rfl (Nat.succ_ne_zero _) ?_
              refine V_iload (q := 249) dX7_act_247 rfl rfl ?_
              refine VM_iald (q := 250) 12 dX7_act_249 rfl rfl (by decide) rfl rfl (by omega) (fun z249 ez249 rz249 => ?_)
              rw [eM242, mu_s] at ez249
              have hr : actR M t nm k u n v = M 12 (bodyAt M t nm) + 1 := by { unfold actR; (repeat' (first | rw [if_pos (by omega)] | rw [if_neg (by omega)])) }
              exact VM_iret dX7_act_250 ⟨_, rfl, by { unfold actM; rw [if_pos (by omega), eM242, eM231, eM222, eM213, eM204, show z194 = 12 * bodyAt M t nm + M 12 (bodyAt M t nm) by omega, show z241 = M 12 (bodyAt M t nm) + 1 by omega, hb] }, by omega⟩
            · refine V_bipush (q := 181) dX7_act_179 rfl (by decide) ?_
              have hr : actR M t nm k u n v = (-4) := by { unfold actR; (repeat' (first | rw [if_pos (by omega)] | rw [if_neg (by omega)])) }
              exact VM_iret dX7_act_181 ⟨_, rfl, by { unfold actM; rw [if_neg (by omega)] }, hr.symm⟩
          · have hb : bodyAt M t nm = -6 := by { unfold bodyAt; rw [if_neg (by omega), if_pos (by omega)] }
            refine V_bipush (q := 156) dX7_act_154 rfl (by decide) ?_
            have hr : actR M t nm k u n v = (-5) := by { unfold actR; (repeat' (first | rw [if_pos (by omega)] | rw [if_neg (by omega)])) }
            exact VM_iret dX7_act_156 ⟨_, rfl, by { unfold actM; rw [if_neg (by omega)] }, hr.symm⟩
        · refine V_iconst (q := 136) dX7_act_135 rfl (by decide) ?_
          refine V_goto (tgt := 145) dX7_act_136 (by decide) ?_
          refine V_istore (q := 147) (lv1 := [(3, 0), (0, t), (0, nm), (0, k), (0, u), (0, n), (0, v), (0, f2), (0, (-1)), (9, 0), (9, 0)]) dX7_act_145 rfl (by decide) rfl rfl ?_
          refine V_iload (q := 149) dX7_act_147 rfl rfl ?_
          refine V_bipush (q := 151) dX7_act_149 rfl (by decide) ?_
          refine V_icmp_ne (q := 154) (tgt := 157) dX7_act_151 (by decide) rfl (fun c151_2 => ?_) (fun c151_2 => ?_)
          · refine V_iconst (q := 158) dX7_act_157 rfl (by decide) ?_
            refine V_iload_n (q := 159) dX7_act_158 rfl rfl rfl ?_
            refine V_imul (q := 160) dX7_act_159 rfl (by omega) (fun z159_2 ez159_2 => ?_)
            refine V_iconst (q := 161) dX7_act_160 rfl (by decide) ?_
            refine V_iadd (q := 162) dX7_act_161 rfl (by omega) (fun z161_2 ez161_2 => ?_)
            refine V_iload (q := 164) dX7_act_162 rfl rfl ?_
            refine V_iadd (q := 165) dX7_act_164 rfl (by omega) (fun z164_2 ez164_2 => ?_)
            refine V_istore (q := 167) (lv1 := [(3, 0), (0, t), (0, nm), (0, k), (0, u), (0, n), (0, v), (0, f2), (0, (-1)), (0, z164_2), (9, 0)]) dX7_act_165 rfl (by decide) rfl rfl ?_
            have hb : bodyAt M t nm = z164_2 := by { unfold bodyAt; rw [if_pos (by omega)]; omega }
            have hsz := w.size z164_2 (by omega) (by omega)
            rw [← hb] at hsz
            refine V_aload_n (q := 168) dX7_act_167 rfl rfl rfl ?_
            refine VM_getA (q := 171) 13 dX7_act_168 rfl flX7_44 rfl rfl (Nat.succ_ne_zero _) ?_
            refine V_iload (q := 173) dX7_act_171 rfl rfl ?_
            refine VM_iald (q := 174) 12 dX7_act_173 rfl rfl (by decide) rfl rfl (by omega) (fun z173_2 ez173_2 rz173_2 => ?_)
            rw [← hb] at ez173_2
            refine V_bipush (q := 176) dX7_act_174 rfl (by decide) ?_
            refine V_icmp_ne (q := 179) (tgt := 182) dX7_act_176 (by decide) rfl (fun c176_2 => ?_) (fun c176_2 => ?_)
            · refine V_bipush (q := 184) dX7_act_182 rfl (by decide) ?_
              refine V_iload (q := 186) dX7_act_184 rfl rfl ?_
              refine V_imul (q := 187) dX7_act_186 rfl (by omega) (fun z186_2 ez186_2 => ?_)
              refine V_aload_n (q := 188) dX7_act_187 rfl rfl rfl ?_
              refine VM_getA (q := 191) 13 dX7_act_188 rfl flX7_44 rfl rfl (Nat.succ_ne_zero _) ?_
              refine V_iload (q := 193) dX7_act_191 rfl rfl ?_
              refine VM_iald (q := 194) 12 dX7_act_193 rfl rfl (by decide) rfl rfl (by omega) (fun z193_2 ez193_2 rz193_2 => ?_)
              rw [← hb] at ez193_2
              refine V_iadd (q := 195) dX7_act_194 rfl (by omega) (fun z194_2 ez194_2 => ?_)
              refine V_istore (q := 197) (lv1 := [(3, 0), (0, t), (0, nm), (0, k), (0, u), (0, n), (0, v), (0, f2), (0, (-1)), (0, z164_2), (0, z194_2)]) dX7_act_195 rfl (by decide) rfl rfl ?_
              refine V_aload_n (q := 198) dX7_act_197 rfl rfl rfl ?_
              refine VM_getA (q := 201) 14 dX7_act_198 rfl flX7_47 rfl rfl (Nat.succ_ne_zero _) ?_
              refine V_iload (q := 203) dX7_act_201 rfl rfl ?_
              refine V_iload_n (q := 204) dX7_act_203 rfl rfl rfl ?_
              refine VM_iast (q := 205) 13 dX7_act_204 rfl rfl (by decide) rfl rfl (by omega) (fun M204_2 eM204_2 => ?_)
              refine V_aload_n (q := 206) dX7_act_205 rfl rfl rfl ?_
              refine VM_getA (q := 209) 15 dX7_act_206 rfl flX7_50 rfl rfl (Nat.succ_ne_zero _) ?_
              refine V_iload (q := 211) dX7_act_209 rfl rfl ?_
              refine V_iload (q := 213) dX7_act_211 rfl rfl ?_
              refine VM_iast (q := 214) 14 dX7_act_213 rfl rfl (by decide) rfl rfl (by omega) (fun M213_2 eM213_2 => ?_)
              refine V_aload_n (q := 215) dX7_act_214 rfl rfl rfl ?_
              refine VM_getA (q := 218) 16 dX7_act_215 rfl flX7_53 rfl rfl (Nat.succ_ne_zero _) ?_
              refine V_iload (q := 220) dX7_act_218 rfl rfl ?_
              refine V_iload (q := 222) dX7_act_220 rfl rfl ?_
              refine VM_iast (q := 223) 15 dX7_act_222 rfl rfl (by decide) rfl rfl (by omega) (fun M222_2 eM222_2 => ?_)
              refine V_aload_n (q := 224) dX7_act_223 rfl rfl rfl ?_
              refine VM_getA (q := 227) 17 dX7_act_224 rfl flX7_56 rfl rfl (Nat.succ_ne_zero _) ?_
              refine V_iload (q := 229) dX7_act_227 rfl rfl ?_
              refine V_iload (q := 231) dX7_act_229 rfl rfl ?_
              refine VM_iast (q := 232) 16 dX7_act_231 rfl rfl (by decide) rfl rfl (by omega) (fun M231_2 eM231_2 => ?_)
              refine V_aload_n (q := 233) dX7_act_232 rfl rfl rfl ?_
              refine VM_getA (q := 236) 13 dX7_act_233 rfl flX7_44 rfl rfl (Nat.succ_ne_zero _) ?_
              refine V_iload (q := 238) dX7_act_236 rfl rfl ?_
              refine V_dup2 (q := 239) dX7_act_238 rfl (show (0 : Nat) ≠ 2 by decide) (show (3 : Nat) ≠ 2 by decide) ?_
              refine VM_iald (q := 240) 12 dX7_act_239 rfl rfl (by decide) rfl rfl (by omega) (fun z239_2 ez239_2 rz239_2 => ?_)
              rw [eM231_2, mu_t _ _ _ _ (by decide)] at ez239_2
              rw [eM222_2, mu_t _ _ _ _ (by decide)] at ez239_2
              rw [eM213_2, mu_t _ _ _ _ (by decide)] at ez239_2
              rw [eM204_2, mu_t _ _ _ _ (by decide)] at ez239_2
              rw [← hb] at ez239_2
              refine V_iconst (q := 241) dX7_act_240 rfl (by decide) ?_
              refine V_iadd (q := 242) dX7_act_241 rfl (by omega) (fun z241_2 ez241_2 => ?_)
              refine VM_iast (q := 243) 12 dX7_act_242 rfl rfl (by decide) rfl rfl (by omega) (fun M242_2 eM242_2 => ?_)
              refine V_aload_n (q := 244) dX7_act_243 rfl rfl rfl ?_
              refine VM_getA (q := 247) 13 dX7_act_244 rfl flX7_44 rfl rfl (Nat.succ_ne_zero _) ?_
              refine V_iload (q := 249) dX7_act_247 rfl rfl ?_
              refine VM_iald (q := 250) 12 dX7_act_249 rfl rfl (by decide) rfl rfl (by omega) (fun z249_2 ez249_2 rz249_2 => ?_)
              rw [eM242_2, mu_s] at ez249_2
              have hr : actR M t nm k u n v = M 12 (bodyAt M t nm) + 1 := by { unfold actR; (repeat' (first | rw [if_pos (by omega)] | rw [if_neg (by omega)])) }
              exact VM_iret dX7_act_250 ⟨_, rfl, by { unfold actM; rw [if_pos (by omega), eM242_2, eM231_2, eM222_2, eM213_2, eM204_2, show z194_2 = 12 * bodyAt M t nm + M 12 (bodyAt M t nm) by omega, show z241_2 = M 12 (bodyAt M t nm) + 1 by omega, hb] }, by omega⟩
            · refine V_bipush (q := 181) dX7_act_179 rfl (by decide) ?_
              have hr : actR M t nm k u n v = (-4) := by { unfold actR; (repeat' (first | rw [if_pos (by omega)] | rw [if_neg (by omega)])) }
              exact VM_iret dX7_act_181 ⟨_, rfl, by { unfold actM; rw [if_neg (by omega)] }, hr.symm⟩
          · exfalso; omega
      · refine V_bipush (q := 129) dX7_act_127 rfl (by decide) ?_
        have hr : actR M t nm k u n v = (-3) := by { unfold actR; (repeat' (first | rw [if_pos (by omega)] | rw [if_neg (by omega)])) }
        exact VM_iret dX7_act_129 ⟨_, rfl, by { unfold actM; rw [if_neg (by omega)] }, hr.symm⟩
    · refine V_bipush (q := 119) dX7_act_117 rfl (by decide) ?_
      have hr : actR M t nm k u n v = (-2) := by { unfold actR; (repeat' (first | rw [if_pos (by omega)] | rw [if_neg (by omega)])) }
      exact VM_iret dX7_act_119 ⟨_, rfl, by { unfold actM; rw [if_neg (by omega)] }, hr.symm⟩
  have j66 : ∀ f1 : Int, ((0 ≤ t ∧ t < M 0 0) ∧ (1 ≤ k → k ≤ 6 → 0 ≤ u ∧ u < M 0 0)) → (0 ≤ f1 ∧ f1 ≤ 1) → (f1 = 1 ↔ ((0 ≤ k ∧ k ≤ 8) ∧ (¬ (1 ≤ k ∧ k ≤ 3) ∨ (0 ≤ n ∧ n ≤ 9)))) → V Γ (gα αC) ad0 (ZM Γ (gα αC) ad0 (mQ αC C (mI fun r M1 => M1 = actM M t nm k u n v ∧ r = actR M t nm k u n v)) 0 0) (RM 2 0 0) RX7 cX7_act 11 (some .int) yX7_act.name 66 [] [(3, 0), (0, t), (0, nm), (0, k), (0, u), (0, n), (0, v), (0, f1), (9, 0), (9, 0), (9, 0)] (gα αC) (mm M C) 0 0 := by
    intro f1 hU hb1 hf1
    refine V_iload (q := 68) dX7_act_66 rfl rfl ?_
    refine V_if_eq (q := 71) (tgt := 109) dX7_act_68 (by decide) rfl (fun c68 => ?_) (fun c68 => ?_)
    · refine V_iconst (q := 110) dX7_act_109 rfl (by decide) ?_
      refine V_istore (q := 112) (lv1 := [(3, 0), (0, t), (0, nm), (0, k), (0, u), (0, n), (0, v), (0, 0), (9, 0), (9, 0), (9, 0)]) dX7_act_110 rfl (by decide) rfl rfl ?_
      first | (exfalso; omega) | exact j112 (0) hU (by omega) (by omega)
    · refine V_iload_n (q := 72) dX7_act_71 rfl rfl rfl ?_
      refine V_bipush (q := 74) dX7_act_72 rfl (by decide) ?_
      refine V_icmp_ne (q := 77) (tgt := 88) dX7_act_74 (by decide) rfl (fun c74 => ?_) (fun c74 => ?_)
      · refine V_iload_n (q := 89) dX7_act_88 rfl rfl rfl ?_
        refine V_bipush (q := 91) dX7_act_89 rfl (by decide) ?_
        refine V_icmp_ne (q := 94) (tgt := 105) dX7_act_91 (by decide) rfl (fun c91 => ?_) (fun c91 => ?_)
        · refine V_iconst (q := 106) dX7_act_105 rfl (by decide) ?_
          refine V_goto (tgt := 110) dX7_act_106 (by decide) ?_
          refine V_istore (q := 112) (lv1 := [(3, 0), (0, t), (0, nm), (0, k), (0, u), (0, n), (0, v), (0, 1), (9, 0), (9, 0), (9, 0)]) dX7_act_110 rfl (by decide) rfl rfl ?_
          first | (exfalso; omega) | exact j112 (1) hU (by omega) (by omega)
        · refine V_iload (q := 96) dX7_act_94 rfl rfl ?_
          refine V_iconst (q := 97) dX7_act_96 rfl (by decide) ?_
          refine V_bipush (q := 99) dX7_act_97 rfl (by decide) ?_
          refine V_in (q := 102) dX7_act_99 rfl mlX7_132 (by decide) (by decide) (Nat.le_refl _) (Nat.le_refl _) (Nat.le_of_ble_eq_true rfl) (fun z99 rz99 ez99 => ?_)
          refine V_if_eq (q := 105) (tgt := 109) dX7_act_102 (by decide) rfl (fun c102 => ?_) (fun c102 => ?_)
          · refine V_iconst (q := 110) dX7_act_109 rfl (by decide) ?_
            refine V_istore (q := 112) (lv1 := [(3, 0), (0, t), (0, nm), (0, k), (0, u), (0, n), (0, v), (0, 0), (9, 0), (9, 0), (9, 0)]) dX7_act_110 rfl (by decide) rfl rfl ?_
            first | (exfalso; omega) | exact j112 (0) hU (by omega) (by omega)
          · refine V_iconst (q := 106) dX7_act_105 rfl (by decide) ?_
            refine V_goto (tgt := 110) dX7_act_106 (by decide) ?_
            refine V_istore (q := 112) (lv1 := [(3, 0), (0, t), (0, nm), (0, k), (0, u), (0, n), (0, v), (0, 1), (9, 0), (9, 0), (9, 0)]) dX7_act_110 rfl (by decide) rfl rfl ?_
            first | (exfalso; omega) | exact j112 (1) hU (by omega) (by omega)
      · refine V_iload (q := 79) dX7_act_77 rfl rfl ?_
        refine V_iconst (q := 80) dX7_act_79 rfl (by decide) ?_
        refine V_bipush (q := 82) dX7_act_80 rfl (by decide) ?_
        refine V_in (q := 85) dX7_act_82 rfl mlX7_132 (by decide) (by decide) (Nat.le_refl _) (Nat.le_refl _) (Nat.le_of_ble_eq_true rfl) (fun z82 rz82 ez82 => ?_)
        refine V_if_eq (q := 88) (tgt := 109) dX7_act_85 (by decide) rfl (fun c85 => ?_) (fun c85 => ?_)
        · refine V_iconst (q := 110) dX7_act_109 rfl (by decide) ?_
          refine V_istore (q := 112) (lv1 := [(3, 0), (0, t), (0, nm), (0, k), (0, u), (0, n), (0, v), (0, 0), (9, 0), (9, 0), (9, 0)]) dX7_act_110 rfl (by decide) rfl rfl ?_
          first | (exfalso; omega) | exact j112 (0) hU (by omega) (by omega)
        · refine V_iload_n (q := 89) dX7_act_88 rfl rfl rfl ?_
          refine V_bipush (q := 91) dX7_act_89 rfl (by decide) ?_
          refine V_icmp_ne (q := 94) (tgt := 105) dX7_act_91 (by decide) rfl (fun c91_2 => ?_) (fun c91_2 => ?_)
          · refine V_iconst (q := 106) dX7_act_105 rfl (by decide) ?_
            refine V_goto (tgt := 110) dX7_act_106 (by decide) ?_
            refine V_istore (q := 112) (lv1 := [(3, 0), (0, t), (0, nm), (0, k), (0, u), (0, n), (0, v), (0, 1), (9, 0), (9, 0), (9, 0)]) dX7_act_110 rfl (by decide) rfl rfl ?_
            first | (exfalso; omega) | exact j112 (1) hU (by omega) (by omega)
          · refine V_iload (q := 96) dX7_act_94 rfl rfl ?_
            refine V_iconst (q := 97) dX7_act_96 rfl (by decide) ?_
            refine V_bipush (q := 99) dX7_act_97 rfl (by decide) ?_
            refine V_in (q := 102) dX7_act_99 rfl mlX7_132 (by decide) (by decide) (Nat.le_refl _) (Nat.le_refl _) (Nat.le_of_ble_eq_true rfl) (fun z99_2 rz99_2 ez99_2 => ?_)
            refine V_if_eq (q := 105) (tgt := 109) dX7_act_102 (by decide) rfl (fun c102_2 => ?_) (fun c102_2 => ?_)
            · refine V_iconst (q := 110) dX7_act_109 rfl (by decide) ?_
              refine V_istore (q := 112) (lv1 := [(3, 0), (0, t), (0, nm), (0, k), (0, u), (0, n), (0, v), (0, 0), (9, 0), (9, 0), (9, 0)]) dX7_act_110 rfl (by decide) rfl rfl ?_
              first | (exfalso; omega) | exact j112 (0) hU (by omega) (by omega)
            · refine V_iconst (q := 106) dX7_act_105 rfl (by decide) ?_
              refine V_goto (tgt := 110) dX7_act_106 (by decide) ?_
              refine V_istore (q := 112) (lv1 := [(3, 0), (0, t), (0, nm), (0, k), (0, u), (0, n), (0, v), (0, 1), (9, 0), (9, 0), (9, 0)]) dX7_act_110 rfl (by decide) rfl rfl ?_
              first | (exfalso; omega) | exact j112 (1) hU (by omega) (by omega)
  have j29 : ((0 ≤ t ∧ t < M 0 0) ∧ (1 ≤ k → k ≤ 6 → 0 ≤ u ∧ u < M 0 0)) → V Γ (gα αC) ad0 (ZM Γ (gα αC) ad0 (mQ αC C (mI fun r M1 => M1 = actM M t nm k u n v ∧ r = actR M t nm k u n v)) 0 0) (RM 2 0 0) RX7 cX7_act 11 (some .int) yX7_act.name 29 [] [(3, 0), (0, t), (0, nm), (0, k), (0, u), (0, n), (0, v), (9, 0), (9, 0), (9, 0), (9, 0)] (gα αC) (mm M C) 0 0 := by
    intro hU
    refine V_iload_n (q := 30) dX7_act_29 rfl rfl rfl ?_
    refine V_iconst (q := 31) dX7_act_30 rfl (by decide) ?_
    refine V_bipush (q := 33) dX7_act_31 rfl (by decide) ?_
    refine V_in (q := 36) dX7_act_33 rfl mlX7_132 (by decide) (by decide) (Nat.le_refl _) (Nat.le_refl _) (Nat.le_of_ble_eq_true rfl) (fun z33 rz33 ez33 => ?_)
    refine V_if_eq (q := 39) (tgt := 63) dX7_act_36 (by decide) rfl (fun c36 => ?_) (fun c36 => ?_)
    · refine V_iconst (q := 64) dX7_act_63 rfl (by decide) ?_
      refine V_istore (q := 66) (lv1 := [(3, 0), (0, t), (0, nm), (0, k), (0, u), (0, n), (0, v), (0, 0), (9, 0), (9, 0), (9, 0)]) dX7_act_64 rfl (by decide) rfl rfl ?_
      first | (exfalso; omega) | exact j66 (0) hU (by omega) (by omega)
    · refine V_iload_n (q := 40) dX7_act_39 rfl rfl rfl ?_
      refine V_iconst (q := 41) dX7_act_40 rfl (by decide) ?_
      refine V_iconst (q := 42) dX7_act_41 rfl (by decide) ?_
      refine V_in (q := 45) dX7_act_42 rfl mlX7_132 (by decide) (by decide) (Nat.le_refl _) (Nat.le_refl _) (Nat.le_of_ble_eq_true rfl) (fun z42 rz42 ez42 => ?_)
      refine V_if_eq (q := 48) (tgt := 59) dX7_act_45 (by decide) rfl (fun c45 => ?_) (fun c45 => ?_)
      · refine V_iconst (q := 60) dX7_act_59 rfl (by decide) ?_
        refine V_goto (tgt := 64) dX7_act_60 (by decide) ?_
        refine V_istore (q := 66) (lv1 := [(3, 0), (0, t), (0, nm), (0, k), (0, u), (0, n), (0, v), (0, 1), (9, 0), (9, 0), (9, 0)]) dX7_act_64 rfl (by decide) rfl rfl ?_
        first | (exfalso; omega) | exact j66 (1) hU (by omega) (by omega)
      · refine V_iload (q := 50) dX7_act_48 rfl rfl ?_
        refine V_iconst (q := 51) dX7_act_50 rfl (by decide) ?_
        refine V_bipush (q := 53) dX7_act_51 rfl (by decide) ?_
        refine V_in (q := 56) dX7_act_53 rfl mlX7_132 (by decide) (by decide) (Nat.le_refl _) (Nat.le_refl _) (Nat.le_of_ble_eq_true rfl) (fun z53 rz53 ez53 => ?_)
        refine V_if_eq (q := 59) (tgt := 63) dX7_act_56 (by decide) rfl (fun c56 => ?_) (fun c56 => ?_)
        · refine V_iconst (q := 64) dX7_act_63 rfl (by decide) ?_
          refine V_istore (q := 66) (lv1 := [(3, 0), (0, t), (0, nm), (0, k), (0, u), (0, n), (0, v), (0, 0), (9, 0), (9, 0), (9, 0)]) dX7_act_64 rfl (by decide) rfl rfl ?_
          first | (exfalso; omega) | exact j66 (0) hU (by omega) (by omega)
        · refine V_iconst (q := 60) dX7_act_59 rfl (by decide) ?_
          refine V_goto (tgt := 64) dX7_act_60 (by decide) ?_
          refine V_istore (q := 66) (lv1 := [(3, 0), (0, t), (0, nm), (0, k), (0, u), (0, n), (0, v), (0, 1), (9, 0), (9, 0), (9, 0)]) dX7_act_64 rfl (by decide) rfl rfl ?_
          first | (exfalso; omega) | exact j66 (1) hU (by omega) (by omega)
  refine V_aload_n (q := 1) dX7_act_0 rfl rfl rfl ?_
  refine V_iload_n (q := 2) dX7_act_1 rfl rfl rfl ?_
  refine VM_callI (q := 5) (As := [(0, t)]) (tX7_isType (C := C) (M := M) hn0.1) dX7_act_2 rfl mlX7_136 mw_X7_isType im_X7_isType sl_X7_isType md_X7_isType rfl rfl rfl (by decide) (by decide) (Nat.le_refl _) (Nat.le_refl _) (Nat.le_of_ble_eq_true rfl) (fun z2 M2 rz2 hz2 => ?_)
  obtain ⟨hm, bz2, hz2⟩ := hz2
  replace hm := hm.symm
  subst hm
  refine V_if_eq (q := 8) (tgt := 27) dX7_act_5 (by decide) rfl (fun c5 => ?_) (fun c5 => ?_)
  · refine V_iconst (q := 28) dX7_act_27 rfl (by decide) ?_
    have hr : actR M t nm k u n v = (-1) := by { unfold actR; (repeat' (first | rw [if_pos (by omega)] | rw [if_neg (by omega)])) }
    exact VM_iret dX7_act_28 ⟨_, rfl, by { unfold actM; rw [if_neg (by omega)] }, hr.symm⟩
  · refine V_iload_n (q := 9) dX7_act_8 rfl rfl rfl ?_
    refine V_iconst (q := 10) dX7_act_9 rfl (by decide) ?_
    refine V_bipush (q := 12) dX7_act_10 rfl (by decide) ?_
    refine V_in (q := 15) dX7_act_12 rfl mlX7_132 (by decide) (by decide) (Nat.le_refl _) (Nat.le_refl _) (Nat.le_of_ble_eq_true rfl) (fun z12 rz12 ez12 => ?_)
    refine V_if_eq (q := 18) (tgt := 29) dX7_act_15 (by decide) rfl (fun c15 => ?_) (fun c15 => ?_)
    · exact j29 ⟨by omega, fun _ _ => by omega⟩
    · refine V_aload_n (q := 19) dX7_act_18 rfl rfl rfl ?_
      refine V_iload (q := 21) dX7_act_19 rfl rfl ?_
      refine VM_callI (q := 24) (As := [(0, u)]) (tX7_isType (C := C) (M := M) hn0.1) dX7_act_21 rfl mlX7_136 mw_X7_isType im_X7_isType sl_X7_isType md_X7_isType rfl rfl rfl (by decide) (by decide) (Nat.le_refl _) (Nat.le_refl _) (Nat.le_of_ble_eq_true rfl) (fun z21 M21 rz21 hz21 => ?_)
      obtain ⟨hm, bz21, hz21⟩ := hz21
      replace hm := hm.symm
      subst hm
      refine V_if_ne (q := 27) (tgt := 29) dX7_act_24 (by decide) rfl (fun c24 => ?_) (fun c24 => ?_)
      · exact j29 ⟨by omega, fun _ _ => by omega⟩
      · refine V_iconst (q := 28) dX7_act_27 rfl (by decide) ?_
        have hr : actR M t nm k u n v = (-1) := by { unfold actR; (repeat' (first | rw [if_pos (by omega)] | rw [if_neg (by omega)])) }
        exact VM_iret dX7_act_28 ⟨_, rfl, by { unfold actM; rw [if_neg (by omega)] }, hr.symm⟩
