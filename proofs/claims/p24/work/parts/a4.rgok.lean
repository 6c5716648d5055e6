/-! THE REFERENCE'S TOUCH MACHINE: a body goes on -/
def SC45 (M M1 : Mem) : Prop := ∀ k : Int, k ≠ 18 → k ≠ 19 → k ≠ 45 → M1 k = M k
theorem atM_c {M M1 : Mem} {a b f : Int} (h : SC45 M M1) (ha : a ≠ 18 ∧ a ≠ 19 ∧ a ≠ 45) (hb : b ≠ 18 ∧ b ≠ 19 ∧ b ≠ 45) : atM M1 a b f = atM M a b f := by
  unfold atM
  rw [h 40 (by decide) (by decide) (by decide), h 41 (by decide) (by decide) (by decide), h a ha.1 ha.2.1 ha.2.2, h b hb.1 hb.2.1 hb.2.2]
theorem FB_c {M M1 : Mem} {f : Int} (h : SC45 M M1) (g : FB M f) : FB M1 f := by
  unfold FB at g ⊢
  rw [h 40 (by decide) (by decide) (by decide), h 41 (by decide) (by decide) (by decide)]
  exact g
theorem SC45.rg {M M1 : Mem} (h : SC45 M M1) (g : RG M) : RG M1 := RG_c (fun k i a => by rw [h k (by omega) (by omega) (by omega)]) g
theorem SC45.sd {M M1 : Mem} (h : SC45 M M1) : SD M M1 := fun k h0 h1 => h k (by omega) (by omega) (by omega)
def popM (f : Int) (M : Mem) : Mem := mu (mu M 44 0 (M 44 0 - (if M 40 f < 0 then 0 else 1))) 38 0 (M 38 0 - 1)
def catM (f : Int) (M : Mem) : Mem := mu (mu (mu M 45 0 (M 45 0 + 1)) 42 f (if M 42 f = -6 then M 41 f else M 42 f)) 41 f (M 41 f + 1)
def gokP (k t n v f : Int) (M M1 : Mem) : Prop :=
  (M 43 f ≠ 0 ∧ ∃ Ms : Mem, SCb M Ms ∧ M1 = gobM k t n v f M Ms) ∨ (M 43 f = 0 ∧ M 41 f = szM M f ∧ M1 = popM f M) ∨ (M 43 f = 0 ∧ M 41 f ≠ szM M f ∧ M 45 0 = 1000 ∧ M1 = mu M 49 0 1) ∨
  (M 43 f = 0 ∧ M 41 f ≠ szM M f ∧ M 45 0 ≠ 1000 ∧ k = 8 ∧ M1 = catM f M) ∨
  (M 43 f = 0 ∧ M 41 f ≠ szM M f ∧ M 45 0 ≠ 1000 ∧ k ≠ 8 ∧ RUi M k t n = 1 ∧ ∃ Ms : Mem, SCb (mu M 45 0 (M 45 0 + 1)) Ms ∧ M1 = failM 22 (-6) Ms) ∨
  (M 43 f = 0 ∧ M 41 f ≠ szM M f ∧ M 45 0 ≠ 1000 ∧ k ≠ 8 ∧ ¬ RUi M k t n = 1 ∧ ∃ Ms : Mem, SCb (mu M 45 0 (M 45 0 + 1)) Ms ∧ M1 = (if 0 ≤ STi M k t n then startM (STi M k t n) (mu Ms 43 f 1) else mu Ms 43 f 1))
theorem tX7_goOnBody {Γ : GC} {αC : Sh} {C M : Mem} {k t n v f : Int} (w : WFD M) (g : RG M) (hf : f = M 38 0 - 1) (hfb : FB M f) (h43 : M 43 f ≠ 0 → 0 ≤ M 40 f → M 41 f ≤ 11) (h11 : M 41 f ≠ szM M f → 0 ≤ M 40 f → M 41 f ≤ 11) (h45 : 0 ≤ M 45 0 ∧ M 45 0 ≤ 1000) (hk : atM M 53 13 f = k) (ht : atM M 54 14 f = t) (hn : atM M 55 15 f = n) (hv : atM M 56 16 f = v) (h13 : M 43 f ≠ 0 → 1 ≤ k → k ≤ 3 → 0 ≤ t ∧ t < M 0 0) (h16 : M 41 f ≠ szM M f → 1 ≤ k → k ≤ 6 → 0 ≤ t ∧ t < M 0 0) (hff : M 43 f ≠ 0 → 1 ≤ k → k ≤ 2 → 0 ≤ FF M n t) : MM Γ yX7_goOnBody cX7_goOnBody 4 none 4 [] αC C M (mN fun M1 => gokP k t n v f M M1) := by
  obtain ⟨g1, g2, g3, g4, g5⟩ := id g
  obtain ⟨f1, f2, f3⟩ := id hfb
  refine MM_of (k := 3) [(3, 0), (9, 0), (9, 0), (9, 0)] pn_X7_goOnBody rfl rfl rfl (fun ad0 => ?_)
  unfold gokP
  refine V_aload_n (q := 1) dX7_goOnBody_0 rfl rfl rfl ?_
  refine VM_getI (q := 4) 38 dX7_goOnBody_1 rfl flX7_213 rfl rfl rfl (fun z1 ez1 rz1 => ?_)
  refine V_iconst (q := 5) dX7_goOnBody_4 rfl (by decide) ?_
  refine V_isub (q := 6) dX7_goOnBody_5 rfl (by omega) (fun z5 ez5 => ?_)
  refine V_istore_n (q := 7) (lv1 := [(3, 0), (0, z5), (9, 0), (9, 0)]) dX7_goOnBody_6 rfl rfl (by decide) rfl rfl ?_
  obtain rfl : z5 = f := by omega
  refine V_aload_n (q := 8) dX7_goOnBody_7 rfl rfl rfl ?_
  refine VM_getA (q := 11) 44 dX7_goOnBody_8 rfl flX7_122 rfl rfl (Nat.succ_ne_zero _) ?_
  refine V_iload_n (q := 12) dX7_goOnBody_11 rfl rfl rfl ?_
  refine VM_zald (q := 13) 43 dX7_goOnBody_12 rfl rfl (by decide) rfl rfl (by omega) (fun z12 ez12 rz12 => ?_)
  refine V_if_eq (q := 16) (tgt := 22) dX7_goOnBody_13 (by decide) rfl (fun c13 => ?_) (fun c13 => ?_)
  · refine V_aload_n (q := 23) dX7_goOnBody_22 rfl rfl rfl ?_
    refine VM_getA (q := 26) 42 dX7_goOnBody_23 rfl flX7_116 rfl rfl (Nat.succ_ne_zero _) ?_
    refine V_iload_n (q := 27) dX7_goOnBody_26 rfl rfl rfl ?_
    refine VM_iald (q := 28) 41 dX7_goOnBody_27 rfl rfl (by decide) rfl rfl (by omega) (fun z27 ez27 rz27 => ?_)
    refine V_aload_n (q := 29) dX7_goOnBody_28 rfl rfl rfl ?_
    refine V_iload_n (q := 30) dX7_goOnBody_29 rfl rfl rfl ?_
    refine VM_callI (q := 33) (As := [(0, z5)]) (tX7_sizeOf (C := C) (M := M) hfb) dX7_goOnBody_30 rfl mlX7_246 mw_X7_sizeOf im_X7_sizeOf sl_X7_sizeOf md_X7_sizeOf rfl rfl rfl (by decide) (by decide) (Nat.le_refl _) (Nat.le_refl _) (Nat.le_of_ble_eq_true rfl) (fun z30 M30 rz30 hz30 => ?_)
    obtain ⟨hm, hz30⟩ := hz30
    replace hm := hm.symm
    subst hm
    refine V_icmp_ne (q := 36) (tgt := 70) dX7_goOnBody_33 (by decide) rfl (fun c33 => ?_) (fun c33 => ?_)
    · refine V_aload_n (q := 71) dX7_goOnBody_70 rfl rfl rfl ?_
      refine VM_getI (q := 74) 45 dX7_goOnBody_71 rfl flX7_250 rfl rfl rfl (fun z71 ez71 rz71 => ?_)
      refine V_sipush (q := 77) dX7_goOnBody_74 rfl (by decide) ?_
      refine V_icmp_ne (q := 80) (tgt := 86) dX7_goOnBody_77 (by decide) rfl (fun c77 => ?_) (fun c77 => ?_)
      · refine V_aload_n (q := 87) dX7_goOnBody_86 rfl rfl rfl ?_
        refine V_dup (q := 88) dX7_goOnBody_87 rfl (show (3 : Nat) ≠ 2 by decide) ?_
        refine VM_getI (q := 91) 45 dX7_goOnBody_88 rfl flX7_250 rfl rfl rfl (fun z88 ez88 rz88 => ?_)
        refine V_iconst (q := 92) dX7_goOnBody_91 rfl (by decide) ?_
        refine V_iadd (q := 93) dX7_goOnBody_92 rfl (by omega) (fun z92 ez92 => ?_)
        refine VM_putI (q := 96) 45 dX7_goOnBody_93 rfl flX7_250 rfl rfl rfl rfl (fun M93 eM93 => ?_)
        have sM93 : SC45 M M93 := fun k a b c => by { rw [eM93]; exact mu_f _ _ _ _ c }
        refine V_aload_n (q := 97) dX7_goOnBody_96 rfl rfl rfl ?_
        refine V_iload_n (q := 98) dX7_goOnBody_97 rfl rfl rfl ?_
        refine VM_callI (q := 101) (As := [(0, z5)]) (tX7_kindAt (C := C) (M := M93) (FB_c sM93 hfb) (by { rw [sM93 40 (by decide) (by decide) (by decide), sM93 41 (by decide) (by decide) (by decide)]; exact h11 (by omega) })) dX7_goOnBody_98 rfl mlX7_253 mw_X7_kindAt im_X7_kindAt sl_X7_kindAt md_X7_kindAt rfl rfl rfl (by decide) (by decide) (Nat.le_refl _) (Nat.le_refl _) (Nat.le_of_ble_eq_true rfl) (fun z98 M98 rz98 hz98 => ?_)
        obtain ⟨hm, hz98⟩ := hz98
        replace hm := hm.symm
        subst hm
        refine V_istore_n (q := 102) (lv1 := [(3, 0), (0, z5), (0, z98), (9, 0)]) dX7_goOnBody_101 rfl rfl (by decide) rfl rfl ?_
        have e0 : z98 = k := by { rw [hz98, atM_c sM93 (by decide) (by decide)]; exact hk }
        refine V_iload_n (q := 103) dX7_goOnBody_102 rfl rfl rfl ?_
        refine V_bipush (q := 105) dX7_goOnBody_103 rfl (by decide) ?_
        refine V_icmp_ne (q := 108) (tgt := 151) dX7_goOnBody_105 (by decide) rfl (fun c105 => ?_) (fun c105 => ?_)
        · refine V_aload_n (q := 152) dX7_goOnBody_151 rfl rfl rfl ?_
          refine V_iload_n (q := 153) dX7_goOnBody_152 rfl rfl rfl ?_
          refine V_aload_n (q := 154) dX7_goOnBody_153 rfl rfl rfl ?_
          refine V_iload_n (q := 155) dX7_goOnBody_154 rfl rfl rfl ?_
          refine VM_callI (q := 158) (As := [(0, z5)]) (tX7_typeAt (C := C) (M := M93) (FB_c sM93 hfb) (by { rw [sM93 40 (by decide) (by decide) (by decide), sM93 41 (by decide) (by decide) (by decide)]; exact h11 (by omega) })) dX7_goOnBody_155 rfl mlX7_256 mw_X7_typeAt im_X7_typeAt sl_X7_typeAt md_X7_typeAt rfl rfl rfl (by decide) (by decide) (Nat.le_refl _) (Nat.le_refl _) (Nat.le_of_ble_eq_true rfl) (fun z155 M155 rz155 hz155 => ?_)
          obtain ⟨hm, hz155⟩ := hz155
          replace hm := hm.symm
          subst hm
          refine V_aload_n (q := 159) dX7_goOnBody_158 rfl rfl rfl ?_
          refine V_iload_n (q := 160) dX7_goOnBody_159 rfl rfl rfl ?_
          refine VM_callI (q := 163) (As := [(0, z5)]) (tX7_nameAt (C := C) (M := M93) (FB_c sM93 hfb) (by { rw [sM93 40 (by decide) (by decide) (by decide), sM93 41 (by decide) (by decide) (by decide)]; exact h11 (by omega) })) dX7_goOnBody_160 rfl mlX7_259 mw_X7_nameAt im_X7_nameAt sl_X7_nameAt md_X7_nameAt rfl rfl rfl (by decide) (by decide) (Nat.le_refl _) (Nat.le_refl _) (Nat.le_of_ble_eq_true rfl) (fun z160 M160 rz160 hz160 => ?_)
          obtain ⟨hm, hz160⟩ := hz160
          replace hm := hm.symm
          subst hm
          have e1 : z155 = t := by { rw [hz155, atM_c sM93 (by decide) (by decide)]; exact ht }
          have e2 : z160 = n := by { rw [hz160, atM_c sM93 (by decide) (by decide)]; exact hn }
          refine VM_callI (q := 166) (As := [(0, z98), (0, z155), (0, z160)]) (tX7_isRuled (C := C) (M := M93) (SD_WFD sM93.sd w) (by { rw [sM93.sd 0 (by decide) (by decide), e0, e1]; exact fun a b => h16 (by omega) a (by omega) })) dX7_goOnBody_163 rfl mlX7_167 mw_X7_isRuled im_X7_isRuled sl_X7_isRuled md_X7_isRuled rfl rfl rfl (by decide) (by decide) (Nat.le_refl _) (Nat.le_refl _) (Nat.le_of_ble_eq_true rfl) (fun z163 M163 rz163 hz163 => ?_)
          obtain ⟨gM163, hz163⟩ := hz163
          have sM163 : SC45 M M163 := fun k a b c => (gM163 k a b).trans (sM93 k a b c)
          rw [SD_RUi sM93.sd, e0, e1, e2] at hz163
          refine V_if_eq (q := 169) (tgt := 178) dX7_goOnBody_166 (by decide) rfl (fun c166 => ?_) (fun c166 => ?_)
          · refine V_aload_n (q := 179) dX7_goOnBody_178 rfl rfl rfl ?_
            refine V_iload_n (q := 180) dX7_goOnBody_179 rfl rfl rfl ?_
            refine V_aload_n (q := 181) dX7_goOnBody_180 rfl rfl rfl ?_
            refine V_iload_n (q := 182) dX7_goOnBody_181 rfl rfl rfl ?_
            refine VM_callI (q := 185) (As := [(0, z5)]) (tX7_typeAt (C := C) (M := M163) (FB_c sM163 hfb) (by { rw [sM163 40 (by decide) (by decide) (by decide), sM163 41 (by decide) (by decide) (by decide)]; exact h11 (by omega) })) dX7_goOnBody_182 rfl mlX7_256 mw_X7_typeAt im_X7_typeAt sl_X7_typeAt md_X7_typeAt rfl rfl rfl (by decide) (by decide) (Nat.le_refl _) (Nat.le_refl _) (Nat.le_of_ble_eq_true rfl) (fun z182 M182 rz182 hz182 => ?_)
            obtain ⟨hm, hz182⟩ := hz182
            replace hm := hm.symm
            subst hm
            refine V_aload_n (q := 186) dX7_goOnBody_185 rfl rfl rfl ?_
            refine V_iload_n (q := 187) dX7_goOnBody_186 rfl rfl rfl ?_
            refine VM_callI (q := 190) (As := [(0, z5)]) (tX7_nameAt (C := C) (M := M163) (FB_c sM163 hfb) (by { rw [sM163 40 (by decide) (by decide) (by decide), sM163 41 (by decide) (by decide) (by decide)]; exact h11 (by omega) })) dX7_goOnBody_187 rfl mlX7_259 mw_X7_nameAt im_X7_nameAt sl_X7_nameAt md_X7_nameAt rfl rfl rfl (by decide) (by decide) (Nat.le_refl _) (Nat.le_refl _) (Nat.le_of_ble_eq_true rfl) (fun z187 M187 rz187 hz187 => ?_)
            obtain ⟨hm, hz187⟩ := hz187
            replace hm := hm.symm
            subst hm
            have e3 : z182 = t := by { rw [hz182, atM_c sM163 (by decide) (by decide)]; exact ht }
            have e4 : z187 = n := by { rw [hz187, atM_c sM163 (by decide) (by decide)]; exact hn }
            refine VM_callI (q := 193) (As := [(0, z98), (0, z182), (0, z187)]) (tX7_started (C := C) (M := M163) (SD_WFD sM163.sd w) (by { rw [sM163.sd 0 (by decide) (by decide), e0, e3]; exact fun a b => h16 (by omega) a (by omega) })) dX7_goOnBody_190 rfl mlX7_181 mw_X7_started im_X7_started sl_X7_started md_X7_started rfl rfl rfl (by decide) (by decide) (Nat.le_refl _) (Nat.le_refl _) (Nat.le_of_ble_eq_true rfl) (fun z190 M190 rz190 hz190 => ?_)
            obtain ⟨gM190, hz190⟩ := hz190
            have sM190 : SC45 M M190 := fun k a b c => (gM190 k a b).trans (sM163 k a b c)
            rw [SD_STi sM163.sd, e0, e3, e4] at hz190
            have hrg := STi_rng w (k := k) (t := t) (n := n) (h16 (by omega))
            refine V_istore_n (q := 194) (lv1 := [(3, 0), (0, z5), (0, z98), (0, z190)]) dX7_goOnBody_193 rfl rfl (by decide) rfl rfl ?_
            refine V_aload_n (q := 195) dX7_goOnBody_194 rfl rfl rfl ?_
            refine VM_getA (q := 198) 44 dX7_goOnBody_195 rfl flX7_122 rfl rfl (Nat.succ_ne_zero _) ?_
            refine V_iload_n (q := 199) dX7_goOnBody_198 rfl rfl rfl ?_
            refine V_iconst (q := 200) dX7_goOnBody_199 rfl (by decide) ?_
            refine VM_zast (q := 201) 43 dX7_goOnBody_200 rfl rfl (by decide) rfl rfl (by omega) (by omega) (fun M200 eM200 => ?_)
            refine V_iload_n (q := 202) dX7_goOnBody_201 rfl rfl rfl ?_
            refine V_if_lt (q := 205) (tgt := 210) dX7_goOnBody_202 (by decide) rfl (fun c202 => ?_) (fun c202 => ?_)
            · refine VM_vret dX7_goOnBody_210 ⟨rfl, Or.inr (Or.inr (Or.inr (Or.inr (Or.inr ⟨by omega, by omega, by omega, by omega, by omega, M190, ?_, ?_⟩))))⟩
              · { intro k a b; by_cases c : k = 45; · { subst c; rw [gM190 45 (by decide) (by decide), gM163 45 (by decide) (by decide), eM93]; simp only [ez92, ez88] }; · { rw [sM190 k a b c, mu_f _ _ _ _ c] } }
              · { rw [if_neg (by omega)]; simp only [ez12, ez27, ez71, ez88, ez92, eM93, eM200] }
            · refine V_aload_n (q := 206) dX7_goOnBody_205 rfl rfl rfl ?_
              refine V_iload_n (q := 207) dX7_goOnBody_206 rfl rfl rfl ?_
              refine VM_callN (q := 210) (As := [(0, z190)]) (tX7_start (C := C) (M := M200) (RG_c (fun k i h => by rw [eM200, mu_ne (by omega)]) (sM190.rg g)) (by { have := w.n; omega })) dX7_goOnBody_207 rfl mlX7_222 mw_X7_start im_X7_start sl_X7_start md_X7_start rfl rfl rfl (by decide) (by decide) (Nat.le_refl _) (Nat.le_refl _) (Nat.le_of_ble_eq_true rfl) (fun M207 hM207 => ?_)
              refine VM_vret dX7_goOnBody_210 ⟨rfl, Or.inr (Or.inr (Or.inr (Or.inr (Or.inr ⟨by omega, by omega, by omega, by omega, by omega, M190, ?_, ?_⟩))))⟩
              · { intro k a b; by_cases c : k = 45; · { subst c; rw [gM190 45 (by decide) (by decide), gM163 45 (by decide) (by decide), eM93]; simp only [ez92, ez88] }; · { rw [sM190 k a b c, mu_f _ _ _ _ c] } }
              · { rw [if_pos (by omega), hM207, hz190]; simp only [ez12, ez27, ez71, ez88, ez92, eM93, eM200] }
          · refine V_aload_n (q := 170) dX7_goOnBody_169 rfl rfl rfl ?_
            refine V_bipush (q := 172) dX7_goOnBody_170 rfl (by decide) ?_
            refine V_bipush (q := 174) dX7_goOnBody_172 rfl (by decide) ?_
            refine VM_callN (q := 177) (As := [(0, 22), (0, (-6))]) (tX7_fail (C := C) (M := M163) (sM163.rg g)) dX7_goOnBody_174 rfl mlX7_219 mw_X7_fail im_X7_fail sl_X7_fail md_X7_fail rfl rfl rfl (by decide) (by decide) (Nat.le_refl _) (Nat.le_refl _) (Nat.le_of_ble_eq_true rfl) (fun M174 hM174 => ?_)
            refine VM_vret dX7_goOnBody_177 ⟨rfl, Or.inr (Or.inr (Or.inr (Or.inr (Or.inl ⟨by omega, by omega, by omega, by omega, by { have := RUi_01 M k t n; omega }, M163, ?_, hM174⟩))))⟩
            intro k a b
            by_cases c : k = 45
            · { subst c; rw [gM163 45 (by decide) (by decide), eM93]; simp only [ez92, ez88] }
            · { rw [sM163 k a b c, mu_f _ _ _ _ c] }
        · refine V_aload_n (q := 109) dX7_goOnBody_108 rfl rfl rfl ?_
          refine VM_getA (q := 112) 43 dX7_goOnBody_109 rfl flX7_119 rfl rfl (Nat.succ_ne_zero _) ?_
          refine V_iload_n (q := 113) dX7_goOnBody_112 rfl rfl rfl ?_
          refine V_aload_n (q := 114) dX7_goOnBody_113 rfl rfl rfl ?_
          refine VM_getA (q := 117) 43 dX7_goOnBody_114 rfl flX7_119 rfl rfl (Nat.succ_ne_zero _) ?_
          refine V_iload_n (q := 118) dX7_goOnBody_117 rfl rfl rfl ?_
          refine VM_iald (q := 119) 42 dX7_goOnBody_118 rfl rfl (by decide) rfl rfl (by omega) (fun z118 ez118 rz118 => ?_)
          rw [eM93, mu_t _ _ _ _ (by decide)] at ez118
          refine V_bipush (q := 121) dX7_goOnBody_119 rfl (by decide) ?_
          refine V_icmp_ne (q := 124) (tgt := 133) dX7_goOnBody_121 (by decide) rfl (fun c121 => ?_) (fun c121 => ?_)
          · refine V_aload_n (q := 134) dX7_goOnBody_133 rfl rfl rfl ?_
            refine VM_getA (q := 137) 43 dX7_goOnBody_134 rfl flX7_119 rfl rfl (Nat.succ_ne_zero _) ?_
            refine V_iload_n (q := 138) dX7_goOnBody_137 rfl rfl rfl ?_
            refine VM_iald (q := 139) 42 dX7_goOnBody_138 rfl rfl (by decide) rfl rfl (by omega) (fun z138 ez138 rz138 => ?_)
            rw [eM93, mu_t _ _ _ _ (by decide)] at ez138
            refine VM_iast (q := 140) 42 dX7_goOnBody_139 rfl rfl (by decide) rfl rfl (by omega) (fun M139 eM139 => ?_)
            refine V_aload_n (q := 141) dX7_goOnBody_140 rfl rfl rfl ?_
            refine VM_getA (q := 144) 42 dX7_goOnBody_141 rfl flX7_116 rfl rfl (Nat.succ_ne_zero _) ?_
            refine V_iload_n (q := 145) dX7_goOnBody_144 rfl rfl rfl ?_
            refine V_dup2 (q := 146) dX7_goOnBody_145 rfl (show (0 : Nat) ≠ 2 by decide) (show (3 : Nat) ≠ 2 by decide) ?_
            refine VM_iald (q := 147) 41 dX7_goOnBody_146 rfl rfl (by decide) rfl rfl (by omega) (fun z146 ez146 rz146 => ?_)
            rw [eM139, mu_t _ _ _ _ (by decide)] at ez146
            rw [eM93, mu_t _ _ _ _ (by decide)] at ez146
            refine V_iconst (q := 148) dX7_goOnBody_147 rfl (by decide) ?_
            refine V_iadd (q := 149) dX7_goOnBody_148 rfl (by omega) (fun z148 ez148 => ?_)
            refine VM_iast (q := 150) 41 dX7_goOnBody_149 rfl rfl (by decide) rfl rfl (by omega) (fun M149 eM149 => ?_)
            refine VM_vret dX7_goOnBody_150 ⟨rfl, Or.inr (Or.inr (Or.inr (Or.inl ⟨by omega, by omega, by omega, by omega, ?_⟩)))⟩
            unfold catM
            (first | rw [if_pos (by omega)] | rw [if_neg (by omega)])
            simp only [ez12, ez27, ez71, ez88, ez92, eM93, ez118, ez138, eM139, ez146, ez148, eM149]
          · refine V_aload_n (q := 125) dX7_goOnBody_124 rfl rfl rfl ?_
            refine VM_getA (q := 128) 42 dX7_goOnBody_125 rfl flX7_116 rfl rfl (Nat.succ_ne_zero _) ?_
            refine V_iload_n (q := 129) dX7_goOnBody_128 rfl rfl rfl ?_
            refine VM_iald (q := 130) 41 dX7_goOnBody_129 rfl rfl (by decide) rfl rfl (by omega) (fun z129 ez129 rz129 => ?_)
            rw [eM93, mu_t _ _ _ _ (by decide)] at ez129
            refine V_goto (tgt := 139) dX7_goOnBody_130 (by decide) ?_
            refine VM_iast (q := 140) 42 dX7_goOnBody_139 rfl rfl (by decide) rfl rfl (by omega) (fun M139_2 eM139_2 => ?_)
            refine V_aload_n (q := 141) dX7_goOnBody_140 rfl rfl rfl ?_
            refine VM_getA (q := 144) 42 dX7_goOnBody_141 rfl flX7_116 rfl rfl (Nat.succ_ne_zero _) ?_
            refine V_iload_n (q := 145) dX7_goOnBody_144 rfl rfl rfl ?_
            refine V_dup2 (q := 146) dX7_goOnBody_145 rfl (show (0 : Nat) ≠ 2 by decide) (show (3 : Nat) ≠ 2 by decide) ?_
            refine VM_iald (q := 147) 41 dX7_goOnBody_146 rfl rfl (by decide) rfl rfl (by omega) (fun z146_2 ez146_2 rz146_2 => ?_)
            rw [eM139_2, mu_t _ _ _ _ (by decide)] at ez146_2
            rw [eM93, mu_t _ _ _ _ (by decide)] at ez146_2
            refine V_iconst (q := 148) dX7_goOnBody_147 rfl (by decide) ?_
            refine V_iadd (q := 149) dX7_goOnBody_148 rfl (by omega) (fun z148_2 ez148_2 => ?_)
            refine VM_iast (q := 150) 41 dX7_goOnBody_149 rfl rfl (by decide) rfl rfl (by omega) (fun M149_2 eM149_2 => ?_)
            refine VM_vret dX7_goOnBody_150 ⟨rfl, Or.inr (Or.inr (Or.inr (Or.inl ⟨by omega, by omega, by omega, by omega, ?_⟩)))⟩
            unfold catM
            (first | rw [if_pos (by omega)] | rw [if_neg (by omega)])
            simp only [ez12, ez27, ez71, ez88, ez92, eM93, ez118, ez129, eM139_2, ez146_2, ez148_2, eM149_2]
      · refine V_aload_n (q := 81) dX7_goOnBody_80 rfl rfl rfl ?_
        refine V_iconst (q := 82) dX7_goOnBody_81 rfl (by decide) ?_
        refine VM_putZ (q := 85) 49 dX7_goOnBody_82 rfl flX7_197 rfl rfl rfl rfl (by omega) (fun M82 eM82 => ?_)
        refine VM_vret dX7_goOnBody_85 ⟨rfl, Or.inr (Or.inr (Or.inl ⟨by omega, by omega, by omega, ?_⟩))⟩
        simp only [ez12, ez27, ez71, eM82]
    · refine V_aload_n (q := 37) dX7_goOnBody_36 rfl rfl rfl ?_
      refine V_dup (q := 38) dX7_goOnBody_37 rfl (show (3 : Nat) ≠ 2 by decide) ?_
      refine VM_getI (q := 41) 44 dX7_goOnBody_38 rfl flX7_210 rfl rfl rfl (fun z38 ez38 rz38 => ?_)
      refine V_aload_n (q := 42) dX7_goOnBody_41 rfl rfl rfl ?_
      refine VM_getA (q := 45) 41 dX7_goOnBody_42 rfl flX7_113 rfl rfl (Nat.succ_ne_zero _) ?_
      refine V_iload_n (q := 46) dX7_goOnBody_45 rfl rfl rfl ?_
      refine VM_iald (q := 47) 40 dX7_goOnBody_46 rfl rfl (by decide) rfl rfl (by omega) (fun z46 ez46 rz46 => ?_)
      refine V_if_ge (q := 50) (tgt := 54) dX7_goOnBody_47 (by decide) rfl (fun c47 => ?_) (fun c47 => ?_)
      · refine V_iconst (q := 55) dX7_goOnBody_54 rfl (by decide) ?_
        refine V_isub (q := 56) dX7_goOnBody_55 rfl (by omega) (fun z55 ez55 => ?_)
        refine VM_putI (q := 59) 44 dX7_goOnBody_56 rfl flX7_210 rfl rfl rfl rfl (fun M56 eM56 => ?_)
        refine V_aload_n (q := 60) dX7_goOnBody_59 rfl rfl rfl ?_
        refine V_dup (q := 61) dX7_goOnBody_60 rfl (show (3 : Nat) ≠ 2 by decide) ?_
        refine VM_getI (q := 64) 38 dX7_goOnBody_61 rfl flX7_213 rfl rfl rfl (fun z61 ez61 rz61 => ?_)
        rw [eM56, mu_t _ _ _ _ (by decide)] at ez61
        refine V_iconst (q := 65) dX7_goOnBody_64 rfl (by decide) ?_
        refine V_isub (q := 66) dX7_goOnBody_65 rfl (by omega) (fun z65 ez65 => ?_)
        refine VM_putI (q := 69) 38 dX7_goOnBody_66 rfl flX7_213 rfl rfl rfl rfl (fun M66 eM66 => ?_)
        refine VM_vret dX7_goOnBody_69 ⟨rfl, Or.inr (Or.inl ⟨by omega, by omega, ?_⟩)⟩
        unfold popM
        (first | rw [if_pos (by omega)] | rw [if_neg (by omega)])
        simp only [ez12, ez27, ez38, ez46, ez55, eM56, ez61, ez65, eM66]
      · refine V_iconst (q := 51) dX7_goOnBody_50 rfl (by decide) ?_
        refine V_goto (tgt := 55) dX7_goOnBody_51 (by decide) ?_
        refine V_isub (q := 56) dX7_goOnBody_55 rfl (by omega) (fun z55_2 ez55_2 => ?_)
        refine VM_putI (q := 59) 44 dX7_goOnBody_56 rfl flX7_210 rfl rfl rfl rfl (fun M56_2 eM56_2 => ?_)
        refine V_aload_n (q := 60) dX7_goOnBody_59 rfl rfl rfl ?_
        refine V_dup (q := 61) dX7_goOnBody_60 rfl (show (3 : Nat) ≠ 2 by decide) ?_
        refine VM_getI (q := 64) 38 dX7_goOnBody_61 rfl flX7_213 rfl rfl rfl (fun z61_2 ez61_2 rz61_2 => ?_)
        rw [eM56_2, mu_t _ _ _ _ (by decide)] at ez61_2
        refine V_iconst (q := 65) dX7_goOnBody_64 rfl (by decide) ?_
        refine V_isub (q := 66) dX7_goOnBody_65 rfl (by omega) (fun z65_2 ez65_2 => ?_)
        refine VM_putI (q := 69) 38 dX7_goOnBody_66 rfl flX7_213 rfl rfl rfl rfl (fun M66_2 eM66_2 => ?_)
        refine VM_vret dX7_goOnBody_69 ⟨rfl, Or.inr (Or.inl ⟨by omega, by omega, ?_⟩)⟩
        unfold popM
        (first | rw [if_pos (by omega)] | rw [if_neg (by omega)])
        simp only [ez12, ez27, ez38, ez46, ez55_2, eM56_2, ez61_2, ez65_2, eM66_2]
  · refine V_aload_n (q := 17) dX7_goOnBody_16 rfl rfl rfl ?_
    refine V_iload_n (q := 18) dX7_goOnBody_17 rfl rfl rfl ?_
    refine VM_callN (q := 21) (As := [(0, z5)]) (tX7_goBehind (C := C) (M := M) w g hfb (h43 (by omega)) hk ht hn hv (h13 (by omega)) (hff (by omega))) dX7_goOnBody_18 rfl mlX7_243 mw_X7_goBehind im_X7_goBehind sl_X7_goBehind md_X7_goBehind rfl rfl rfl (by decide) (by decide) (Nat.le_refl _) (Nat.le_refl _) (Nat.le_of_ble_eq_true rfl) (fun M18 hM18 => ?_)
    refine VM_vret dX7_goOnBody_21 ⟨rfl, Or.inl ⟨by omega, ?_⟩⟩
    exact hM18
