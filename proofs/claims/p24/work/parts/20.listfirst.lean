theorem LFI_init {M : Mem} {t n : Int} {M1 : Mem} (w : WFD M) (t0 : 0 ≤ t) (t1 : t < M 0 0) (hn : n = M 4 t) (f : ∀ k : Int, k ≠ 18 → k ≠ 20 → k ≠ 21 → k ≠ 22 → k ≠ 23 → M1 k = M k) (h4 : M1 21 0 = (if M 3 t < 0 then [] else [M 3 t] : List Int).length) (h5 : ∀ k : Int, 0 ≤ k → k < (if M 3 t < 0 then [] else [M 3 t] : List Int).length → M1 20 k = (if M 3 t < 0 then [] else [M 3 t] : List Int).getD k.toNat 0) (h6 : ∀ i : Int, 0 ≤ i → i < M 0 0 → M1 22 i = 0) (h7 : ∀ i : Int, 0 ≤ i → i < M 4 t → M1 18 i = M 5 (4 * t + (M 4 t - 1 - i)) ∧ M1 23 i = 0) (hx : 0 ≤ n) : LFI M n M1 (fun _ => 0) (if M 3 t < 0 then [] else [M 3 t] : List Int) (LPs M t) := by
  have hn0 := w.n
  have hl := cntz_le (M1 22) (M 0 0).toNat
  have hc := (w.cnt t t0 (by omega)).1
  have h8 : cnt1 (M1 23) n.toNat = 0 := by
    have := cnt1_zeros (f := M1 23) 0 n.toNat (fun i i0 i1 => (h7 i (by omega) (by omega)).2)
    rw [Nat.zero_add] at this
    exact this
  have h9 : (if M 3 t < 0 then [] else [M 3 t] : List Int).length ≤ 1 := by split <;> simp
  refine ⟨f, hx, by omega, by omega, fun i i0 i1 => ?_, h6, h4, h5, ?_⟩
  · have hf := w.face t (M 4 t - 1 - i) t0 t1 (by omega) (by omega)
    rw [(h7 i i0 (by omega)).1]
    exact ⟨hf.1, hf.2.1⟩
  · have := SR_faces (M := M) (W := M1 18) (E := M1 23) (f := t) (n := 0) (by decide) (M 4 t).toNat ((fun _ => 0), (if M 3 t < 0 then [] else [M 3 t] : List Int)) (fun i i0 i1 => by rw [Int.zero_add]; exact h7 i i0 (by omega))
    rw [show (0 : Int).toNat + (M 4 t).toNat = n.toNat by omega] at this
    rw [this]
    rfl
theorem tX7_listFirst {Γ : GC} {αC : Sh} {C M : Mem} {t : Int} (w : WFD M) (ht : 0 ≤ t ∧ t < M 0 0) : MM Γ yX7_listFirst cX7_listFirst 5 none 0 [(0, t)] αC C M (mN fun M1 => (∀ k : Int, k ≠ 18 → k ≠ 20 → k ≠ 21 → k ≠ 22 → k ≠ 23 → M1 k = M k) ∧ M1 21 0 = (LF M t).length ∧ (LF M t).length ≤ 41 ∧ (∀ k : Int, 0 ≤ k → k < (LF M t).length → M1 20 k = (LF M t).getD k.toNat 0)) := by
  have hn0 := w.n
  have hc4 := (w.cnt t ht.1 (by omega)).1
  have hab := w.above t ht.1 ht.2
  refine MM_of (k := 3) [(3, 0), (0, t), (9, 0), (9, 0), (9, 0)] pn_X7_listFirst rfl rfl rfl (fun ad0 => ?_)
  have outer : ∀ (n : Int) (M1 : Mem) (P : Int → Int) (out : List Int), M 1 t ≠ 1 → LFI M n M1 P out (LPs M t) → V Γ (gα αC) ad0 (ZM Γ (gα αC) ad0 (mQ αC C (mN fun M1 => (∀ k : Int, k ≠ 18 → k ≠ 20 → k ≠ 21 → k ≠ 22 → k ≠ 23 → M1 k = M k) ∧ M1 21 0 = (LF M t).length ∧ (LF M t).length ≤ 41 ∧ (∀ k : Int, 0 ≤ k → k < (LF M t).length → M1 20 k = (LF M t).getD k.toNat 0))) 0 0) (RM 0 0 0) RX7 cX7_listFirst 5 none yX7_listFirst.name 111 [] [(3, 0), (0, t), (0, n), (9, 0), (9, 0)] (gα αC) (mm M1 C) 0 0 := by
    intro n M1 P out hface hI
    revert hI hface
    revert n M1 P out
    have outer4 : ∀ (n : Int) (M1 : Mem) (P : Int → Int) (out : List Int), (M 1 t ≠ 1 ∧ LFI M n M1 P out (LPs M t)) → V Γ (gα αC) ad0 (ZM Γ (gα αC) ad0 (mQ αC C (mN fun M1 => (∀ k : Int, k ≠ 18 → k ≠ 20 → k ≠ 21 → k ≠ 22 → k ≠ 23 → M1 k = M k) ∧ M1 21 0 = (LF M t).length ∧ (LF M t).length ≤ 41 ∧ (∀ k : Int, 0 ≤ k → k < (LF M t).length → M1 20 k = (LF M t).getD k.toNat 0))) 0 0) (RM 0 0 0) RX7 cX7_listFirst 5 none yX7_listFirst.name 111 [] [(3, 0), (0, t), (0, n), (9, 0), (9, 0)] (gα αC) (mm M1 C) 0 0 := by
      refine loop4 _ (fun n M1 _ _ => 6 * cntz (M1 22) (M 0 0).toNat + n.toNat) _ ?_
      rintro n M1 P out ⟨hface, hI⟩ ih0
      have ih : ∀ (n1 : Int) (M2 : Mem) (P1 : Int → Int) (out1 : List Int), M 1 t ≠ 1 → LFI M n1 M2 P1 out1 (LPs M t) → 6 * cntz (M2 22) (M 0 0).toNat + n1.toNat < 6 * cntz (M1 22) (M 0 0).toNat + n.toNat → V Γ (gα αC) ad0 (ZM Γ (gα αC) ad0 (mQ αC C (mN fun M1 => (∀ k : Int, k ≠ 18 → k ≠ 20 → k ≠ 21 → k ≠ 22 → k ≠ 23 → M1 k = M k) ∧ M1 21 0 = (LF M t).length ∧ (LF M t).length ≤ 41 ∧ (∀ k : Int, 0 ≤ k → k < (LF M t).length → M1 20 k = (LF M t).getD k.toNat 0))) 0 0) (RM 0 0 0) RX7 cX7_listFirst 5 none yX7_listFirst.name 111 [] [(3, 0), (0, t), (0, n1), (9, 0), (9, 0)] (gα αC) (mm M2 C) 0 0 := fun n1 M2 P1 out1 h1 h2 h3 => ih0 n1 M2 P1 out1 ⟨h1, h2⟩ h3
      have fM1 := hI.1
      have hsz1 := hI.2.2.1
      refine V_iload_n (q := 112) dX7_listFirst_111 rfl rfl rfl ?_
      refine V_if_le (q := 115) (tgt := 246) dX7_listFirst_112 (by decide) rfl (fun c112 => ?_) (fun c112 => ?_)
      · have hfin := LFI_end hI (by omega)
        have hLF : out = LF M t := by unfold LF; rw [if_neg hface, ← hfin]
        rw [hLF] at hI
        exact VM_vret dX7_listFirst_246 ⟨rfl, hI.1, hI.2.2.2.2.2.2.1, by have := hI.2.2.2.1; omega, hI.2.2.2.2.2.2.2.1⟩
      · refine V_iinc (q := 118) dX7_listFirst_115 rfl rfl (by decide) rfl (by omega) (fun z115 lz115 ez115 hlz115 => ?_)
        obtain rfl : lz115 = [(3, 0), (0, t), (0, z115), (9, 0), (9, 0)] := hlz115
        have hpos : 0 < n := by omega
        refine V_aload_n (q := 119) dX7_listFirst_118 rfl rfl rfl ?_
        refine VM_getA (q := 122) 19 dX7_listFirst_119 rfl flX7_59 rfl rfl (Nat.succ_ne_zero _) ?_
        refine V_iload_n (q := 123) dX7_listFirst_122 rfl rfl rfl ?_
        refine VM_iald (q := 124) 18 dX7_listFirst_123 rfl rfl (by decide) rfl rfl (by omega) (fun z123 ez123 rz123 => ?_)
        refine V_istore_n (q := 125) (lv1 := [(3, 0), (0, t), (0, z115), (0, z123), (9, 0)]) dX7_listFirst_124 rfl rfl (by decide) rfl rfl ?_
        have hr := hI.2.2.2.2.1 z115 (by omega) (by omega)
        rw [← ez123] at hr
        refine V_aload_n (q := 126) dX7_listFirst_125 rfl rfl rfl ?_
        refine VM_getA (q := 129) 24 dX7_listFirst_126 rfl flX7_71 rfl rfl (Nat.succ_ne_zero _) ?_
        refine V_iload_n (q := 130) dX7_listFirst_129 rfl rfl rfl ?_
        refine VM_zald (q := 131) 23 dX7_listFirst_130 rfl rfl (by decide) rfl rfl (by omega) (fun z130 ez130 rz130 => ?_)
        refine V_if_eq (q := 134) (tgt := 166) dX7_listFirst_131 (by decide) rfl (fun c131 => ?_) (fun c131 => ?_)
        · refine V_aload_n (q := 167) dX7_listFirst_166 rfl rfl rfl ?_
          refine VM_getA (q := 170) 23 dX7_listFirst_167 rfl flX7_68 rfl rfl (Nat.succ_ne_zero _) ?_
          refine V_iload_n (q := 171) dX7_listFirst_170 rfl rfl rfl ?_
          refine VM_zald (q := 172) 22 dX7_listFirst_171 rfl rfl (by decide) rfl rfl (by omega) (fun z171 ez171 rz171 => ?_)
          refine V_if_eq (q := 175) (tgt := 178) dX7_listFirst_172 (by decide) rfl (fun c172 => ?_) (fun c172 => ?_)
          · have hc4f := (w.cnt z123 hr.1 (by omega)).1
            have hsz := hI.2.2.1
            refine V_aload_n (q := 179) dX7_listFirst_178 rfl rfl rfl ?_
            refine VM_getA (q := 182) 23 dX7_listFirst_179 rfl flX7_68 rfl rfl (Nat.succ_ne_zero _) ?_
            refine V_iload_n (q := 183) dX7_listFirst_182 rfl rfl rfl ?_
            refine V_iconst (q := 184) dX7_listFirst_183 rfl (by decide) ?_
            refine VM_zast (q := 185) 22 dX7_listFirst_184 rfl rfl (by decide) rfl rfl (by omega) (by omega) (fun M184 eM184 => ?_)
            have fM184 : ∀ k : Int, k ≠ 18 → k ≠ 20 → k ≠ 21 → k ≠ 22 → k ≠ 23 → M184 k = M k := by intro k h1 h2 h3 h4 h5; rw [eM184, mu_f _ _ _ _ h4]; exact fM1 k h1 h2 h3 h4 h5
            refine V_aload_n (q := 186) dX7_listFirst_185 rfl rfl rfl ?_
            refine VM_getA (q := 189) 24 dX7_listFirst_186 rfl flX7_71 rfl rfl (Nat.succ_ne_zero _) ?_
            refine V_iload_n (q := 190) dX7_listFirst_189 rfl rfl rfl ?_
            refine V_iconst (q := 191) dX7_listFirst_190 rfl (by decide) ?_
            refine VM_zast (q := 192) 23 dX7_listFirst_191 rfl rfl (by decide) rfl rfl (by omega) (by omega) (fun M191 eM191 => ?_)
            have fM191 : ∀ k : Int, k ≠ 18 → k ≠ 20 → k ≠ 21 → k ≠ 22 → k ≠ 23 → M191 k = M k := by intro k h1 h2 h3 h4 h5; rw [eM191, mu_f _ _ _ _ h5]; exact fM184 k h1 h2 h3 h4 h5
            refine V_iinc (q := 195) dX7_listFirst_192 rfl rfl (by decide) rfl (by omega) (fun z192 lz192 ez192 hlz192 => ?_)
            obtain rfl : lz192 = [(3, 0), (0, t), (0, z192), (0, z123), (9, 0)] := hlz192
            refine V_aload_n (q := 196) dX7_listFirst_195 rfl rfl rfl ?_
            refine VM_getA (q := 199) 5 dX7_listFirst_196 rfl flX7_20 rfl rfl (Nat.succ_ne_zero _) ?_
            refine V_iload_n (q := 200) dX7_listFirst_199 rfl rfl rfl ?_
            refine VM_iald (q := 201) 4 dX7_listFirst_200 rfl rfl (by decide) rfl rfl (by omega) (fun z200 ez200 rz200 => ?_)
            rw [fM191 4 (by decide) (by decide) (by decide) (by decide) (by decide)] at ez200
            refine V_iconst (q := 202) dX7_listFirst_201 rfl (by decide) ?_
            refine V_isub (q := 203) dX7_listFirst_202 rfl (by omega) (fun z202 ez202 => ?_)
            refine V_istore (q := 205) (lv1 := [(3, 0), (0, t), (0, z192), (0, z123), (0, z202)]) dX7_listFirst_203 rfl (by decide) rfl rfl ?_
            have inner : ∀ (k n1 : Int) (M2 : Mem), (-1 ≤ k ∧ k < M 4 z123 ∧ n1 = n + (M 4 z123 - 1 - k) ∧ (∀ k : Int, k ≠ 18 → k ≠ 22 → k ≠ 23 → M2 k = M1 k) ∧ M2 22 z123 = 1 ∧ (∀ x, x ≠ z123 → M2 22 x = M1 22 x) ∧ (∀ i : Int, 0 ≤ i → i < n → M2 18 i = M1 18 i) ∧ M2 23 z115 = 1 ∧ (∀ i : Int, 0 ≤ i → i < z115 → M2 23 i = M1 23 i) ∧ (∀ j : Int, 0 ≤ j → j < M 4 z123 - 1 - k → M2 18 (n + j) = M 5 (4 * z123 + (M 4 z123 - 1 - j)) ∧ M2 23 (n + j) = 0)) → V Γ (gα αC) ad0 (ZM Γ (gα αC) ad0 (mQ αC C (mN fun M1 => (∀ k : Int, k ≠ 18 → k ≠ 20 → k ≠ 21 → k ≠ 22 → k ≠ 23 → M1 k = M k) ∧ M1 21 0 = (LF M t).length ∧ (LF M t).length ≤ 41 ∧ (∀ k : Int, 0 ≤ k → k < (LF M t).length → M1 20 k = (LF M t).getD k.toNat 0))) 0 0) (RM 0 0 0) RX7 cX7_listFirst 5 none yX7_listFirst.name 205 [] [(3, 0), (0, t), (0, n1), (0, z123), (0, k)] (gα αC) (mm M2 C) 0 0 := by
              refine loop3 _ (fun k _ _ => (k + 1).toNat) _ ?_
              rintro k n1 M2 ⟨j0, j1, j2, j3, j4, j5, j6, j7, j8, j9⟩ ih2
              have fM2 : ∀ k : Int, k ≠ 18 → k ≠ 20 → k ≠ 21 → k ≠ 22 → k ≠ 23 → M2 k = M k := fun k h1 h2 h3 h4 h5 => (j3 k h1 h4 h5).trans (fM1 k h1 h2 h3 h4 h5)
              refine V_iload (q := 207) dX7_listFirst_205 rfl rfl ?_
              refine V_if_lt (q := 210) (tgt := 243) dX7_listFirst_207 (by decide) rfl (fun c207 => ?_) (fun c207 => ?_)
              · refine V_goto (tgt := 111) dX7_listFirst_243 (by decide) ?_
                refine V_fgt [(3, 0), (0, t), (0, n1), (9, 0), (9, 0)] ⟨Or.inl rfl, Or.inl rfl, Or.inl rfl, Or.inr rfl, Or.inr rfl, trivial⟩ ?_
                obtain ⟨hL, hcz⟩ := LFI_push w hI hpos (show z115 = n - 1 by omega) ez123.symm (by rw [← ez130]; exact c131) (by rw [← ez171]; exact c172) j3 j4 j5 j6 j7 j8 (fun j jj0 jj1 => j9 j jj0 (by omega))
                exact ih n1 M2 (up1 P z123) out (by omega) (by rw [show n1 = n + M 4 z123 by omega]; exact hL) (by omega)
              · have hfc := w.face z123 k hr.1 hr.2 (by omega) (by omega)
                refine V_aload_n (q := 211) dX7_listFirst_210 rfl rfl rfl ?_
                refine VM_getA (q := 214) 19 dX7_listFirst_211 rfl flX7_59 rfl rfl (Nat.succ_ne_zero _) ?_
                refine V_iload_n (q := 215) dX7_listFirst_214 rfl rfl rfl ?_
                refine V_aload_n (q := 216) dX7_listFirst_215 rfl rfl rfl ?_
                refine VM_getA (q := 219) 6 dX7_listFirst_216 rfl flX7_23 rfl rfl (Nat.succ_ne_zero _) ?_
                refine V_iconst (q := 220) dX7_listFirst_219 rfl (by decide) ?_
                refine V_iload_n (q := 221) dX7_listFirst_220 rfl rfl rfl ?_
                refine V_imul (q := 222) dX7_listFirst_221 rfl (by omega) (fun z221 ez221 => ?_)
                refine V_iload (q := 224) dX7_listFirst_222 rfl rfl ?_
                refine V_iadd (q := 225) dX7_listFirst_224 rfl (by omega) (fun z224 ez224 => ?_)
                refine VM_iald (q := 226) 5 dX7_listFirst_225 rfl rfl (by decide) rfl rfl (by omega) (fun z225 ez225 rz225 => ?_)
                rw [fM2 5 (by decide) (by decide) (by decide) (by decide) (by decide)] at ez225
                refine VM_iast (q := 227) 18 dX7_listFirst_226 rfl rfl (by decide) rfl rfl (by omega) (fun M226 eM226 => ?_)
                have fM226 : ∀ k : Int, k ≠ 18 → k ≠ 20 → k ≠ 21 → k ≠ 22 → k ≠ 23 → M226 k = M k := by intro k h1 h2 h3 h4 h5; rw [eM226, mu_f _ _ _ _ h1]; exact fM2 k h1 h2 h3 h4 h5
                refine V_aload_n (q := 228) dX7_listFirst_227 rfl rfl rfl ?_
                refine VM_getA (q := 231) 24 dX7_listFirst_228 rfl flX7_71 rfl rfl (Nat.succ_ne_zero _) ?_
                refine V_iload_n (q := 232) dX7_listFirst_231 rfl rfl rfl ?_
                refine V_iconst (q := 233) dX7_listFirst_232 rfl (by decide) ?_
                refine VM_zast (q := 234) 23 dX7_listFirst_233 rfl rfl (by decide) rfl rfl (by omega) (by omega) (fun M233 eM233 => ?_)
                have fM233 : ∀ k : Int, k ≠ 18 → k ≠ 20 → k ≠ 21 → k ≠ 22 → k ≠ 23 → M233 k = M k := by intro k h1 h2 h3 h4 h5; rw [eM233, mu_f _ _ _ _ h5]; exact fM226 k h1 h2 h3 h4 h5
                refine V_iinc (q := 237) dX7_listFirst_234 rfl rfl (by decide) rfl (by omega) (fun z234 lz234 ez234 hlz234 => ?_)
                obtain rfl : lz234 = [(3, 0), (0, t), (0, z234), (0, z123), (0, k)] := hlz234
                refine V_iinc (q := 240) dX7_listFirst_237 rfl rfl (by decide) rfl (by omega) (fun z237 lz237 ez237 hlz237 => ?_)
                obtain rfl : lz237 = [(3, 0), (0, t), (0, z234), (0, z123), (0, z237)] := hlz237
                refine V_goto (tgt := 205) dX7_listFirst_240 (by decide) ?_
                exact ih2 (z237) (z234) M233 ⟨by omega, by omega, by omega, fun k a1 a2 a3 => by { rw [eM233, mu_f _ _ _ _ a3, eM226, mu_f _ _ _ _ a1]; exact j3 k a1 a2 a3 }, by rw [eM233, mu_f _ _ _ _ (by decide), eM226, mu_f _ _ _ _ (by decide)]; exact j4, fun x hx => by rw [eM233, mu_f _ _ _ _ (by decide), eM226, mu_f _ _ _ _ (by decide)]; exact j5 x hx, fun i i0 i1 => by rw [eM233, mu_f _ _ _ _ (by decide), eM226, mu_i _ _ _ _ (by omega)]; exact j6 i i0 i1, by rw [eM233, mu_i _ _ _ _ (by omega), eM226, mu_f _ _ _ _ (by decide)]; exact j7, fun i i0 i1 => by rw [eM233, mu_i _ _ _ _ (by omega), eM226, mu_f _ _ _ _ (by decide)]; exact j8 i i0 i1, fun j jj0 jj1 => by { rw [eM233]; by_cases hj : n + j = n1; { constructor; { rw [hj, mu_f _ _ _ _ (by decide : (18 : Int) ≠ 23), eM226, mu_s, ez225, show z224 = 4 * z123 + (M 4 z123 - 1 - j) by omega] }; { rw [hj, mu_s] } }; { constructor; { rw [mu_f _ _ _ _ (by decide : (18 : Int) ≠ 23), eM226, mu_i _ _ _ _ hj]; exact (j9 j jj0 (by omega)).1 }; { rw [mu_i _ _ _ _ hj, eM226, mu_f _ _ _ _ (by decide : (23 : Int) ≠ 18)]; exact (j9 j jj0 (by omega)).2 } } }⟩ (by omega)
            exact inner (z202) (z192) M191 ⟨by omega, by omega, by omega, fun k a1 a2 a3 => by rw [eM191, mu_f _ _ _ _ a3, eM184, mu_f _ _ _ _ a2], by rw [eM191, mu_f _ _ _ _ (by decide), eM184, mu_s], fun x hx => by rw [eM191, mu_f _ _ _ _ (by decide), eM184, mu_i _ _ _ _ hx], fun i i0 i1 => by rw [eM191, mu_f _ _ _ _ (by decide), eM184, mu_f _ _ _ _ (by decide)], by rw [eM191, mu_s], fun i i0 i1 => by rw [eM191, mu_i _ _ _ _ (by omega), eM184, mu_f _ _ _ _ (by decide)], fun j jj0 jj1 => absurd jj1 (by omega)⟩
          · refine V_goto (tgt := 111) dX7_listFirst_175 (by decide) ?_
            refine V_fgt [(3, 0), (0, t), (0, z115), (9, 0), (9, 0)] ⟨Or.inl rfl, Or.inl rfl, Or.inl rfl, Or.inr rfl, Or.inr rfl, trivial⟩ ?_
            exact ih (z115) M1 P out (by omega) (LFI_skip w hI hpos (by omega) (by rw [← ez130]; exact c131) (by rw [← ez123, ← ez171]; omega)) (by omega)
        · refine V_aload_n (q := 135) dX7_listFirst_134 rfl rfl rfl ?_
          refine VM_getA (q := 138) 3 dX7_listFirst_135 rfl flX7_13 rfl rfl (Nat.succ_ne_zero _) ?_
          refine V_iload_n (q := 139) dX7_listFirst_138 rfl rfl rfl ?_
          refine VM_zald (q := 140) 2 dX7_listFirst_139 rfl rfl (by decide) rfl rfl (by omega) (fun z139 ez139 rz139 => ?_)
          rw [fM1 2 (by decide) (by decide) (by decide) (by decide) (by decide)] at ez139
          refine V_if_eq (q := 143) (tgt := 111) dX7_listFirst_140 (by decide) rfl (fun c140 => ?_) (fun c140 => ?_)
          · refine V_fgt [(3, 0), (0, t), (0, z115), (9, 0), (9, 0)] ⟨Or.inl rfl, Or.inl rfl, Or.inl rfl, Or.inr rfl, Or.inr rfl, trivial⟩ ?_
            exact ih (z115) M1 P out (by omega) (LFI_noemit hI hpos (by omega) (by rw [← ez130]; omega) (by rw [← ez123, ← ez139]; omega)) (by omega)
          · have hl21 := hI.2.2.2.2.2.2.1
            have hl41 := hI.2.2.2.1
            have hce : cnt1 (M1 23) n.toNat = cnt1 (M1 23) z115.toNat + 1 := by { rw [show n.toNat = z115.toNat + 1 by omega, cnt1_s, show ((z115.toNat : Nat) : Int) = z115 by omega, if_pos (by omega)] }
            refine V_aload_n (q := 144) dX7_listFirst_143 rfl rfl rfl ?_
            refine VM_getA (q := 147) 21 dX7_listFirst_144 rfl flX7_65 rfl rfl (Nat.succ_ne_zero _) ?_
            refine V_aload_n (q := 148) dX7_listFirst_147 rfl rfl rfl ?_
            refine VM_getI (q := 151) 21 dX7_listFirst_148 rfl flX7_164 rfl rfl rfl (fun z148 ez148 rz148 => ?_)
            refine V_iload_n (q := 152) dX7_listFirst_151 rfl rfl rfl ?_
            refine VM_iast (q := 153) 20 dX7_listFirst_152 rfl rfl (by decide) rfl rfl (by omega) (fun M152 eM152 => ?_)
            have fM152 : ∀ k : Int, k ≠ 18 → k ≠ 20 → k ≠ 21 → k ≠ 22 → k ≠ 23 → M152 k = M k := by intro k h1 h2 h3 h4 h5; rw [eM152, mu_f _ _ _ _ h2]; exact fM1 k h1 h2 h3 h4 h5
            refine V_aload_n (q := 154) dX7_listFirst_153 rfl rfl rfl ?_
            refine V_dup (q := 155) dX7_listFirst_154 rfl (by decide) ?_
            refine VM_getI (q := 158) 21 dX7_listFirst_155 rfl flX7_164 rfl rfl rfl (fun z155 ez155 rz155 => ?_)
            rw [eM152, mu_f _ _ _ _ (by decide)] at ez155
            refine V_iconst (q := 159) dX7_listFirst_158 rfl (by decide) ?_
            refine V_iadd (q := 160) dX7_listFirst_159 rfl (by omega) (fun z159 ez159 => ?_)
            refine VM_putI (q := 163) 21 dX7_listFirst_160 rfl flX7_164 rfl rfl rfl rfl (fun M160 eM160 => ?_)
            have fM160 : ∀ k : Int, k ≠ 18 → k ≠ 20 → k ≠ 21 → k ≠ 22 → k ≠ 23 → M160 k = M k := by intro k h1 h2 h3 h4 h5; rw [eM160, mu_f _ _ _ _ h3]; exact fM152 k h1 h2 h3 h4 h5
            refine V_goto (tgt := 111) dX7_listFirst_163 (by decide) ?_
            refine V_fgt [(3, 0), (0, t), (0, z115), (9, 0), (9, 0)] ⟨Or.inl rfl, Or.inl rfl, Or.inl rfl, Or.inr rfl, Or.inr rfl, trivial⟩ ?_
            exact ih (z115) M160 P (out ++ [M1 18 z115]) (by omega) (LFI_emit hI hpos (by omega) (by rw [← ez130]; omega) (by rw [← ez123, ← ez139]; omega) (fun k a1 a2 => by rw [eM160, mu_f _ _ _ _ a2, eM152, mu_f _ _ _ _ a1]) (by rw [eM160, mu_s]; omega) (by rw [eM160, mu_f _ _ _ _ (by decide), eM152, ← hl21, ← ez148, mu_s, ez123]) (fun k a1 => by rw [eM160, mu_f _ _ _ _ (by decide), eM152, mu_i _ _ _ _ (by omega)])) (by rw [eM160, mu_f _ _ _ _ (by decide), eM152, mu_f _ _ _ _ (by decide)]; omega)
    exact fun n M1 P out h1 h2 => outer4 n M1 P out ⟨h1, h2⟩
  have push : ∀ (n k : Int) (M1 : Mem), (M 1 t ≠ 1 ∧ n = M 4 t - 1 - k ∧ -1 ≤ k ∧ k < M 4 t ∧ (∀ k : Int, k ≠ 18 → k ≠ 20 → k ≠ 21 → k ≠ 22 → k ≠ 23 → M1 k = M k) ∧ M1 21 0 = (if M 3 t < 0 then [] else [M 3 t] : List Int).length ∧ (∀ k : Int, 0 ≤ k → k < (if M 3 t < 0 then [] else [M 3 t] : List Int).length → M1 20 k = (if M 3 t < 0 then [] else [M 3 t] : List Int).getD k.toNat 0) ∧ (∀ i : Int, 0 ≤ i → i < M 0 0 → M1 22 i = 0) ∧ (∀ j : Int, 0 ≤ j → j < n → M1 18 j = M 5 (4 * t + (M 4 t - 1 - j)) ∧ M1 23 j = 0)) → V Γ (gα αC) ad0 (ZM Γ (gα αC) ad0 (mQ αC C (mN fun M1 => (∀ k : Int, k ≠ 18 → k ≠ 20 → k ≠ 21 → k ≠ 22 → k ≠ 23 → M1 k = M k) ∧ M1 21 0 = (LF M t).length ∧ (LF M t).length ≤ 41 ∧ (∀ k : Int, 0 ≤ k → k < (LF M t).length → M1 20 k = (LF M t).getD k.toNat 0))) 0 0) (RM 0 0 0) RX7 cX7_listFirst 5 none yX7_listFirst.name 75 [] [(3, 0), (0, t), (0, n), (0, k), (9, 0)] (gα αC) (mm M1 C) 0 0 := by
    refine loop3 _ (fun _ k _ => (k + 1).toNat) _ ?_
    rintro n k M1 ⟨hface, p1, p2, pk, p3, p4, p5, p6, p7⟩ ih
    have fM1 := p3
    refine V_iload_n (q := 76) dX7_listFirst_75 rfl rfl rfl ?_
    refine V_if_lt (q := 79) (tgt := 111) dX7_listFirst_76 (by decide) rfl (fun c76 => ?_) (fun c76 => ?_)
    · refine V_fgt [(3, 0), (0, t), (0, n), (9, 0), (9, 0)] ⟨Or.inl rfl, Or.inl rfl, Or.inl rfl, Or.inr rfl, Or.inr rfl, trivial⟩ ?_
      exact outer n M1 (fun _ => 0) (if M 3 t < 0 then [] else [M 3 t] : List Int) hface (LFI_init w ht.1 ht.2 (by omega) p3 p4 p5 p6 (fun j j0 j1 => p7 j j0 (by omega)) (by omega))
    · have hfc := w.face t k ht.1 ht.2 (by omega) (by omega)
      refine V_aload_n (q := 80) dX7_listFirst_79 rfl rfl rfl ?_
      refine VM_getA (q := 83) 19 dX7_listFirst_80 rfl flX7_59 rfl rfl (Nat.succ_ne_zero _) ?_
      refine V_iload_n (q := 84) dX7_listFirst_83 rfl rfl rfl ?_
      refine V_aload_n (q := 85) dX7_listFirst_84 rfl rfl rfl ?_
      refine VM_getA (q := 88) 6 dX7_listFirst_85 rfl flX7_23 rfl rfl (Nat.succ_ne_zero _) ?_
      refine V_iconst (q := 89) dX7_listFirst_88 rfl (by decide) ?_
      refine V_iload_n (q := 90) dX7_listFirst_89 rfl rfl rfl ?_
      refine V_imul (q := 91) dX7_listFirst_90 rfl (by omega) (fun z90 ez90 => ?_)
      refine V_iload_n (q := 92) dX7_listFirst_91 rfl rfl rfl ?_
      refine V_iadd (q := 93) dX7_listFirst_92 rfl (by omega) (fun z92 ez92 => ?_)
      refine VM_iald (q := 94) 5 dX7_listFirst_93 rfl rfl (by decide) rfl rfl (by omega) (fun z93 ez93 rz93 => ?_)
      rw [fM1 5 (by decide) (by decide) (by decide) (by decide) (by decide)] at ez93
      refine VM_iast (q := 95) 18 dX7_listFirst_94 rfl rfl (by decide) rfl rfl (by omega) (fun M94 eM94 => ?_)
      have fM94 : ∀ k : Int, k ≠ 18 → k ≠ 20 → k ≠ 21 → k ≠ 22 → k ≠ 23 → M94 k = M k := by intro k h1 h2 h3 h4 h5; rw [eM94, mu_f _ _ _ _ h1]; exact fM1 k h1 h2 h3 h4 h5
      refine V_aload_n (q := 96) dX7_listFirst_95 rfl rfl rfl ?_
      refine VM_getA (q := 99) 24 dX7_listFirst_96 rfl flX7_71 rfl rfl (Nat.succ_ne_zero _) ?_
      refine V_iload_n (q := 100) dX7_listFirst_99 rfl rfl rfl ?_
      refine V_iconst (q := 101) dX7_listFirst_100 rfl (by decide) ?_
      refine VM_zast (q := 102) 23 dX7_listFirst_101 rfl rfl (by decide) rfl rfl (by omega) (by omega) (fun M101 eM101 => ?_)
      have fM101 : ∀ k : Int, k ≠ 18 → k ≠ 20 → k ≠ 21 → k ≠ 22 → k ≠ 23 → M101 k = M k := by intro k h1 h2 h3 h4 h5; rw [eM101, mu_f _ _ _ _ h5]; exact fM94 k h1 h2 h3 h4 h5
      refine V_iinc (q := 105) dX7_listFirst_102 rfl rfl (by decide) rfl (by omega) (fun z102 lz102 ez102 hlz102 => ?_)
      obtain rfl : lz102 = [(3, 0), (0, t), (0, z102), (0, k), (9, 0)] := hlz102
      refine V_iinc (q := 108) dX7_listFirst_105 rfl rfl (by decide) rfl (by omega) (fun z105 lz105 ez105 hlz105 => ?_)
      obtain rfl : lz105 = [(3, 0), (0, t), (0, z102), (0, z105), (9, 0)] := hlz105
      refine V_goto (tgt := 75) dX7_listFirst_108 (by decide) ?_
      exact ih (z102) (z105) M101 ⟨hface, by omega, by omega, by omega, fM101, by rw [eM101, mu_f _ _ _ _ (by decide), eM94, mu_f _ _ _ _ (by decide)]; exact p4, fun k k0 k1 => by { rw [eM101, mu_f _ _ _ _ (by decide), eM94, mu_f _ _ _ _ (by decide)]; exact p5 k k0 k1 }, fun j j0 j1 => by { rw [eM101, mu_f _ _ _ _ (by decide), eM94, mu_f _ _ _ _ (by decide)]; exact p6 j j0 j1 }, fun j j0 j1 => by { rw [eM101]; by_cases hj : j = n; { constructor; { rw [hj, mu_f _ _ _ _ (by decide : (18 : Int) ≠ 23), eM94, mu_s, ez93, show z92 = 4 * t + (M 4 t - 1 - n) by omega] }; { rw [hj, mu_s] } }; { constructor; { rw [mu_f _ _ _ _ (by decide : (18 : Int) ≠ 23), eM94, mu_i _ _ _ _ hj]; exact (p7 j j0 (by omega)).1 }; { rw [mu_i _ _ _ _ hj, eM94, mu_f _ _ _ _ (by decide : (23 : Int) ≠ 18)]; exact (p7 j j0 (by omega)).2 } } }⟩ (by omega)
  have clr : ∀ (i : Int) (M1 : Mem), (0 ≤ i ∧ i ≤ M 0 0 ∧ (∀ k : Int, k ≠ 18 → k ≠ 20 → k ≠ 21 → k ≠ 22 → k ≠ 23 → M1 k = M k) ∧ M1 21 0 = (if M 3 t < 0 then [] else [M 3 t] : List Int).length ∧ (∀ k : Int, 0 ≤ k → k < (if M 3 t < 0 then [] else [M 3 t] : List Int).length → M1 20 k = (if M 3 t < 0 then [] else [M 3 t] : List Int).getD k.toNat 0) ∧ (∀ j : Int, 0 ≤ j → j < i → M1 22 j = 0)) → M 1 t ≠ 1 → V Γ (gα αC) ad0 (ZM Γ (gα αC) ad0 (mQ αC C (mN fun M1 => (∀ k : Int, k ≠ 18 → k ≠ 20 → k ≠ 21 → k ≠ 22 → k ≠ 23 → M1 k = M k) ∧ M1 21 0 = (LF M t).length ∧ (LF M t).length ≤ 41 ∧ (∀ k : Int, 0 ≤ k → k < (LF M t).length → M1 20 k = (LF M t).getD k.toNat 0))) 0 0) (RM 0 0 0) RX7 cX7_listFirst 5 none yX7_listFirst.name 43 [] [(3, 0), (0, t), (0, i), (9, 0), (9, 0)] (gα αC) (mm M1 C) 0 0 := by
    intro i M1 hh hface
    revert hh
    revert i M1
    refine loop2 _ (fun i _ => (M 0 0 - i).toNat) _ ?_
    rintro i M1 ⟨g1, g2, g3, g4, g5, g6⟩ ih
    have fM1 := g3
    refine V_iload_n (q := 44) dX7_listFirst_43 rfl rfl rfl ?_
    refine V_aload_n (q := 45) dX7_listFirst_44 rfl rfl rfl ?_
    refine VM_getI (q := 48) 0 dX7_listFirst_45 rfl flX7_128 rfl rfl rfl (fun z45 ez45 rz45 => ?_)
    rw [fM1 0 (by decide) (by decide) (by decide) (by decide) (by decide)] at ez45
    refine V_icmp_ge (q := 51) (tgt := 64) dX7_listFirst_48 (by decide) rfl (fun c48 => ?_) (fun c48 => ?_)
    · refine V_iconst (q := 65) dX7_listFirst_64 rfl (by decide) ?_
      refine V_istore_n (q := 66) (lv1 := [(3, 0), (0, t), (0, 0), (9, 0), (9, 0)]) dX7_listFirst_65 rfl rfl (by decide) rfl rfl ?_
      refine V_aload_n (q := 67) dX7_listFirst_66 rfl rfl rfl ?_
      refine VM_getA (q := 70) 5 dX7_listFirst_67 rfl flX7_20 rfl rfl (Nat.succ_ne_zero _) ?_
      refine V_iload_n (q := 71) dX7_listFirst_70 rfl rfl rfl ?_
      refine VM_iald (q := 72) 4 dX7_listFirst_71 rfl rfl (by decide) rfl rfl (by omega) (fun z71 ez71 rz71 => ?_)
      rw [fM1 4 (by decide) (by decide) (by decide) (by decide) (by decide)] at ez71
      refine V_iconst (q := 73) dX7_listFirst_72 rfl (by decide) ?_
      refine V_isub (q := 74) dX7_listFirst_73 rfl (by omega) (fun z73 ez73 => ?_)
      refine V_istore_n (q := 75) (lv1 := [(3, 0), (0, t), (0, 0), (0, z73), (9, 0)]) dX7_listFirst_74 rfl rfl (by decide) rfl rfl ?_
      exact push (0) (z73) M1 ⟨hface, by omega, by omega, by omega, fM1, g4, g5, fun j j0 j1 => g6 j j0 (by omega), fun j j0 j1 => absurd j1 (by omega)⟩
    · refine V_aload_n (q := 52) dX7_listFirst_51 rfl rfl rfl ?_
      refine VM_getA (q := 55) 23 dX7_listFirst_52 rfl flX7_68 rfl rfl (Nat.succ_ne_zero _) ?_
      refine V_iload_n (q := 56) dX7_listFirst_55 rfl rfl rfl ?_
      refine V_iconst (q := 57) dX7_listFirst_56 rfl (by decide) ?_
      refine VM_zast (q := 58) 22 dX7_listFirst_57 rfl rfl (by decide) rfl rfl (by omega) (by omega) (fun M57 eM57 => ?_)
      have fM57 : ∀ k : Int, k ≠ 18 → k ≠ 20 → k ≠ 21 → k ≠ 22 → k ≠ 23 → M57 k = M k := by intro k h1 h2 h3 h4 h5; rw [eM57, mu_f _ _ _ _ h4]; exact fM1 k h1 h2 h3 h4 h5
      refine V_iinc (q := 61) dX7_listFirst_58 rfl rfl (by decide) rfl (by omega) (fun z58 lz58 ez58 hlz58 => ?_)
      obtain rfl : lz58 = [(3, 0), (0, t), (0, z58), (9, 0), (9, 0)] := hlz58
      refine V_goto (tgt := 43) dX7_listFirst_61 (by decide) ?_
      exact ih (z58) M57 ⟨by omega, by omega, fM57, by rw [eM57, mu_f _ _ _ _ (by decide)]; exact g4, fun k k0 k1 => by { rw [eM57, mu_f _ _ _ _ (by decide)]; exact g5 k k0 k1 }, fun j j0 j1 => by { rw [eM57]; by_cases hj : j = i; { rw [hj, mu_s] }; { rw [mu_i _ _ _ _ hj]; exact g6 j j0 (by omega) } }⟩ (by omega)
  refine V_aload_n (q := 1) dX7_listFirst_0 rfl rfl rfl ?_
  refine V_iconst (q := 2) dX7_listFirst_1 rfl (by decide) ?_
  refine VM_putI (q := 5) 21 dX7_listFirst_2 rfl flX7_164 rfl rfl rfl rfl (fun M2 eM2 => ?_)
  have fM2 : ∀ k : Int, k ≠ 18 → k ≠ 20 → k ≠ 21 → k ≠ 22 → k ≠ 23 → M2 k = M k := by intro k h1 h2 h3 h4 h5; rw [eM2, mu_f _ _ _ _ h3]
  refine V_aload_n (q := 6) dX7_listFirst_5 rfl rfl rfl ?_
  refine VM_getA (q := 9) 2 dX7_listFirst_6 rfl flX7_7 rfl rfl (Nat.succ_ne_zero _) ?_
  refine V_iload_n (q := 10) dX7_listFirst_9 rfl rfl rfl ?_
  refine VM_zald (q := 11) 1 dX7_listFirst_10 rfl rfl (by decide) rfl rfl (by omega) (fun z10 ez10 rz10 => ?_)
  rw [fM2 1 (by decide) (by decide) (by decide) (by decide) (by decide)] at ez10
  refine V_if_eq (q := 14) (tgt := 15) dX7_listFirst_11 (by decide) rfl (fun c11 => ?_) (fun c11 => ?_)
  · have hface : M 1 t ≠ 1 := by omega
    refine V_aload_n (q := 16) dX7_listFirst_15 rfl rfl rfl ?_
    refine VM_getA (q := 19) 4 dX7_listFirst_16 rfl flX7_16 rfl rfl (Nat.succ_ne_zero _) ?_
    refine V_iload_n (q := 20) dX7_listFirst_19 rfl rfl rfl ?_
    refine VM_iald (q := 21) 3 dX7_listFirst_20 rfl rfl (by decide) rfl rfl (by omega) (fun z20 ez20 rz20 => ?_)
    rw [fM2 3 (by decide) (by decide) (by decide) (by decide) (by decide)] at ez20
    refine V_if_lt (q := 24) (tgt := 41) dX7_listFirst_21 (by decide) rfl (fun c21 => ?_) (fun c21 => ?_)
    · refine V_iconst (q := 42) dX7_listFirst_41 rfl (by decide) ?_
      refine V_istore_n (q := 43) (lv1 := [(3, 0), (0, t), (0, 0), (9, 0), (9, 0)]) dX7_listFirst_42 rfl rfl (by decide) rfl rfl ?_
      exact clr 0 M2 ⟨by decide, hn0.1, fM2, by rw [eM2, mu_s, if_pos (by omega)]; rfl, fun k k0 k1 => by { rw [if_pos (by omega)] at k1; exact absurd k1 (by simp only [List.length_nil]; omega) }, fun i i0 i1 => absurd i1 (by omega)⟩ hface
    · refine V_aload_n (q := 25) dX7_listFirst_24 rfl rfl rfl ?_
      refine VM_getA (q := 28) 21 dX7_listFirst_25 rfl flX7_65 rfl rfl (Nat.succ_ne_zero _) ?_
      refine V_iconst (q := 29) dX7_listFirst_28 rfl (by decide) ?_
      refine V_aload_n (q := 30) dX7_listFirst_29 rfl rfl rfl ?_
      refine VM_getA (q := 33) 4 dX7_listFirst_30 rfl flX7_16 rfl rfl (Nat.succ_ne_zero _) ?_
      refine V_iload_n (q := 34) dX7_listFirst_33 rfl rfl rfl ?_
      refine VM_iald (q := 35) 3 dX7_listFirst_34 rfl rfl (by decide) rfl rfl (by omega) (fun z34 ez34 rz34 => ?_)
      rw [fM2 3 (by decide) (by decide) (by decide) (by decide) (by decide)] at ez34
      refine VM_iast (q := 36) 20 dX7_listFirst_35 rfl rfl (by decide) rfl rfl (by omega) (fun M35 eM35 => ?_)
      have fM35 : ∀ k : Int, k ≠ 18 → k ≠ 20 → k ≠ 21 → k ≠ 22 → k ≠ 23 → M35 k = M k := by intro k h1 h2 h3 h4 h5; rw [eM35, mu_f _ _ _ _ h2]; exact fM2 k h1 h2 h3 h4 h5
      refine V_aload_n (q := 37) dX7_listFirst_36 rfl rfl rfl ?_
      refine V_iconst (q := 38) dX7_listFirst_37 rfl (by decide) ?_
      refine VM_putI (q := 41) 21 dX7_listFirst_38 rfl flX7_164 rfl rfl rfl rfl (fun M38 eM38 => ?_)
      have fM38 : ∀ k : Int, k ≠ 18 → k ≠ 20 → k ≠ 21 → k ≠ 22 → k ≠ 23 → M38 k = M k := by intro k h1 h2 h3 h4 h5; rw [eM38, mu_f _ _ _ _ h3]; exact fM35 k h1 h2 h3 h4 h5
      refine V_iconst (q := 42) dX7_listFirst_41 rfl (by decide) ?_
      refine V_istore_n (q := 43) (lv1 := [(3, 0), (0, t), (0, 0), (9, 0), (9, 0)]) dX7_listFirst_42 rfl rfl (by decide) rfl rfl ?_
      exact clr 0 M38 ⟨by decide, hn0.1, fM38, by rw [eM38, mu_s, if_neg (by omega)]; rfl, fun k k0 k1 => by { rw [if_neg (by omega)] at k1 ⊢; simp only [List.length_singleton] at k1; rw [show k = 0 by omega, eM38, mu_f _ _ _ _ (by decide), eM35, mu_s, ez34]; rfl }, fun i i0 i1 => absurd i1 (by omega)⟩ hface
  · have hLF : LF M t = [] := by unfold LF; rw [if_pos (by omega)]
    exact VM_vret dX7_listFirst_14 ⟨rfl, fM2, by rw [eM2, mu_s, hLF]; rfl, by rw [hLF]; exact Nat.zero_le _, fun k k0 k1 => by { rw [hLF] at k1; exact absurd k1 (by simp only [List.length_nil]; omega) }⟩
