/-! THE REFERENCE'S TOUCH MACHINE: go -/
def preD (f : Int) (M : Mem) : Prop := WFD M ∧ RG M ∧ f = M 38 0 - 1 ∧ 0 ≤ f ∧ (M 39 f ≠ 0 → 0 ≤ M 40 f ∧ M 40 f < M 0 0) ∧ (0 ≤ M 41 f ∧ M 41 f ≤ 100) ∧ (M 39 f = 0 → (-1 ≤ M 40 f ∧ M 40 f < 200) ∧ M 41 f ≤ 12 ∧ (M 42 f = -6 ∨ (0 ≤ M 42 f ∧ M 42 f ≤ M 41 f))) ∧ (0 ≤ M 51 0 ∧ M 51 0 ≤ 1000)
def preS (t f : Int) (M : Mem) : Prop := WFD M ∧ RG M ∧ f = M 38 0 - 1 ∧ 0 ≤ f ∧ M 40 f = t ∧ (0 ≤ t ∧ t < M 0 0) ∧ (0 ≤ M 41 f ∧ M 41 f ≤ 100) ∧ (0 ≤ M 32 (M 37 0) ∧ M 32 (M 37 0) ≤ 40) ∧ (M 41 f = (LF M t).length → M 32 (M 37 0) ≤ 39) ∧ (0 ≤ M 48 0 ∧ M 48 0 ≤ 1000)
def preB (k t n v f : Int) (M : Mem) : Prop := WFD M ∧ RG M ∧ f = M 38 0 - 1 ∧ FB M f ∧ (M 43 f ≠ 0 → 0 ≤ M 40 f → M 41 f ≤ 11) ∧ (M 41 f ≠ szM M f → 0 ≤ M 40 f → M 41 f ≤ 11) ∧ (0 ≤ M 45 0 ∧ M 45 0 ≤ 1000) ∧ atM M 53 13 f = k ∧ atM M 54 14 f = t ∧ atM M 55 15 f = n ∧ atM M 56 16 f = v ∧ (M 43 f ≠ 0 → 1 ≤ k → k ≤ 3 → 0 ≤ t ∧ t < M 0 0) ∧ (M 41 f ≠ szM M f → 1 ≤ k → k ≤ 6 → 0 ≤ t ∧ t < M 0 0) ∧ (M 43 f ≠ 0 → 1 ≤ k → k ≤ 2 → 0 ≤ FF M n t)
/-- what holds of the head of go's loop -/
def Mach (Q G : Mem → Prop) : Prop :=
  (∀ M : Mem, (M 38 0 ≤ 0 ∨ M 49 0 ≠ 0) → Q M → G M) ∧
  (∀ (M : Mem) (f : Int), 0 < M 38 0 → M 49 0 = 0 → M 50 0 ≠ 0 → preD f M → (∀ M1, dnP f M M1 → G M1) → G M) ∧
  (∀ (M : Mem) (t f : Int), 0 < M 38 0 → M 49 0 = 0 → M 50 0 = 0 → M 39 (M 38 0 - 1) ≠ 0 → preS t f M → (∀ Ms, SCf M Ms → G (gosM (LF M t) t f Ms)) → G M) ∧
  (∀ (M : Mem) (k t n v f : Int), 0 < M 38 0 → M 49 0 = 0 → M 50 0 = 0 → M 39 (M 38 0 - 1) = 0 → preB k t n v f M → (∀ M1, gokP k t n v f M M1 → G M1) → G M)
def goM (M : Mem) (x k t n v : Int) : Mem := mu (mu (mu (mu (mu (mu (mu (mu (mu (mu (mu (mu (mu (mu (mu (mu (mu (mu (mu (mu M 37 0 x) 38 0 0) 44 0 0) 45 0 0) 46 0 0) 47 0 0) 48 0 0) 49 0 0) 50 0 0) 53 0 k) 54 0 t) 55 0 n) 56 0 v) 39 0 0) 40 0 (-1)) 41 0 0) 42 0 (-6)) 43 0 0) 57 0 0) 38 0 1
theorem tX7_go {Γ : GC} {αC : Sh} {C M : Mem} {x k t n v : Int} {Q : Mem → Prop} (h : ∀ G : Mem → Prop, Mach Q G → G (goM M x k t n v)) : MM Γ yX7_go cX7_go 6 none 5 [(0, x), (0, k), (0, t), (0, n), (0, v)] αC C M (mN Q) := by
  refine MM_of (k := 0) [(3, 0), (0, x), (0, k), (0, t), (0, n), (0, v)] pn_X7_go rfl rfl rfl (fun ad0 => ?_)
  have hout : ∀ Mx : Mem, (Mx 38 0 ≤ 0 ∨ Mx 49 0 ≠ 0) → Q Mx → V Γ (gα αC) ad0 (ZM Γ (gα αC) ad0 (mQ αC C (mN Q)) 0 0) (RM 5 0 0) RX7 cX7_go 6 none yX7_go.name 115 [] [(3, 0), (0, x), (0, k), (0, t), (0, n), (0, v)] (gα αC) (mm Mx C) 0 0 := by
    intro Mx hc hq
    refine V_aload_n (q := 116) dX7_go_115 rfl rfl rfl ?_
    refine VM_getI (q := 119) 38 dX7_go_116 rfl flX7_213 rfl rfl rfl (fun z116 ez116 rz116 => ?_)
    refine V_if_le (q := 122) (tgt := 171) dX7_go_119 (by decide) rfl (fun c119 => ?_) (fun c119 => ?_)
    · exact VM_vret dX7_go_171 ⟨rfl, hq⟩
    · refine V_aload_n (q := 123) dX7_go_122 rfl rfl rfl ?_
      refine VM_getZ (q := 126) 49 dX7_go_123 rfl flX7_197 rfl rfl rfl (fun z123 ez123 rz123 => ?_)
      refine V_if_ne (q := 129) (tgt := 171) dX7_go_126 (by decide) rfl (fun c126 => ?_) (fun c126 => ?_)
      · exact VM_vret dX7_go_171 ⟨rfl, hq⟩
      · exfalso; omega
  have hdown : ∀ (Mx : Mem) (f : Int), 0 < Mx 38 0 → Mx 49 0 = 0 → Mx 50 0 ≠ 0 → preD f Mx → (∀ M1, dnP f Mx M1 → V Γ (gα αC) ad0 (ZM Γ (gα αC) ad0 (mQ αC C (mN Q)) 0 0) (RM 5 0 0) RX7 cX7_go 6 none yX7_go.name 115 [] [(3, 0), (0, x), (0, k), (0, t), (0, n), (0, v)] (gα αC) (mm M1 C) 0 0) → V Γ (gα αC) ad0 (ZM Γ (gα αC) ad0 (mQ αC C (mN Q)) 0 0) (RM 5 0 0) RX7 cX7_go 6 none yX7_go.name 115 [] [(3, 0), (0, x), (0, k), (0, t), (0, n), (0, v)] (gα αC) (mm Mx C) 0 0 := by
    rintro Mx f h1 h2 h3 ⟨p1, p2, p3, p4, p5, p6, p7, p8⟩ kk
    refine V_aload_n (q := 116) dX7_go_115 rfl rfl rfl ?_
    refine VM_getI (q := 119) 38 dX7_go_116 rfl flX7_213 rfl rfl rfl (fun z116_2 ez116_2 rz116_2 => ?_)
    refine V_if_le (q := 122) (tgt := 171) dX7_go_119 (by decide) rfl (fun c119_2 => ?_) (fun c119_2 => ?_)
    · exfalso; omega
    · refine V_aload_n (q := 123) dX7_go_122 rfl rfl rfl ?_
      refine VM_getZ (q := 126) 49 dX7_go_123 rfl flX7_197 rfl rfl rfl (fun z123_2 ez123_2 rz123_2 => ?_)
      refine V_if_ne (q := 129) (tgt := 171) dX7_go_126 (by decide) rfl (fun c126_2 => ?_) (fun c126_2 => ?_)
      · exfalso; omega
      · refine V_aload_n (q := 130) dX7_go_129 rfl rfl rfl ?_
        refine VM_getZ (q := 133) 50 dX7_go_130 rfl flX7_201 rfl rfl rfl (fun z130 ez130 rz130 => ?_)
        refine V_if_eq (q := 136) (tgt := 143) dX7_go_133 (by decide) rfl (fun c133 => ?_) (fun c133 => ?_)
        · exfalso; omega
        · refine V_aload_n (q := 137) dX7_go_136 rfl rfl rfl ?_
          refine VM_callN (q := 140) (As := []) (tX7_goDown (C := C) (M := Mx) p1 p2 p3 p4 p5 p6 p7 p8) dX7_go_137 rfl mlX7_271 mw_X7_goDown im_X7_goDown sl_X7_goDown md_X7_goDown rfl rfl rfl (by decide) (by decide) (Nat.le_refl _) (Nat.le_refl _) (Nat.le_of_ble_eq_true rfl) (fun M137 hM137 => ?_)
          refine V_goto (tgt := 115) dX7_go_140 (by decide) ?_
          exact kk M137 hM137
  have hstart : ∀ (Mx : Mem) (t1 f : Int), 0 < Mx 38 0 → Mx 49 0 = 0 → Mx 50 0 = 0 → Mx 39 (Mx 38 0 - 1) ≠ 0 → preS t1 f Mx → (∀ Ms, SCf Mx Ms → V Γ (gα αC) ad0 (ZM Γ (gα αC) ad0 (mQ αC C (mN Q)) 0 0) (RM 5 0 0) RX7 cX7_go 6 none yX7_go.name 115 [] [(3, 0), (0, x), (0, k), (0, t), (0, n), (0, v)] (gα αC) (mm (gosM (LF Mx t1) t1 f Ms) C) 0 0) → V Γ (gα αC) ad0 (ZM Γ (gα αC) ad0 (mQ αC C (mN Q)) 0 0) (RM 5 0 0) RX7 cX7_go 6 none yX7_go.name 115 [] [(3, 0), (0, x), (0, k), (0, t), (0, n), (0, v)] (gα αC) (mm Mx C) 0 0 := by
    rintro Mx t1 f h1 h2 h3 h4 ⟨p1, p2, p3, p4, p5, p6, p7, p8, p9, p10⟩ kk
    have hg38 := p2.2.1
    refine V_aload_n (q := 116) dX7_go_115 rfl rfl rfl ?_
    refine VM_getI (q := 119) 38 dX7_go_116 rfl flX7_213 rfl rfl rfl (fun z116_3 ez116_3 rz116_3 => ?_)
    refine V_if_le (q := 122) (tgt := 171) dX7_go_119 (by decide) rfl (fun c119_3 => ?_) (fun c119_3 => ?_)
    · exfalso; omega
    · refine V_aload_n (q := 123) dX7_go_122 rfl rfl rfl ?_
      refine VM_getZ (q := 126) 49 dX7_go_123 rfl flX7_197 rfl rfl rfl (fun z123_3 ez123_3 rz123_3 => ?_)
      refine V_if_ne (q := 129) (tgt := 171) dX7_go_126 (by decide) rfl (fun c126_3 => ?_) (fun c126_3 => ?_)
      · exfalso; omega
      · refine V_aload_n (q := 130) dX7_go_129 rfl rfl rfl ?_
        refine VM_getZ (q := 133) 50 dX7_go_130 rfl flX7_201 rfl rfl rfl (fun z130_2 ez130_2 rz130_2 => ?_)
        refine V_if_eq (q := 136) (tgt := 143) dX7_go_133 (by decide) rfl (fun c133_2 => ?_) (fun c133_2 => ?_)
        · refine V_aload_n (q := 144) dX7_go_143 rfl rfl rfl ?_
          refine VM_getA (q := 147) 40 dX7_go_144 rfl flX7_110 rfl rfl (Nat.succ_ne_zero _) ?_
          refine V_aload_n (q := 148) dX7_go_147 rfl rfl rfl ?_
          refine VM_getI (q := 151) 38 dX7_go_148 rfl flX7_213 rfl rfl rfl (fun z148 ez148 rz148 => ?_)
          refine V_iconst (q := 152) dX7_go_151 rfl (by decide) ?_
          refine V_isub (q := 153) dX7_go_152 rfl (by omega) (fun z152 ez152 => ?_)
          refine VM_zald (q := 154) 39 dX7_go_153 rfl rfl (by decide) rfl rfl (by omega) (fun z153 ez153 rz153 => ?_)
          simp only [ez116_3, ez123_3, ez130_2, ez148, ez152] at ez153
          refine V_if_eq (q := 157) (tgt := 164) dX7_go_154 (by decide) rfl (fun c154 => ?_) (fun c154 => ?_)
          · exfalso; omega
          · refine V_aload_n (q := 158) dX7_go_157 rfl rfl rfl ?_
            refine VM_callN (q := 161) (As := []) (tX7_goOnStart (C := C) (M := Mx) p1 p2 p3 p4 p5 p6 p7 p8 p9 p10) dX7_go_158 rfl mlX7_274 mw_X7_goOnStart im_X7_goOnStart sl_X7_goOnStart md_X7_goOnStart rfl rfl rfl (by decide) (by decide) (Nat.le_refl _) (Nat.le_refl _) (Nat.le_of_ble_eq_true rfl) (fun M158 hM158 => ?_)
            refine V_goto (tgt := 115) dX7_go_161 (by decide) ?_
            obtain ⟨Ms, hms, hme⟩ := hM158
            rw [hme]
            exact kk Ms hms
        · exfalso; omega
  have hbody : ∀ (Mx : Mem) (k1 t1 n1 v1 f : Int), 0 < Mx 38 0 → Mx 49 0 = 0 → Mx 50 0 = 0 → Mx 39 (Mx 38 0 - 1) = 0 → preB k1 t1 n1 v1 f Mx → (∀ M1, gokP k1 t1 n1 v1 f Mx M1 → V Γ (gα αC) ad0 (ZM Γ (gα αC) ad0 (mQ αC C (mN Q)) 0 0) (RM 5 0 0) RX7 cX7_go 6 none yX7_go.name 115 [] [(3, 0), (0, x), (0, k), (0, t), (0, n), (0, v)] (gα αC) (mm M1 C) 0 0) → V Γ (gα αC) ad0 (ZM Γ (gα αC) ad0 (mQ αC C (mN Q)) 0 0) (RM 5 0 0) RX7 cX7_go 6 none yX7_go.name 115 [] [(3, 0), (0, x), (0, k), (0, t), (0, n), (0, v)] (gα αC) (mm Mx C) 0 0 := by
    rintro Mx k1 t1 n1 v1 f h1 h2 h3 h4 ⟨p1, p2, p3, p4, p5, p6, p7, p8, p9, p10, p11, p12, p13, p14⟩ kk
    have hg38 := p2.2.1
    refine V_aload_n (q := 116) dX7_go_115 rfl rfl rfl ?_
    refine VM_getI (q := 119) 38 dX7_go_116 rfl flX7_213 rfl rfl rfl (fun z116_4 ez116_4 rz116_4 => ?_)
    refine V_if_le (q := 122) (tgt := 171) dX7_go_119 (by decide) rfl (fun c119_4 => ?_) (fun c119_4 => ?_)
    · exfalso; omega
    · refine V_aload_n (q := 123) dX7_go_122 rfl rfl rfl ?_
      refine VM_getZ (q := 126) 49 dX7_go_123 rfl flX7_197 rfl rfl rfl (fun z123_4 ez123_4 rz123_4 => ?_)
      refine V_if_ne (q := 129) (tgt := 171) dX7_go_126 (by decide) rfl (fun c126_4 => ?_) (fun c126_4 => ?_)
      · exfalso; omega
      · refine V_aload_n (q := 130) dX7_go_129 rfl rfl rfl ?_
        refine VM_getZ (q := 133) 50 dX7_go_130 rfl flX7_201 rfl rfl rfl (fun z130_3 ez130_3 rz130_3 => ?_)
        refine V_if_eq (q := 136) (tgt := 143) dX7_go_133 (by decide) rfl (fun c133_3 => ?_) (fun c133_3 => ?_)
        · refine V_aload_n (q := 144) dX7_go_143 rfl rfl rfl ?_
          refine VM_getA (q := 147) 40 dX7_go_144 rfl flX7_110 rfl rfl (Nat.succ_ne_zero _) ?_
          refine V_aload_n (q := 148) dX7_go_147 rfl rfl rfl ?_
          refine VM_getI (q := 151) 38 dX7_go_148 rfl flX7_213 rfl rfl rfl (fun z148_2 ez148_2 rz148_2 => ?_)
          refine V_iconst (q := 152) dX7_go_151 rfl (by decide) ?_
          refine V_isub (q := 153) dX7_go_152 rfl (by omega) (fun z152_2 ez152_2 => ?_)
          refine VM_zald (q := 154) 39 dX7_go_153 rfl rfl (by decide) rfl rfl (by omega) (fun z153_2 ez153_2 rz153_2 => ?_)
          simp only [ez116_4, ez123_4, ez130_3, ez148_2, ez152_2] at ez153_2
          refine V_if_eq (q := 157) (tgt := 164) dX7_go_154 (by decide) rfl (fun c154_2 => ?_) (fun c154_2 => ?_)
          · refine V_aload_n (q := 165) dX7_go_164 rfl rfl rfl ?_
            refine VM_callN (q := 168) (As := []) (tX7_goOnBody (C := C) (M := Mx) p1 p2 p3 p4 p5 p6 p7 p8 p9 p10 p11 p12 p13 p14) dX7_go_165 rfl mlX7_277 mw_X7_goOnBody im_X7_goOnBody sl_X7_goOnBody md_X7_goOnBody rfl rfl rfl (by decide) (by decide) (Nat.le_refl _) (Nat.le_refl _) (Nat.le_of_ble_eq_true rfl) (fun M165 hM165 => ?_)
            refine V_goto (tgt := 115) dX7_go_168 (by decide) ?_
            exact kk M165 hM165
          · exfalso; omega
        · exfalso; omega
  have hG := h (fun Mx => V Γ (gα αC) ad0 (ZM Γ (gα αC) ad0 (mQ αC C (mN Q)) 0 0) (RM 5 0 0) RX7 cX7_go 6 none yX7_go.name 115 [] [(3, 0), (0, x), (0, k), (0, t), (0, n), (0, v)] (gα αC) (mm Mx C) 0 0) ⟨hout, hdown, hstart, hbody⟩
  refine V_aload_n (q := 1) dX7_go_0 rfl rfl rfl ?_
  refine V_iload_n (q := 2) dX7_go_1 rfl rfl rfl ?_
  refine VM_putI (q := 5) 37 dX7_go_2 rfl flX7_191 rfl rfl rfl rfl (fun M2 eM2 => ?_)
  refine V_aload_n (q := 6) dX7_go_5 rfl rfl rfl ?_
  refine V_iconst (q := 7) dX7_go_6 rfl (by decide) ?_
  refine VM_putI (q := 10) 38 dX7_go_7 rfl flX7_213 rfl rfl rfl rfl (fun M7 eM7 => ?_)
  refine V_aload_n (q := 11) dX7_go_10 rfl rfl rfl ?_
  refine V_iconst (q := 12) dX7_go_11 rfl (by decide) ?_
  refine VM_putI (q := 15) 44 dX7_go_12 rfl flX7_210 rfl rfl rfl rfl (fun M12 eM12 => ?_)
  refine V_aload_n (q := 16) dX7_go_15 rfl rfl rfl ?_
  refine V_iconst (q := 17) dX7_go_16 rfl (by decide) ?_
  refine VM_putI (q := 20) 45 dX7_go_17 rfl flX7_250 rfl rfl rfl rfl (fun M17 eM17 => ?_)
  refine V_aload_n (q := 21) dX7_go_20 rfl rfl rfl ?_
  refine V_iconst (q := 22) dX7_go_21 rfl (by decide) ?_
  refine VM_putI (q := 25) 46 dX7_go_22 rfl flX7_216 rfl rfl rfl rfl (fun M22 eM22 => ?_)
  refine V_aload_n (q := 26) dX7_go_25 rfl rfl rfl ?_
  refine V_iconst (q := 27) dX7_go_26 rfl (by decide) ?_
  refine VM_putI (q := 30) 47 dX7_go_27 rfl flX7_194 rfl rfl rfl rfl (fun M27 eM27 => ?_)
  refine V_aload_n (q := 31) dX7_go_30 rfl rfl rfl ?_
  refine V_iconst (q := 32) dX7_go_31 rfl (by decide) ?_
  refine VM_putI (q := 35) 48 dX7_go_32 rfl flX7_225 rfl rfl rfl rfl (fun M32 eM32 => ?_)
  refine V_aload_n (q := 36) dX7_go_35 rfl rfl rfl ?_
  refine V_iconst (q := 37) dX7_go_36 rfl (by decide) ?_
  refine VM_putZ (q := 40) 49 dX7_go_37 rfl flX7_197 rfl rfl rfl rfl (by omega) (fun M37 eM37 => ?_)
  refine V_aload_n (q := 41) dX7_go_40 rfl rfl rfl ?_
  refine V_iconst (q := 42) dX7_go_41 rfl (by decide) ?_
  refine VM_putZ (q := 45) 50 dX7_go_42 rfl flX7_201 rfl rfl rfl rfl (by omega) (fun M42 eM42 => ?_)
  refine V_aload_n (q := 46) dX7_go_45 rfl rfl rfl ?_
  refine V_iload_n (q := 47) dX7_go_46 rfl rfl rfl ?_
  refine VM_putI (q := 50) 53 dX7_go_47 rfl flX7_231 rfl rfl rfl rfl (fun M47 eM47 => ?_)
  refine V_aload_n (q := 51) dX7_go_50 rfl rfl rfl ?_
  refine V_iload_n (q := 52) dX7_go_51 rfl rfl rfl ?_
  refine VM_putI (q := 55) 54 dX7_go_52 rfl flX7_234 rfl rfl rfl rfl (fun M52 eM52 => ?_)
  refine V_aload_n (q := 56) dX7_go_55 rfl rfl rfl ?_
  refine V_iload (q := 58) dX7_go_56 rfl rfl ?_
  refine VM_putI (q := 61) 55 dX7_go_58 rfl flX7_237 rfl rfl rfl rfl (fun M58 eM58 => ?_)
  refine V_aload_n (q := 62) dX7_go_61 rfl rfl rfl ?_
  refine V_iload (q := 64) dX7_go_62 rfl rfl ?_
  refine VM_putI (q := 67) 56 dX7_go_64 rfl flX7_240 rfl rfl rfl rfl (fun M64 eM64 => ?_)
  refine V_aload_n (q := 68) dX7_go_67 rfl rfl rfl ?_
  refine VM_getA (q := 71) 40 dX7_go_68 rfl flX7_110 rfl rfl (Nat.succ_ne_zero _) ?_
  refine V_iconst (q := 72) dX7_go_71 rfl (by decide) ?_
  refine V_iconst (q := 73) dX7_go_72 rfl (by decide) ?_
  refine VM_zast (q := 74) 39 dX7_go_73 rfl rfl (by decide) rfl rfl (by omega) (by omega) (fun M73 eM73 => ?_)
  refine V_aload_n (q := 75) dX7_go_74 rfl rfl rfl ?_
  refine VM_getA (q := 78) 41 dX7_go_75 rfl flX7_113 rfl rfl (Nat.succ_ne_zero _) ?_
  refine V_iconst (q := 79) dX7_go_78 rfl (by decide) ?_
  refine V_iconst (q := 80) dX7_go_79 rfl (by decide) ?_
  refine VM_iast (q := 81) 40 dX7_go_80 rfl rfl (by decide) rfl rfl (by omega) (fun M80 eM80 => ?_)
  refine V_aload_n (q := 82) dX7_go_81 rfl rfl rfl ?_
  refine VM_getA (q := 85) 42 dX7_go_82 rfl flX7_116 rfl rfl (Nat.succ_ne_zero _) ?_
  refine V_iconst (q := 86) dX7_go_85 rfl (by decide) ?_
  refine V_iconst (q := 87) dX7_go_86 rfl (by decide) ?_
  refine VM_iast (q := 88) 41 dX7_go_87 rfl rfl (by decide) rfl rfl (by omega) (fun M87 eM87 => ?_)
  refine V_aload_n (q := 89) dX7_go_88 rfl rfl rfl ?_
  refine VM_getA (q := 92) 43 dX7_go_89 rfl flX7_119 rfl rfl (Nat.succ_ne_zero _) ?_
  refine V_iconst (q := 93) dX7_go_92 rfl (by decide) ?_
  refine V_bipush (q := 95) dX7_go_93 rfl (by decide) ?_
  refine VM_iast (q := 96) 42 dX7_go_95 rfl rfl (by decide) rfl rfl (by omega) (fun M95 eM95 => ?_)
  refine V_aload_n (q := 97) dX7_go_96 rfl rfl rfl ?_
  refine VM_getA (q := 100) 44 dX7_go_97 rfl flX7_122 rfl rfl (Nat.succ_ne_zero _) ?_
  refine V_iconst (q := 101) dX7_go_100 rfl (by decide) ?_
  refine V_iconst (q := 102) dX7_go_101 rfl (by decide) ?_
  refine VM_zast (q := 103) 43 dX7_go_102 rfl rfl (by decide) rfl rfl (by omega) (by omega) (fun M102 eM102 => ?_)
  refine V_aload_n (q := 104) dX7_go_103 rfl rfl rfl ?_
  refine VM_getA (q := 107) 58 dX7_go_104 rfl flX7_125 rfl rfl (Nat.succ_ne_zero _) ?_
  refine V_iconst (q := 108) dX7_go_107 rfl (by decide) ?_
  refine V_iconst (q := 109) dX7_go_108 rfl (by decide) ?_
  refine VM_zast (q := 110) 57 dX7_go_109 rfl rfl (by decide) rfl rfl (by omega) (by omega) (fun M109 eM109 => ?_)
  refine V_aload_n (q := 111) dX7_go_110 rfl rfl rfl ?_
  refine V_iconst (q := 112) dX7_go_111 rfl (by decide) ?_
  refine VM_putI (q := 115) 38 dX7_go_112 rfl flX7_213 rfl rfl rfl rfl (fun M112 eM112 => ?_)
  have hm : M112 = goM M x k t n v := by { unfold goM; simp only [eM2, eM7, eM12, eM17, eM22, eM27, eM32, eM37, eM42, eM47, eM52, eM58, eM64, eM73, eM80, eM87, eM95, eM102, eM109, eM112] }
  rw [hm]
  exact hG
