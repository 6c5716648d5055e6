theorem tX7_in {Γ : GC} {α : Sh} {μ : Mem} {v lo hi : Int} : MT Γ yX7_in cX7_in 3 (some .boolean) 0 0 0 [(0, v), (0, lo), (0, hi)] α μ (QI fun r α1 μ1 => α1 = α ∧ μ1 = μ ∧ (0 ≤ r ∧ r ≤ 1) ∧ (r = 1 ↔ (lo ≤ v ∧ v ≤ hi))) := by
  refine MT_of (k := 0) [(0, v), (0, lo), (0, hi)] pn_X7_in rfl rfl (fun ad0 => ?_)
  refine V_iload_n (q := 1) dX7_in_0 rfl rfl rfl ?_
  refine V_iload_n (q := 2) dX7_in_1 rfl rfl rfl ?_
  refine V_icmp_lt (q := 5) (tgt := 14) dX7_in_2 (by decide) rfl (fun c2 => ?_) (fun c2 => ?_)
  · refine V_iconst (q := 15) dX7_in_14 rfl (by decide) ?_
    exact V_zret dX7_in_15 (by decide) (Nat.le_refl _) (Nat.le_refl _) ⟨_, rfl, rfl, rfl, by omega, by omega⟩
  · refine V_iload_n (q := 6) dX7_in_5 rfl rfl rfl ?_
    refine V_iload_n (q := 7) dX7_in_6 rfl rfl rfl ?_
    refine V_icmp_gt (q := 10) (tgt := 14) dX7_in_7 (by decide) rfl (fun c7 => ?_) (fun c7 => ?_)
    · refine V_iconst (q := 15) dX7_in_14 rfl (by decide) ?_
      exact V_zret dX7_in_15 (by decide) (Nat.le_refl _) (Nat.le_refl _) ⟨_, rfl, rfl, rfl, by omega, by omega⟩
    · refine V_iconst (q := 11) dX7_in_10 rfl (by decide) ?_
      refine V_goto (tgt := 15) dX7_in_11 (by decide) ?_
      exact V_zret dX7_in_15 (by decide) (Nat.le_refl _) (Nat.le_refl _) ⟨_, rfl, rfl, rfl, by omega, by omega⟩
theorem V_in {Γ : GC} {α0 : Sh} {ad0 : Ad} {Z : ZT} {R : Room} {cc : ByteArray} {nL : Nat} {ret : Option FieldType} {nm : String} {pc q idx : Nat} {st lv : List AV} {α : Sh} {μ : Mem} {cs sl : Nat} {v lo hi : Int} (hd : decode cc pc = .ok (.invokestatic idx, 3)) (hp : pc + 3 = q) (ml : MLk RX7 idx yX7_in) (hf : 1 ≤ R.frames) (hlo : 22 ≤ R.locals) (hcs : cs ≤ R.cells) (hsl : sl ≤ R.slots) (hcat : catL st ≤ 8) (kk : ∀ r : Int, (0 ≤ r ∧ r ≤ 1) → (r = 1 ↔ (lo ≤ v ∧ v ≤ hi)) → V Γ α0 ad0 Z R RX7 cc nL ret nm q ((0, r) :: st) lv α μ cs sl) : V Γ α0 ad0 Z R RX7 cc nL ret nm pc ((0, hi) :: (0, lo) :: (0, v) :: st) lv α μ cs sl := by
  refine V_invS (As := [(0, v), (0, lo), (0, hi)]) tX7_in hd hp ml mw_X7_in sm_X7_in md_X7_in rfl rfl hf hlo hcs hsl hcat ?_
  rintro r α1 μ1 he hr ⟨v1, rfl, rfl, rfl, h1, h2⟩
  exact kk v1 h1 h2
theorem tX7_isType {Γ : GC} {αC : Sh} {C M : Mem} {x : Int} (h0 : 0 ≤ M 0 0) : MM Γ yX7_isType cX7_isType 2 (some .boolean) 1 [(0, x)] αC C M (mI fun r M1 => M1 = M ∧ (0 ≤ r ∧ r ≤ 1) ∧ (r = 1 ↔ (0 ≤ x ∧ x < M 0 0))) := by
  refine MM_of (k := 0) [(3, 0), (0, x)] pn_X7_isType rfl rfl rfl (fun ad0 => ?_)
  refine V_iload_n (q := 1) dX7_isType_0 rfl rfl rfl ?_
  refine V_iconst (q := 2) dX7_isType_1 rfl (by decide) ?_
  refine V_aload_n (q := 3) dX7_isType_2 rfl rfl rfl ?_
  refine VM_getI (q := 6) 0 dX7_isType_3 rfl flX7_128 rfl rfl rfl (fun z3 ez3 rz3 => ?_)
  refine V_iconst (q := 7) dX7_isType_6 rfl (by decide) ?_
  refine V_isub (q := 8) dX7_isType_7 rfl (by omega) (fun z7 ez7 => ?_)
  refine V_in (q := 11) dX7_isType_8 rfl mlX7_132 (by decide) (by decide) (Nat.le_refl _) (Nat.le_refl _) (by decide) (fun z8 rz8 ez8 => ?_)
  exact VM_zret dX7_isType_11 (by omega) ⟨_, rfl, rfl, by omega, by omega⟩
theorem tX7_isWorld {Γ : GC} {αC : Sh} {C M : Mem} {x : Int} (h0 : 0 ≤ M 17 0) : MM Γ yX7_isWorld cX7_isWorld 2 (some .boolean) 1 [(0, x)] αC C M (mI fun r M1 => M1 = M ∧ (0 ≤ r ∧ r ≤ 1) ∧ (r = 1 ↔ (0 ≤ x ∧ x < M 17 0))) := by
  refine MM_of (k := 0) [(3, 0), (0, x)] pn_X7_isWorld rfl rfl rfl (fun ad0 => ?_)
  refine V_iload_n (q := 1) dX7_isWorld_0 rfl rfl rfl ?_
  refine V_iconst (q := 2) dX7_isWorld_1 rfl (by decide) ?_
  refine V_aload_n (q := 3) dX7_isWorld_2 rfl rfl rfl ?_
  refine VM_getI (q := 6) 17 dX7_isWorld_3 rfl flX7_140 rfl rfl rfl (fun z3 ez3 rz3 => ?_)
  refine V_iconst (q := 7) dX7_isWorld_6 rfl (by decide) ?_
  refine V_isub (q := 8) dX7_isWorld_7 rfl (by omega) (fun z7 ez7 => ?_)
  refine V_in (q := 11) dX7_isWorld_8 rfl mlX7_132 (by decide) (by decide) (Nat.le_refl _) (Nat.le_refl _) (by decide) (fun z8 rz8 ez8 => ?_)
  exact VM_zret dX7_isWorld_11 (by omega) ⟨_, rfl, rfl, by omega, by omega⟩
theorem tX7_ownField {Γ : GC} {αC : Sh} {C M : Mem} {t nm : Int} (ht : 0 ≤ t ∧ t < 40) (hf : 0 ≤ M 6 t ∧ M 6 t ≤ 6) : MM Γ yX7_ownField cX7_ownField 5 (some .int) 0 [(0, t), (0, nm)] αC C M (mI fun r M1 => M1 = M ∧ r = pF M t nm) := by
  refine MM_of (k := 2) [(3, 0), (0, t), (0, nm), (9, 0), (9, 0)] pn_X7_ownField rfl rfl rfl (fun ad0 => ?_)
  have loop : ∀ s : Int × Int, (0 ≤ s.1 ∧ s.1 ≤ M 6 t ∧ s.2 = placeI (M 7) (6 * t) (6 * t) nm s.1) → V Γ (gα αC) ad0 (ZM Γ (gα αC) ad0 (mQ αC C (mI fun r M1 => M1 = M ∧ r = pF M t nm)) 0 0) (RM 0 0 0) RX7 cX7_ownField 5 (some .int) yX7_ownField.name 6 [] [(3, 0), (0, t), (0, nm), (0, s.2), (0, s.1)] (gα αC) (mm M C) 0 0 := by
    refine loop_wf _ (fun s => (M 6 t - s.1).toNat) _ ?_
    rintro ⟨k, is⟩ ⟨h1, h2, h3⟩ ih
    simp only [] at h1 h2 h3 ⊢
    refine V_iload (q := 8) dX7_ownField_6 rfl rfl ?_
    refine V_aload_n (q := 9) dX7_ownField_8 rfl rfl rfl ?_
    refine VM_getA (q := 12) 7 dX7_ownField_9 rfl flX7_26 rfl rfl (Nat.succ_ne_zero _) ?_
    refine V_iload_n (q := 13) dX7_ownField_12 rfl rfl rfl ?_
    refine VM_iald (q := 14) 6 dX7_ownField_13 rfl rfl (by decide) rfl rfl (by omega) (fun z13 ez13 rz13 => ?_)
    refine V_icmp_ge (q := 17) (tgt := 51) dX7_ownField_14 (by decide) rfl (fun c14 => ?_) (fun c14 => ?_)
    · refine V_iload_n (q := 52) dX7_ownField_51 rfl rfl rfl ?_
      exact VM_iret dX7_ownField_52 ⟨_, rfl, rfl, by rw [h3, show k = M 6 t by omega]; exact pF_eq M t nm⟩
    · refine V_aload_n (q := 18) dX7_ownField_17 rfl rfl rfl ?_
      refine VM_getA (q := 21) 8 dX7_ownField_18 rfl flX7_29 rfl rfl (Nat.succ_ne_zero _) ?_
      refine V_bipush (q := 23) dX7_ownField_21 rfl (by decide) ?_
      refine V_iload_n (q := 24) dX7_ownField_23 rfl rfl rfl ?_
      refine V_imul (q := 25) dX7_ownField_24 rfl (by omega) (fun z24 ez24 => ?_)
      refine V_iload (q := 27) dX7_ownField_25 rfl rfl ?_
      refine V_iadd (q := 28) dX7_ownField_27 rfl (by omega) (fun z27 ez27 => ?_)
      refine VM_iald (q := 29) 7 dX7_ownField_28 rfl rfl (by decide) rfl rfl (by omega) (fun z28 ez28 rz28 => ?_)
      refine V_iload_n (q := 30) dX7_ownField_29 rfl rfl rfl ?_
      refine V_icmp_ne (q := 33) (tgt := 43) dX7_ownField_30 (by decide) rfl (fun c30 => ?_) (fun c30 => ?_)
      · refine V_iload_n (q := 44) dX7_ownField_43 rfl rfl rfl ?_
        refine V_istore_n (q := 45) (lv1 := [(3, 0), (0, t), (0, nm), (0, is), (0, k)]) dX7_ownField_44 rfl rfl (by decide) rfl rfl ?_
        refine V_iinc (q := 48) dX7_ownField_45 rfl rfl (by decide) rfl (by omega) (fun z45 lz45 ez45 hlz45 => ?_)
        obtain rfl : lz45 = [(3, 0), (0, t), (0, nm), (0, is), (0, z45)] := hlz45
        refine V_goto (tgt := 6) dX7_ownField_48 (by decide) ?_
        have e := placeI_s (M 7) (6 * t) (6 * t) nm k h1
        exact ih (z45, is) ⟨by simp only []; omega, by simp only []; omega, by { simp only []; subst_vars; first | (rw [if_pos (by first | assumption | rfl)] at e; omega) | (rw [if_neg (by assumption)] at e; omega) }⟩ (by simp only []; omega)
      · refine V_bipush (q := 35) dX7_ownField_33 rfl (by decide) ?_
        refine V_iload_n (q := 36) dX7_ownField_35 rfl rfl rfl ?_
        refine V_imul (q := 37) dX7_ownField_36 rfl (by omega) (fun z36 ez36 => ?_)
        refine V_iload (q := 39) dX7_ownField_37 rfl rfl ?_
        refine V_iadd (q := 40) dX7_ownField_39 rfl (by omega) (fun z39 ez39 => ?_)
        refine V_goto (tgt := 44) dX7_ownField_40 (by decide) ?_
        refine V_istore_n (q := 45) (lv1 := [(3, 0), (0, t), (0, nm), (0, z39), (0, k)]) dX7_ownField_44 rfl rfl (by decide) rfl rfl ?_
        refine V_iinc (q := 48) dX7_ownField_45 rfl rfl (by decide) rfl (by omega) (fun z45_2 lz45_2 ez45_2 hlz45_2 => ?_)
        obtain rfl : lz45_2 = [(3, 0), (0, t), (0, nm), (0, z39), (0, z45_2)] := hlz45_2
        refine V_goto (tgt := 6) dX7_ownField_48 (by decide) ?_
        have e := placeI_s (M 7) (6 * t) (6 * t) nm k h1
        exact ih (z45_2, z39) ⟨by simp only []; omega, by simp only []; omega, by { simp only []; subst_vars; first | (rw [if_pos (by first | assumption | rfl)] at e; omega) | (rw [if_neg (by assumption)] at e; omega) }⟩ (by simp only []; omega)
  refine V_bipush (q := 2) dX7_ownField_0 rfl (by decide) ?_
  refine V_istore_n (q := 3) (lv1 := [(3, 0), (0, t), (0, nm), (0, (-6)), (9, 0)]) dX7_ownField_2 rfl rfl (by decide) rfl rfl ?_
  refine V_iconst (q := 4) dX7_ownField_3 rfl (by decide) ?_
  refine V_istore (q := 6) (lv1 := [(3, 0), (0, t), (0, nm), (0, (-6)), (0, 0)]) dX7_ownField_4 rfl (by decide) rfl rfl ?_
  exact loop (0, (-6)) ⟨by decide, hf.1, rfl⟩
theorem tX7_ownMethod {Γ : GC} {αC : Sh} {C M : Mem} {t nm : Int} (ht : 0 ≤ t ∧ t < 40) (hf : 0 ≤ M 10 t ∧ M 10 t ≤ 4) : MM Γ yX7_ownMethod cX7_ownMethod 5 (some .int) 0 [(0, t), (0, nm)] αC C M (mI fun r M1 => M1 = M ∧ r = oM M t nm) := by
  refine MM_of (k := 2) [(3, 0), (0, t), (0, nm), (9, 0), (9, 0)] pn_X7_ownMethod rfl rfl rfl (fun ad0 => ?_)
  have loop : ∀ s : Int × Int, (0 ≤ s.1 ∧ s.1 ≤ M 10 t ∧ s.2 = placeI (M 11) (4 * t) 0 nm s.1) → V Γ (gα αC) ad0 (ZM Γ (gα αC) ad0 (mQ αC C (mI fun r M1 => M1 = M ∧ r = oM M t nm)) 0 0) (RM 0 0 0) RX7 cX7_ownMethod 5 (some .int) yX7_ownMethod.name 6 [] [(3, 0), (0, t), (0, nm), (0, s.2), (0, s.1)] (gα αC) (mm M C) 0 0 := by
    refine loop_wf _ (fun s => (M 10 t - s.1).toNat) _ ?_
    rintro ⟨k, is⟩ ⟨h1, h2, h3⟩ ih
    simp only [] at h1 h2 h3 ⊢
    refine V_iload (q := 8) dX7_ownMethod_6 rfl rfl ?_
    refine V_aload_n (q := 9) dX7_ownMethod_8 rfl rfl rfl ?_
    refine VM_getA (q := 12) 11 dX7_ownMethod_9 rfl flX7_38 rfl rfl (Nat.succ_ne_zero _) ?_
    refine V_iload_n (q := 13) dX7_ownMethod_12 rfl rfl rfl ?_
    refine VM_iald (q := 14) 10 dX7_ownMethod_13 rfl rfl (by decide) rfl rfl (by omega) (fun z13 ez13 rz13 => ?_)
    refine V_icmp_ge (q := 17) (tgt := 45) dX7_ownMethod_14 (by decide) rfl (fun c14 => ?_) (fun c14 => ?_)
    · refine V_iload_n (q := 46) dX7_ownMethod_45 rfl rfl rfl ?_
      exact VM_iret dX7_ownMethod_46 ⟨_, rfl, rfl, by rw [h3, show k = M 10 t by omega]; exact oM_eq M t nm⟩
    · refine V_aload_n (q := 18) dX7_ownMethod_17 rfl rfl rfl ?_
      refine VM_getA (q := 21) 12 dX7_ownMethod_18 rfl flX7_41 rfl rfl (Nat.succ_ne_zero _) ?_
      refine V_iconst (q := 22) dX7_ownMethod_21 rfl (by decide) ?_
      refine V_iload_n (q := 23) dX7_ownMethod_22 rfl rfl rfl ?_
      refine V_imul (q := 24) dX7_ownMethod_23 rfl (by omega) (fun z23 ez23 => ?_)
      refine V_iload (q := 26) dX7_ownMethod_24 rfl rfl ?_
      refine V_iadd (q := 27) dX7_ownMethod_26 rfl (by omega) (fun z26 ez26 => ?_)
      refine VM_iald (q := 28) 11 dX7_ownMethod_27 rfl rfl (by decide) rfl rfl (by omega) (fun z27 ez27 rz27 => ?_)
      refine V_iload_n (q := 29) dX7_ownMethod_28 rfl rfl rfl ?_
      refine V_icmp_ne (q := 32) (tgt := 37) dX7_ownMethod_29 (by decide) rfl (fun c29 => ?_) (fun c29 => ?_)
      · refine V_iload_n (q := 38) dX7_ownMethod_37 rfl rfl rfl ?_
        refine V_istore_n (q := 39) (lv1 := [(3, 0), (0, t), (0, nm), (0, is), (0, k)]) dX7_ownMethod_38 rfl rfl (by decide) rfl rfl ?_
        refine V_iinc (q := 42) dX7_ownMethod_39 rfl rfl (by decide) rfl (by omega) (fun z39 lz39 ez39 hlz39 => ?_)
        obtain rfl : lz39 = [(3, 0), (0, t), (0, nm), (0, is), (0, z39)] := hlz39
        refine V_goto (tgt := 6) dX7_ownMethod_42 (by decide) ?_
        have e := placeI_s (M 11) (4 * t) 0 nm k h1
        exact ih (z39, is) ⟨by simp only []; omega, by simp only []; omega, by { simp only []; subst_vars; first | (rw [if_pos (by first | assumption | rfl)] at e; omega) | (rw [if_neg (by assumption)] at e; omega) }⟩ (by simp only []; omega)
      · refine V_iload (q := 34) dX7_ownMethod_32 rfl rfl ?_
        refine V_goto (tgt := 38) dX7_ownMethod_34 (by decide) ?_
        refine V_istore_n (q := 39) (lv1 := [(3, 0), (0, t), (0, nm), (0, k), (0, k)]) dX7_ownMethod_38 rfl rfl (by decide) rfl rfl ?_
        refine V_iinc (q := 42) dX7_ownMethod_39 rfl rfl (by decide) rfl (by omega) (fun z39_2 lz39_2 ez39_2 hlz39_2 => ?_)
        obtain rfl : lz39_2 = [(3, 0), (0, t), (0, nm), (0, k), (0, z39_2)] := hlz39_2
        refine V_goto (tgt := 6) dX7_ownMethod_42 (by decide) ?_
        have e := placeI_s (M 11) (4 * t) 0 nm k h1
        exact ih (z39_2, k) ⟨by simp only []; omega, by simp only []; omega, by { simp only []; subst_vars; first | (rw [if_pos (by first | assumption | rfl)] at e; omega) | (rw [if_neg (by assumption)] at e; omega) }⟩ (by simp only []; omega)
  refine V_bipush (q := 2) dX7_ownMethod_0 rfl (by decide) ?_
  refine V_istore_n (q := 3) (lv1 := [(3, 0), (0, t), (0, nm), (0, (-6)), (9, 0)]) dX7_ownMethod_2 rfl rfl (by decide) rfl rfl ?_
  refine V_iconst (q := 4) dX7_ownMethod_3 rfl (by decide) ?_
  refine V_istore (q := 6) (lv1 := [(3, 0), (0, t), (0, nm), (0, (-6)), (0, 0)]) dX7_ownMethod_4 rfl (by decide) rfl rfl ?_
  exact loop (0, (-6)) ⟨by decide, hf.1, rfl⟩
