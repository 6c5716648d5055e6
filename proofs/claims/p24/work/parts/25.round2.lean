theorem SD_AT {M M1 : Mem} (h : SD M M1) : AT M1 = AT M := by
  have : aedge M1 = aedge M := by
    funext a b
    unfold aedge
    rw [SD_LA h, h 0 (by decide) (by decide)]
  unfold AT
  rw [this]
theorem nthP_lt (p : Int → Prop) (i : Int) : ∀ n : Nat, nthP p i n < n := by
  intro n
  induction n with
  | zero => show (-6 : Int) < _; omega
  | succ n ih =>
    unfold nthP
    split
    · omega
    · split <;> omega
theorem nthP_s {p : Int → Prop} {i t : Int} (h0 : 0 ≤ t) : nthP p i (t + 1).toNat = if 0 ≤ nthP p i t.toNat then nthP p i t.toNat else @ite Int (p t ∧ (cntP p t.toNat : Int) = i) (Classical.propDecidable _) t (-6) := by
  rw [show (t + 1).toNat = t.toNat + 1 by omega]
  show (if 0 ≤ nthP p i t.toNat then nthP p i t.toNat else @ite Int (p (t.toNat : Nat) ∧ (cntP p t.toNat : Int) = i) (Classical.propDecidable _) ((t.toNat : Nat) : Int) (-6)) = _
  rw [show ((t.toNat : Nat) : Int) = t by omega]
theorem cntP_s {p : Int → Prop} {t : Int} (h0 : 0 ≤ t) : cntP p (t + 1).toNat = cntP p t.toNat + @ite Nat (p t) (Classical.propDecidable _) 1 0 := by
  rw [show (t + 1).toNat = t.toNat + 1 by omega]
  show cntP p t.toNat + @ite Nat (p (t.toNat : Nat)) (Classical.propDecidable _) 1 0 = _
  rw [show ((t.toNat : Nat) : Int) = t by omega]
theorem nthP_stay {p : Int → Prop} {i : Int} (a : Nat) (h : 0 ≤ nthP p i a) : ∀ b : Nat, nthP p i (a + b) = nthP p i a := by
  intro b
  induction b with
  | zero => rfl
  | succ b ih =>
    show (if 0 ≤ nthP p i (a + b) then nthP p i (a + b) else _) = _
    rw [if_pos (by rw [ih]; exact h), ih]
theorem tX7_round {Γ : GC} {αC : Sh} {C M : Mem} {i : Int} (w : WFD M) : MM Γ yX7_round cX7_round 4 (some .int) 6 [(0, i)] αC C M (mI fun r M1 => (∀ k : Int, k < 18 ∨ 27 < k → M1 k = M k) ∧ r = roundS M i) := by
  have hn0 := w.n
  refine MM_of (k := 2) [(3, 0), (0, i), (9, 0), (9, 0)] pn_X7_round rfl rfl rfl (fun ad0 => ?_)
  have hnr : ∀ k : Nat, nthP (fun t => AT M t t) i k = -6 ∨ 0 ≤ nthP (fun t => AT M t t) i k := by
    intro k
    induction k with
    | zero => exact Or.inl rfl
    | succ k ihk =>
      unfold nthP
      split
      · exact Or.inr (by assumption)
      · split
        · exact Or.inr (by omega)
        · exact Or.inl rfl
  have loop : ∀ (n t : Int) (M1 : Mem), (0 ≤ t ∧ t ≤ M 0 0 ∧ (∀ k : Int, k < 18 ∨ 27 < k → M1 k = M k) ∧ n = cntP (fun t => AT M t t) t.toNat ∧ nthP (fun t => AT M t t) i t.toNat < 0) → V Γ (gα αC) ad0 (ZM Γ (gα αC) ad0 (mQ αC C (mI fun r M1 => (∀ k : Int, k < 18 ∨ 27 < k → M1 k = M k) ∧ r = roundS M i)) 0 0) (RM 6 0 0) RX7 cX7_round 4 (some .int) yX7_round.name 4 [] [(3, 0), (0, i), (0, n), (0, t)] (gα αC) (mm M1 C) 0 0 := by
    refine loop3 _ (fun _ t _ => (M 0 0 - t).toNat) _ ?_
    rintro n t M1 ⟨h1, h2, g3, h4, h5⟩ ih
    have fM1 := g3
    have hcl := cntP_le (fun t => AT M t t) t.toNat
    refine V_iload_n (q := 5) dX7_round_4 rfl rfl rfl ?_
    refine V_aload_n (q := 6) dX7_round_5 rfl rfl rfl ?_
    refine VM_getI (q := 9) 0 dX7_round_6 rfl flX7_128 rfl rfl rfl (fun z6 ez6 rz6 => ?_)
    rw [fM1 0 (by decide)] at ez6
    refine V_icmp_ge (q := 12) (tgt := 36) dX7_round_9 (by decide) rfl (fun c9 => ?_) (fun c9 => ?_)
    · refine V_bipush (q := 38) dX7_round_36 rfl (by decide) ?_
      exact VM_iret dX7_round_38 ⟨_, rfl, fM1, by { unfold roundS; have hh := nthP_lt (fun t => AT M t t) i t.toNat; rw [show (M 0 0).toNat = t.toNat by omega]; rcases hnr t.toNat with h6 | h6; { exact h6.symm }; { omega } }⟩
    · refine V_aload_n (q := 13) dX7_round_12 rfl rfl rfl ?_
      refine V_iload_n (q := 14) dX7_round_13 rfl rfl rfl ?_
      refine VM_callI (q := 17) (As := [(0, t)]) (tX7_isRound (C := C) (M := M1) (SD_WFD (sdR fM1) w) (by rw [fM1 0 (by decide)]; omega)) dX7_round_14 rfl mlX7_188 mw_X7_isRound im_X7_isRound sl_X7_isRound md_X7_isRound rfl rfl rfl (by decide) (by decide) (Nat.le_refl _) (Nat.le_refl _) (by decide) (fun z14 M14 rz14 hz14 => ?_)
      obtain ⟨gM14, bz14, hz14⟩ := hz14
      have fM14 : ∀ k : Int, k < 18 ∨ 27 < k → M14 k = M k := fun k h => (gM14 k (by omega)).trans (fM1 k h)
      rw [SD_AT (sdR fM1)] at hz14
      refine V_if_eq (q := 20) (tgt := 30) dX7_round_17 (by decide) rfl (fun c17 => ?_) (fun c17 => ?_)
      · refine V_iinc (q := 33) dX7_round_30 rfl rfl (by decide) rfl (by omega) (fun z30 lz30 ez30 hlz30 => ?_)
        obtain rfl : lz30 = [(3, 0), (0, i), (0, n), (0, z30)] := hlz30
        refine V_goto (tgt := 4) dX7_round_33 (by decide) ?_
        exact ih (n) (z30) M14 ⟨by omega, by omega, fM14, by { rw [ez30, cntP_s h1, if_neg (fun hh => by have := hz14.mpr hh; omega)]; omega }, by { rw [ez30, nthP_s h1, if_neg (by omega), if_neg (fun hh => by have := hz14.mpr hh.1; omega)]; decide }⟩ (by omega)
      · refine V_iload_n (q := 21) dX7_round_20 rfl rfl rfl ?_
        refine V_iload_n (q := 22) dX7_round_21 rfl rfl rfl ?_
        refine V_icmp_ne (q := 25) (tgt := 27) dX7_round_22 (by decide) rfl (fun c22 => ?_) (fun c22 => ?_)
        · refine V_iinc (q := 30) dX7_round_27 rfl rfl (by decide) rfl (by omega) (fun z27 lz27 ez27 hlz27 => ?_)
          obtain rfl : lz27 = [(3, 0), (0, i), (0, z27), (0, t)] := hlz27
          refine V_iinc (q := 33) dX7_round_30 rfl rfl (by decide) rfl (by omega) (fun z30_2 lz30_2 ez30_2 hlz30_2 => ?_)
          obtain rfl : lz30_2 = [(3, 0), (0, i), (0, z27), (0, z30_2)] := hlz30_2
          refine V_goto (tgt := 4) dX7_round_33 (by decide) ?_
          exact ih (z27) (z30_2) M14 ⟨by omega, by omega, fM14, by { rw [ez30_2, cntP_s h1, if_pos (hz14.mp (by omega))]; omega }, by { rw [ez30_2, nthP_s h1, if_neg (by omega), if_neg (fun hh => by have := hh.2; omega)]; decide }⟩ (by omega)
        · refine V_iload_n (q := 26) dX7_round_25 rfl rfl rfl ?_
          exact VM_iret dX7_round_26 ⟨_, rfl, fM14, by { have e1 := nthP_s (p := fun t => AT M t t) (i := i) h1; rw [if_neg (by omega), if_pos ⟨hz14.mp (by omega), by omega⟩] at e1; have e2 := nthP_stay (p := fun t => AT M t t) (i := i) (t + 1).toNat (by rw [e1]; exact h1) ((M 0 0).toNat - (t + 1).toNat); unfold roundS; rw [show (M 0 0).toNat = (t + 1).toNat + ((M 0 0).toNat - (t + 1).toNat) by omega, e2, e1] }⟩
  refine V_iconst (q := 1) dX7_round_0 rfl (by decide) ?_
  refine V_istore_n (q := 2) (lv1 := [(3, 0), (0, i), (0, 0), (9, 0)]) dX7_round_1 rfl rfl (by decide) rfl rfl ?_
  refine V_iconst (q := 3) dX7_round_2 rfl (by decide) ?_
  refine V_istore_n (q := 4) (lv1 := [(3, 0), (0, i), (0, 0), (0, 0)]) dX7_round_3 rfl rfl (by decide) rfl rfl ?_
  exact loop 0 0 M ⟨by decide, hn0.1, fun _ _ => rfl, rfl, (show (-6 : Int) < 0 by decide)⟩
