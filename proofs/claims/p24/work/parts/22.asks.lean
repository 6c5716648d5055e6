theorem tX7_addAsked {Γ : GC} {αC : Sh} {C M : Mem} {t of : Int} {l : List Int} (h : LR M 24 25 l) (hl : l.length < 60) : MM Γ yX7_addAsked cX7_addAsked 5 none 0 [(0, t), (0, of)] αC C M (mN fun M1 => (∀ k : Int, k ≠ 24 → k ≠ 25 → M1 k = M k) ∧ LR M1 24 25 (AD of l t)) := by
  refine MM_of (k := 2) [(3, 0), (0, t), (0, of), (9, 0), (9, 0)] pn_X7_addAsked rfl rfl rfl (fun ad0 => ?_)
  have hl0 := h.1
  have loop : ∀ (had k : Int), (0 ≤ k ∧ k ≤ l.length ∧ (0 ≤ had ∧ had ≤ 1) ∧ (had = 1 ↔ (t < 0 ∨ t = of ∨ ∃ j : Int, 0 ≤ j ∧ j < k ∧ M 24 j = t))) → V Γ (gα αC) ad0 (ZM Γ (gα αC) ad0 (mQ αC C (mN fun M1 => (∀ k : Int, k ≠ 24 → k ≠ 25 → M1 k = M k) ∧ LR M1 24 25 (AD of l t))) 0 0) (RM 0 0 0) RX7 cX7_addAsked 5 none yX7_addAsked.name 18 [] [(3, 0), (0, t), (0, of), (0, had), (0, k)] (gα αC) (mm M C) 0 0 := by
    refine loop2 _ (fun _ k => ((l.length : Int) - k).toNat) _ ?_
    rintro had k ⟨h1, h2, hb, h3⟩ ih
    refine V_iload (q := 20) dX7_addAsked_18 rfl rfl ?_
    refine V_aload_n (q := 21) dX7_addAsked_20 rfl rfl rfl ?_
    refine VM_getI (q := 24) 25 dX7_addAsked_21 rfl flX7_170 rfl rfl rfl (fun z21 ez21 rz21 => ?_)
    refine V_icmp_ge (q := 27) (tgt := 54) dX7_addAsked_24 (by decide) rfl (fun c24 => ?_) (fun c24 => ?_)
    · refine V_iload_n (q := 55) dX7_addAsked_54 rfl rfl rfl ?_
      refine V_if_ne (q := 58) (tgt := 78) dX7_addAsked_55 (by decide) rfl (fun c55 => ?_) (fun c55 => ?_)
      · have hiff : (t < 0 ∨ t = of ∨ t ∈ l) ↔ (t < 0 ∨ t = of ∨ ∃ j : Int, 0 ≤ j ∧ j < k ∧ M 24 j = t) := ⟨fun hh => by { rcases hh with h5 | h5 | h5; { exact Or.inl h5 }; { exact Or.inr (Or.inl h5) }; { obtain ⟨j, j0, j1, j2⟩ := mem_getD.mp h5; exact Or.inr (Or.inr ⟨j, j0, by omega, (h.2 j j0 j1).trans j2⟩) } }, fun hh => by { rcases hh with h5 | h5 | ⟨j, j0, j1, j2⟩; { exact Or.inl h5 }; { exact Or.inr (Or.inl h5) }; { exact Or.inr (Or.inr (mem_getD.mpr ⟨j, j0, by omega, (h.2 j j0 (by omega)).symm.trans j2⟩)) } }⟩
        exact VM_vret dX7_addAsked_78 ⟨rfl, fun _ _ _ => rfl, by { unfold AD; rw [if_pos (hiff.mpr (h3.mp (by omega)))]; exact h }⟩
      · refine V_aload_n (q := 59) dX7_addAsked_58 rfl rfl rfl ?_
        refine VM_getA (q := 62) 25 dX7_addAsked_59 rfl flX7_74 rfl rfl (Nat.succ_ne_zero _) ?_
        refine V_aload_n (q := 63) dX7_addAsked_62 rfl rfl rfl ?_
        refine VM_getI (q := 66) 25 dX7_addAsked_63 rfl flX7_170 rfl rfl rfl (fun z63 ez63 rz63 => ?_)
        refine V_iload_n (q := 67) dX7_addAsked_66 rfl rfl rfl ?_
        refine VM_iast (q := 68) 24 dX7_addAsked_67 rfl rfl (by decide) rfl rfl (by omega) (fun M67 eM67 => ?_)
        have fM67 : ∀ k : Int, k ≠ 24 → k ≠ 25 → M67 k = M k := by intro k h1 h2; rw [eM67, mu_f _ _ _ _ h1]
        refine V_aload_n (q := 69) dX7_addAsked_68 rfl rfl rfl ?_
        refine V_dup (q := 70) dX7_addAsked_69 rfl (by decide) ?_
        refine VM_getI (q := 73) 25 dX7_addAsked_70 rfl flX7_170 rfl rfl rfl (fun z70 ez70 rz70 => ?_)
        rw [eM67, mu_f _ _ _ _ (by decide)] at ez70
        refine V_iconst (q := 74) dX7_addAsked_73 rfl (by decide) ?_
        refine V_iadd (q := 75) dX7_addAsked_74 rfl (by omega) (fun z74 ez74 => ?_)
        refine VM_putI (q := 78) 25 dX7_addAsked_75 rfl flX7_170 rfl rfl rfl rfl (fun M75 eM75 => ?_)
        have fM75 : ∀ k : Int, k ≠ 24 → k ≠ 25 → M75 k = M k := by intro k h1 h2; rw [eM75, mu_f _ _ _ _ h2]; exact fM67 k h1 h2
        have hiff : (t < 0 ∨ t = of ∨ t ∈ l) ↔ (t < 0 ∨ t = of ∨ ∃ j : Int, 0 ≤ j ∧ j < k ∧ M 24 j = t) := ⟨fun hh => by { rcases hh with h5 | h5 | h5; { exact Or.inl h5 }; { exact Or.inr (Or.inl h5) }; { obtain ⟨j, j0, j1, j2⟩ := mem_getD.mp h5; exact Or.inr (Or.inr ⟨j, j0, by omega, (h.2 j j0 j1).trans j2⟩) } }, fun hh => by { rcases hh with h5 | h5 | ⟨j, j0, j1, j2⟩; { exact Or.inl h5 }; { exact Or.inr (Or.inl h5) }; { exact Or.inr (Or.inr (mem_getD.mpr ⟨j, j0, by omega, (h.2 j j0 (by omega)).symm.trans j2⟩)) } }⟩
        exact VM_vret dX7_addAsked_78 ⟨rfl, fM75, by { unfold AD; rw [if_neg (fun hh => by have := h3.mpr (hiff.mp hh); omega)]; exact LR_push h (by rw [eM75, mu_s]; omega) (by rw [eM75, mu_f _ _ _ _ (by decide), eM67, ← h.1, ← ez63, mu_s]) (fun j hj => by rw [eM75, mu_f _ _ _ _ (by decide), eM67, mu_i _ _ _ _ (by omega)]) }⟩
    · refine V_iload_n (q := 28) dX7_addAsked_27 rfl rfl rfl ?_
      refine V_if_ne (q := 31) (tgt := 42) dX7_addAsked_28 (by decide) rfl (fun c28 => ?_) (fun c28 => ?_)
      · refine V_iconst (q := 43) dX7_addAsked_42 rfl (by decide) ?_
        refine V_goto (tgt := 47) dX7_addAsked_43 (by decide) ?_
        refine V_istore_n (q := 48) (lv1 := [(3, 0), (0, t), (0, of), (0, 1), (0, k)]) dX7_addAsked_47 rfl rfl (by decide) rfl rfl ?_
        refine V_iinc (q := 51) dX7_addAsked_48 rfl rfl (by decide) rfl (by omega) (fun z48 lz48 ez48 hlz48 => ?_)
        obtain rfl : lz48 = [(3, 0), (0, t), (0, of), (0, 1), (0, z48)] := hlz48
        refine V_goto (tgt := 18) dX7_addAsked_51 (by decide) ?_
        exact ih (1) (z48) ⟨by omega, by omega, by decide, ⟨fun hh => by { rcases h3.mp (by omega) with h5 | h5 | ⟨j, j0, j1, j2⟩; { exact Or.inl h5 }; { exact Or.inr (Or.inl h5) }; { exact Or.inr (Or.inr ⟨j, j0, by omega, j2⟩) } }, fun _ => by omega⟩⟩ (by omega)
      · refine V_aload_n (q := 32) dX7_addAsked_31 rfl rfl rfl ?_
        refine VM_getA (q := 35) 25 dX7_addAsked_32 rfl flX7_74 rfl rfl (Nat.succ_ne_zero _) ?_
        refine V_iload (q := 37) dX7_addAsked_35 rfl rfl ?_
        refine VM_iald (q := 38) 24 dX7_addAsked_37 rfl rfl (by decide) rfl rfl (by omega) (fun z37 ez37 rz37 => ?_)
        refine V_iload_n (q := 39) dX7_addAsked_38 rfl rfl rfl ?_
        refine V_icmp_ne (q := 42) (tgt := 46) dX7_addAsked_39 (by decide) rfl (fun c39 => ?_) (fun c39 => ?_)
        · refine V_iconst (q := 47) dX7_addAsked_46 rfl (by decide) ?_
          refine V_istore_n (q := 48) (lv1 := [(3, 0), (0, t), (0, of), (0, 0), (0, k)]) dX7_addAsked_47 rfl rfl (by decide) rfl rfl ?_
          refine V_iinc (q := 51) dX7_addAsked_48 rfl rfl (by decide) rfl (by omega) (fun z48_2 lz48_2 ez48_2 hlz48_2 => ?_)
          obtain rfl : lz48_2 = [(3, 0), (0, t), (0, of), (0, 0), (0, z48_2)] := hlz48_2
          refine V_goto (tgt := 18) dX7_addAsked_51 (by decide) ?_
          exact ih (0) (z48_2) ⟨by omega, by omega, by decide, ⟨fun hh => by { first | omega | exact Or.inr (Or.inr ⟨k, h1, by omega, by omega⟩) }, fun hh => by { first | omega | (rcases hh with h5 | h5 | ⟨j, j0, j1, j2⟩; { have := h3.mpr (Or.inl h5); omega }; { have := h3.mpr (Or.inr (Or.inl h5)); omega }; { by_cases hj : j = k; { subst hj; omega }; { have := h3.mpr (Or.inr (Or.inr ⟨j, j0, by omega, j2⟩)); omega } }) }⟩⟩ (by omega)
        · refine V_iconst (q := 43) dX7_addAsked_42 rfl (by decide) ?_
          refine V_goto (tgt := 47) dX7_addAsked_43 (by decide) ?_
          refine V_istore_n (q := 48) (lv1 := [(3, 0), (0, t), (0, of), (0, 1), (0, k)]) dX7_addAsked_47 rfl rfl (by decide) rfl rfl ?_
          refine V_iinc (q := 51) dX7_addAsked_48 rfl rfl (by decide) rfl (by omega) (fun z48_3 lz48_3 ez48_3 hlz48_3 => ?_)
          obtain rfl : lz48_3 = [(3, 0), (0, t), (0, of), (0, 1), (0, z48_3)] := hlz48_3
          refine V_goto (tgt := 18) dX7_addAsked_51 (by decide) ?_
          exact ih (1) (z48_3) ⟨by omega, by omega, by decide, ⟨fun hh => by { first | omega | exact Or.inr (Or.inr ⟨k, h1, by omega, by omega⟩) }, fun hh => by { first | omega | (rcases hh with h5 | h5 | ⟨j, j0, j1, j2⟩; { have := h3.mpr (Or.inl h5); omega }; { have := h3.mpr (Or.inr (Or.inl h5)); omega }; { by_cases hj : j = k; { subst hj; omega }; { have := h3.mpr (Or.inr (Or.inr ⟨j, j0, by omega, j2⟩)); omega } }) }⟩⟩ (by omega)
  refine V_iload_n (q := 1) dX7_addAsked_0 rfl rfl rfl ?_
  refine V_if_lt (q := 4) (tgt := 9) dX7_addAsked_1 (by decide) rfl (fun c1 => ?_) (fun c1 => ?_)
  · refine V_iconst (q := 10) dX7_addAsked_9 rfl (by decide) ?_
    refine V_goto (tgt := 14) dX7_addAsked_10 (by decide) ?_
    refine V_istore_n (q := 15) (lv1 := [(3, 0), (0, t), (0, of), (0, 1), (9, 0)]) dX7_addAsked_14 rfl rfl (by decide) rfl rfl ?_
    refine V_iconst (q := 16) dX7_addAsked_15 rfl (by decide) ?_
    refine V_istore (q := 18) (lv1 := [(3, 0), (0, t), (0, of), (0, 1), (0, 0)]) dX7_addAsked_16 rfl (by decide) rfl rfl ?_
    exact loop (1) 0 ⟨by decide, by omega, by decide, ⟨fun hh => by omega, fun hh => by { rcases hh with hh | hh | ⟨j, j0, j1, -⟩ <;> omega }⟩⟩
  · refine V_iload_n (q := 5) dX7_addAsked_4 rfl rfl rfl ?_
    refine V_iload_n (q := 6) dX7_addAsked_5 rfl rfl rfl ?_
    refine V_icmp_ne (q := 9) (tgt := 13) dX7_addAsked_6 (by decide) rfl (fun c6 => ?_) (fun c6 => ?_)
    · refine V_iconst (q := 14) dX7_addAsked_13 rfl (by decide) ?_
      refine V_istore_n (q := 15) (lv1 := [(3, 0), (0, t), (0, of), (0, 0), (9, 0)]) dX7_addAsked_14 rfl rfl (by decide) rfl rfl ?_
      refine V_iconst (q := 16) dX7_addAsked_15 rfl (by decide) ?_
      refine V_istore (q := 18) (lv1 := [(3, 0), (0, t), (0, of), (0, 0), (0, 0)]) dX7_addAsked_16 rfl (by decide) rfl rfl ?_
      exact loop (0) 0 ⟨by decide, by omega, by decide, ⟨fun hh => by omega, fun hh => by { rcases hh with hh | hh | ⟨j, j0, j1, -⟩ <;> omega }⟩⟩
    · refine V_iconst (q := 10) dX7_addAsked_9 rfl (by decide) ?_
      refine V_goto (tgt := 14) dX7_addAsked_10 (by decide) ?_
      refine V_istore_n (q := 15) (lv1 := [(3, 0), (0, t), (0, of), (0, 1), (9, 0)]) dX7_addAsked_14 rfl rfl (by decide) rfl rfl ?_
      refine V_iconst (q := 16) dX7_addAsked_15 rfl (by decide) ?_
      refine V_istore (q := 18) (lv1 := [(3, 0), (0, t), (0, of), (0, 1), (0, 0)]) dX7_addAsked_16 rfl (by decide) rfl rfl ?_
      exact loop (1) 0 ⟨by decide, by omega, by decide, ⟨fun hh => by omega, fun hh => by { rcases hh with hh | hh | ⟨j, j0, j1, -⟩ <;> omega }⟩⟩
theorem sdR {M M1 : Mem} {hi : Int} (f : ∀ k : Int, k < 18 ∨ hi < k → M1 k = M k) : SD M M1 := fun k h0 h1 => f k (Or.inl (by omega))
theorem tX7_listAsked {Γ : GC} {αC : Sh} {C M : Mem} {t : Int} (w : WFD M) (ht : 0 ≤ t ∧ t < M 0 0) : MM Γ yX7_listAsked cX7_listAsked 3 none 4 [(0, t)] αC C M (mN fun M1 => (∀ k : Int, k < 18 ∨ 25 < k → M1 k = M k) ∧ LR M1 24 25 (LA M t) ∧ (LA M t).length ≤ 53) := by
  have hn0 := w.n
  have hsz := w.size (5 * t) (by omega) (by omega)
  refine MM_of (k := 1) [(3, 0), (0, t), (9, 0)] pn_X7_listAsked rfl rfl rfl (fun ad0 => ?_)
  have l2 : ∀ (a : Int) (M1 : Mem), (60 * t ≤ a ∧ a ≤ 60 * t + M 12 (5 * t) ∧ (∀ k : Int, k < 18 ∨ 25 < k → M1 k = M k) ∧ LR M1 24 25 (LAa M t (a - 60 * t).toNat) ∧ (LF M t).length ≤ 41) → V Γ (gα αC) ad0 (ZM Γ (gα αC) ad0 (mQ αC C (mN fun M1 => (∀ k : Int, k < 18 ∨ 25 < k → M1 k = M k) ∧ LR M1 24 25 (LA M t) ∧ (LA M t).length ≤ 53)) 0 0) (RM 4 0 0) RX7 cX7_listAsked 3 none yX7_listAsked.name 42 [] [(3, 0), (0, t), (0, a)] (gα αC) (mm M1 C) 0 0 := by
    refine loop2 _ (fun a _ => (60 * t + M 12 (5 * t) - a).toNat) _ ?_
    rintro a M1 ⟨h1, h2, g3, g5, h41⟩ ih
    have fM1 := g3
    refine V_iload_n (q := 43) dX7_listAsked_42 rfl rfl rfl ?_
    refine V_bipush (q := 45) dX7_listAsked_43 rfl (by decide) ?_
    refine V_iload_n (q := 46) dX7_listAsked_45 rfl rfl rfl ?_
    refine V_imul (q := 47) dX7_listAsked_46 rfl (by omega) (fun z46 ez46 => ?_)
    refine V_aload_n (q := 48) dX7_listAsked_47 rfl rfl rfl ?_
    refine VM_getA (q := 51) 13 dX7_listAsked_48 rfl flX7_44 rfl rfl (Nat.succ_ne_zero _) ?_
    refine V_iconst (q := 52) dX7_listAsked_51 rfl (by decide) ?_
    refine V_iload_n (q := 53) dX7_listAsked_52 rfl rfl rfl ?_
    refine V_imul (q := 54) dX7_listAsked_53 rfl (by omega) (fun z53 ez53 => ?_)
    refine VM_iald (q := 55) 12 dX7_listAsked_54 rfl rfl (by decide) rfl rfl (by omega) (fun z54 ez54 rz54 => ?_)
    rw [fM1 12 (by decide)] at ez54
    rw [show z53 = 5 * t by omega] at ez54
    refine V_iadd (q := 56) dX7_listAsked_55 rfl (by omega) (fun z55 ez55 => ?_)
    refine V_icmp_ge (q := 59) (tgt := 92) dX7_listAsked_56 (by decide) rfl (fun c56 => ?_) (fun c56 => ?_)
    · have ha : LAa M t (a - 60 * t).toNat = LA M t := by { unfold LA; congr 1; omega }
      rw [ha] at g5
      have hlen := LAa_len M t h41 (M 12 (5 * t)).toNat
      exact VM_vret dX7_listAsked_92 ⟨rfl, g3, g5, by { show (LAa M t (M 12 (5 * t)).toNat).length ≤ 53; omega }⟩
    · have hact := w.act (5 * t) (a - 60 * t) (by omega) (by omega) (by omega) (by omega)
      rw [show 12 * (5 * t) + (a - 60 * t) = a by omega] at hact
      have hlen := LAa_len M t h41 (a - 60 * t).toNat
      refine V_aload_n (q := 60) dX7_listAsked_59 rfl rfl rfl ?_
      refine V_aload_n (q := 61) dX7_listAsked_60 rfl rfl rfl ?_
      refine V_aload_n (q := 62) dX7_listAsked_61 rfl rfl rfl ?_
      refine VM_getA (q := 65) 14 dX7_listAsked_62 rfl flX7_47 rfl rfl (Nat.succ_ne_zero _) ?_
      refine V_iload_n (q := 66) dX7_listAsked_65 rfl rfl rfl ?_
      refine VM_iald (q := 67) 13 dX7_listAsked_66 rfl rfl (by decide) rfl rfl (by omega) (fun z66 ez66 rz66 => ?_)
      rw [fM1 13 (by decide)] at ez66
      refine V_aload_n (q := 68) dX7_listAsked_67 rfl rfl rfl ?_
      refine VM_getA (q := 71) 15 dX7_listAsked_68 rfl flX7_50 rfl rfl (Nat.succ_ne_zero _) ?_
      refine V_iload_n (q := 72) dX7_listAsked_71 rfl rfl rfl ?_
      refine VM_iald (q := 73) 14 dX7_listAsked_72 rfl rfl (by decide) rfl rfl (by omega) (fun z72 ez72 rz72 => ?_)
      rw [fM1 14 (by decide)] at ez72
      refine V_aload_n (q := 74) dX7_listAsked_73 rfl rfl rfl ?_
      refine VM_getA (q := 77) 16 dX7_listAsked_74 rfl flX7_53 rfl rfl (Nat.succ_ne_zero _) ?_
      refine V_iload_n (q := 78) dX7_listAsked_77 rfl rfl rfl ?_
      refine VM_iald (q := 79) 15 dX7_listAsked_78 rfl rfl (by decide) rfl rfl (by omega) (fun z78 ez78 rz78 => ?_)
      rw [fM1 15 (by decide)] at ez78
      refine VM_callI (q := 82) (As := [(0, z66), (0, z72), (0, z78)]) (tX7_started (C := C) (M := M1) (SD_WFD (sdR fM1) w) (by rw [fM1 0 (by decide), ez66, ez72]; exact fun h1 h2 => hact.2.1 h1 (by omega))) dX7_listAsked_79 rfl mlX7_181 mw_X7_started im_X7_started sl_X7_started md_X7_started rfl rfl rfl (by decide) (by decide) (Nat.le_refl _) (Nat.le_refl _) (by decide) (fun z79 M79 rz79 hz79 => ?_)
      obtain ⟨gM79, hz79⟩ := hz79
      have fM79 : ∀ k : Int, k < 18 ∨ 25 < k → M79 k = M k := fun k h => (gM79 k (by omega) (by omega)).trans (fM1 k h)
      rw [SD_STi (sdR fM1)] at hz79
      have hLz := LR_congr g5 (gM79 24 (by decide) (by decide)) (gM79 25 (by decide) (by decide))
      refine V_iload_n (q := 83) dX7_listAsked_82 rfl rfl rfl ?_
      refine VM_callN (q := 86) (As := [(0, z79), (0, t)]) (tX7_addAsked (C := C) (M := M79) (l := LAa M t (a - 60 * t).toNat) hLz (by omega)) dX7_listAsked_83 rfl mlX7_177 mw_X7_addAsked im_X7_addAsked sl_X7_addAsked md_X7_addAsked rfl rfl rfl (by decide) (by decide) (Nat.le_refl _) (Nat.le_refl _) (by decide) (fun M83 hM83 => ?_)
      obtain ⟨gM83, hlM83⟩ := hM83
      have fM83 : ∀ k : Int, k < 18 ∨ 25 < k → M83 k = M k := fun k h => (gM83 k (by omega) (by omega)).trans (fM79 k h)
      refine V_iinc (q := 89) dX7_listAsked_86 rfl rfl (by decide) rfl (by omega) (fun z86 lz86 ez86 hlz86 => ?_)
      obtain rfl : lz86 = [(3, 0), (0, t), (0, z86)] := hlz86
      refine V_goto (tgt := 42) dX7_listAsked_89 (by decide) ?_
      exact ih (z86) M83 ⟨by omega, by omega, fM83, by { rw [show (z86 - 60 * t).toNat = (a - 60 * t).toNat + 1 by omega]; show LR _ 24 25 (AD t (LAa M t (a - 60 * t).toNat) (STi M (M 13 (60 * t + ((a - 60 * t).toNat : Nat))) (M 14 (60 * t + ((a - 60 * t).toNat : Nat))) (M 15 (60 * t + ((a - 60 * t).toNat : Nat))))); rw [show 60 * t + ((a - 60 * t).toNat : Int) = a by omega, ← ez66, ← ez72, ← ez78, ← hz79]; exact hlM83 }, h41⟩ (by omega)
  have l1 : ∀ (k : Int) (M1 : Mem) (n : Int), (0 ≤ k ∧ (n = (LF M t).length ∧ (LF M t).length ≤ 41) ∧ k ≤ n ∧ (∀ k : Int, k < 18 ∨ 25 < k → M1 k = M k) ∧ LR M1 20 21 (LF M t) ∧ LR M1 24 25 (LAf (LF M t) t k.toNat)) → V Γ (gα αC) ad0 (ZM Γ (gα αC) ad0 (mQ αC C (mN fun M1 => (∀ k : Int, k < 18 ∨ 25 < k → M1 k = M k) ∧ LR M1 24 25 (LA M t) ∧ (LA M t).length ≤ 53)) 0 0) (RM 4 0 0) RX7 cX7_listAsked 3 none yX7_listAsked.name 12 [] [(3, 0), (0, t), (0, k)] (gα αC) (mm M1 C) 0 0 := by
    refine loop3 _ (fun k _ n => (n - k).toNat) _ ?_
    rintro k M1 n ⟨h1, h2, h3, g3, g4, g5⟩ ih
    have h2n := h2.1
    have h41 := h2.2
    have fM1 := g3
    refine V_iload_n (q := 13) dX7_listAsked_12 rfl rfl rfl ?_
    refine V_aload_n (q := 14) dX7_listAsked_13 rfl rfl rfl ?_
    refine VM_getI (q := 17) 21 dX7_listAsked_14 rfl flX7_164 rfl rfl rfl (fun z14 ez14 rz14 => ?_)
    rw [g4.1] at ez14
    refine V_icmp_ge (q := 20) (tgt := 37) dX7_listAsked_17 (by decide) rfl (fun c17 => ?_) (fun c17 => ?_)
    · refine V_bipush (q := 39) dX7_listAsked_37 rfl (by decide) ?_
      refine V_iload_n (q := 40) dX7_listAsked_39 rfl rfl rfl ?_
      refine V_imul (q := 41) dX7_listAsked_40 rfl (by omega) (fun z40 ez40 => ?_)
      refine V_istore_n (q := 42) (lv1 := [(3, 0), (0, t), (0, z40)]) dX7_listAsked_41 rfl rfl (by decide) rfl rfl ?_
      exact l2 (z40) M1 ⟨by omega, by omega, g3, by { rw [show (z40 - 60 * t).toNat = 0 by omega]; rw [show k = n by omega, h2n, Int.toNat_natCast] at g5; exact g5 }, by omega⟩
    · have hlen := LAf_len (LF M t) t k.toNat
      refine V_aload_n (q := 21) dX7_listAsked_20 rfl rfl rfl ?_
      refine V_aload_n (q := 22) dX7_listAsked_21 rfl rfl rfl ?_
      refine VM_getA (q := 25) 21 dX7_listAsked_22 rfl flX7_65 rfl rfl (Nat.succ_ne_zero _) ?_
      refine V_iload_n (q := 26) dX7_listAsked_25 rfl rfl rfl ?_
      refine VM_iald (q := 27) 20 dX7_listAsked_26 rfl rfl (by decide) rfl rfl (by omega) (fun z26 ez26 rz26 => ?_)
      refine V_iload_n (q := 28) dX7_listAsked_27 rfl rfl rfl ?_
      refine VM_callN (q := 31) (As := [(0, z26), (0, t)]) (tX7_addAsked (C := C) (M := M1) (l := LAf (LF M t) t k.toNat) g5 (by omega)) dX7_listAsked_28 rfl mlX7_177 mw_X7_addAsked im_X7_addAsked sl_X7_addAsked md_X7_addAsked rfl rfl rfl (by decide) (by decide) (Nat.le_refl _) (Nat.le_refl _) (by decide) (fun M28 hM28 => ?_)
      obtain ⟨gM28, hlM28⟩ := hM28
      have fM28 : ∀ k : Int, k < 18 ∨ 25 < k → M28 k = M k := fun k h => (gM28 k (by omega) (by omega)).trans (fM1 k h)
      refine V_iinc (q := 34) dX7_listAsked_31 rfl rfl (by decide) rfl (by omega) (fun z31 lz31 ez31 hlz31 => ?_)
      obtain rfl : lz31 = [(3, 0), (0, t), (0, z31)] := hlz31
      refine V_goto (tgt := 12) dX7_listAsked_34 (by decide) ?_
      exact ih (z31) M28 n ⟨by omega, h2, by omega, fM28, LR_congr g4 (gM28 20 (by decide) (by decide)) (gM28 21 (by decide) (by decide)), by { rw [show (z31).toNat = k.toNat + 1 by omega]; have e := ez26; rw [g4.2 k h1 (by omega)] at e; show LR _ 24 25 (AD t (LAf (LF M t) t k.toNat) ((LF M t).getD k.toNat 0)); rw [← e]; exact hlM28 }⟩ (by omega)
  refine V_aload_n (q := 1) dX7_listAsked_0 rfl rfl rfl ?_
  refine V_iload_n (q := 2) dX7_listAsked_1 rfl rfl rfl ?_
  refine VM_callN (q := 5) (As := [(0, t)]) (tX7_listFirst (C := C) (M := M) w ht) dX7_listAsked_2 rfl mlX7_173 mw_X7_listFirst im_X7_listFirst sl_X7_listFirst md_X7_listFirst rfl rfl rfl (by decide) (by decide) (Nat.le_refl _) (Nat.le_refl _) (by decide) (fun M2 hM2 => ?_)
  obtain ⟨gM2, hf1, hf2, hf3⟩ := hM2
  have fM2 : ∀ k : Int, k < 18 ∨ 25 < k → M2 k = M k := fun k h => gM2 k (by omega) (by omega) (by omega) (by omega) (by omega)
  refine V_aload_n (q := 6) dX7_listAsked_5 rfl rfl rfl ?_
  refine V_iconst (q := 7) dX7_listAsked_6 rfl (by decide) ?_
  refine VM_putI (q := 10) 25 dX7_listAsked_7 rfl flX7_170 rfl rfl rfl rfl (fun M7 eM7 => ?_)
  have fM7 : ∀ k : Int, k < 18 ∨ 25 < k → M7 k = M k := by intro k h; rw [eM7, mu_f _ _ _ _ (by omega)]; exact fM2 k h
  refine V_iconst (q := 11) dX7_listAsked_10 rfl (by decide) ?_
  refine V_istore_n (q := 12) (lv1 := [(3, 0), (0, t), (0, 0)]) dX7_listAsked_11 rfl rfl (by decide) rfl rfl ?_
  exact l1 0 M7 (LF M t).length ⟨by decide, ⟨rfl, hf2⟩, by omega, fM7, LR_congr ⟨hf1, hf3⟩ (by rw [eM7, mu_f _ _ _ _ (by decide)]) (by rw [eM7, mu_f _ _ _ _ (by decide)]), LR_nil (by rw [eM7, mu_s])⟩
