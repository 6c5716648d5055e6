theorem tX7_make {Γ : GC} {αC : Sh} {C M : Mem} {a b up : Int} (ha : 0 ≤ a ∧ a ≤ 1) (hb : 0 ≤ b ∧ b ≤ 1) (hn : 0 ≤ M 0 0 ∧ M 0 0 < 40) : MM Γ yX7_make cX7_make 4 (some .int) 0 [(0, a), (0, b), (0, up)] αC C M (mI fun r M1 => M1 = mkM M a b up ∧ r = M 0 0) := by
  refine MM_of (k := 0) [(3, 0), (0, a), (0, b), (0, up)] pn_X7_make rfl rfl rfl (fun ad0 => ?_)
  refine V_aload_n (q := 1) dX7_make_0 rfl rfl rfl ?_
  refine VM_getA (q := 4) 2 dX7_make_1 rfl flX7_7 rfl rfl (Nat.succ_ne_zero _) ?_
  refine V_aload_n (q := 5) dX7_make_4 rfl rfl rfl ?_
  refine VM_getI (q := 8) 0 dX7_make_5 rfl flX7_128 rfl rfl rfl (fun z5 ez5 rz5 => ?_)
  refine V_iload_n (q := 9) dX7_make_8 rfl rfl rfl ?_
  refine VM_zast (q := 10) 1 dX7_make_9 rfl rfl (by decide) rfl rfl (by omega) (by omega) (fun M9 eM9 => ?_)
  refine V_aload_n (q := 11) dX7_make_10 rfl rfl rfl ?_
  refine VM_getA (q := 14) 3 dX7_make_11 rfl flX7_13 rfl rfl (Nat.succ_ne_zero _) ?_
  refine V_aload_n (q := 15) dX7_make_14 rfl rfl rfl ?_
  refine VM_getI (q := 18) 0 dX7_make_15 rfl flX7_128 rfl rfl rfl (fun z15 ez15 rz15 => ?_)
  rw [eM9, mu_t _ _ _ _ (by decide)] at ez15
  refine V_iload_n (q := 19) dX7_make_18 rfl rfl rfl ?_
  refine VM_zast (q := 20) 2 dX7_make_19 rfl rfl (by decide) rfl rfl (by omega) (by omega) (fun M19 eM19 => ?_)
  refine V_aload_n (q := 21) dX7_make_20 rfl rfl rfl ?_
  refine VM_getA (q := 24) 4 dX7_make_21 rfl flX7_16 rfl rfl (Nat.succ_ne_zero _) ?_
  refine V_aload_n (q := 25) dX7_make_24 rfl rfl rfl ?_
  refine VM_getI (q := 28) 0 dX7_make_25 rfl flX7_128 rfl rfl rfl (fun z25 ez25 rz25 => ?_)
  rw [eM19, mu_t _ _ _ _ (by decide)] at ez25
  rw [eM9, mu_t _ _ _ _ (by decide)] at ez25
  refine V_iload_n (q := 29) dX7_make_28 rfl rfl rfl ?_
  refine VM_iast (q := 30) 3 dX7_make_29 rfl rfl (by decide) rfl rfl (by omega) (fun M29 eM29 => ?_)
  refine V_aload_n (q := 31) dX7_make_30 rfl rfl rfl ?_
  refine V_dup (q := 32) dX7_make_31 rfl (show (3 : Nat) ≠ 2 by decide) ?_
  refine VM_getI (q := 35) 0 dX7_make_32 rfl flX7_128 rfl rfl rfl (fun z32 ez32 rz32 => ?_)
  rw [eM29, mu_t _ _ _ _ (by decide)] at ez32
  rw [eM19, mu_t _ _ _ _ (by decide)] at ez32
  rw [eM9, mu_t _ _ _ _ (by decide)] at ez32
  refine V_iconst (q := 36) dX7_make_35 rfl (by decide) ?_
  refine V_iadd (q := 37) dX7_make_36 rfl (by omega) (fun z36 ez36 => ?_)
  refine VM_putI (q := 40) 0 dX7_make_37 rfl flX7_128 rfl rfl rfl rfl (fun M37 eM37 => ?_)
  refine V_aload_n (q := 41) dX7_make_40 rfl rfl rfl ?_
  refine VM_getI (q := 44) 0 dX7_make_41 rfl flX7_128 rfl rfl rfl (fun z41 ez41 rz41 => ?_)
  rw [eM37, mu_s] at ez41
  refine V_iconst (q := 45) dX7_make_44 rfl (by decide) ?_
  refine V_isub (q := 46) dX7_make_45 rfl (by omega) (fun z45 ez45 => ?_)
  exact VM_iret dX7_make_46 ⟨_, rfl, by { unfold mkM; rw [eM37, eM29, eM19, eM9, show z36 = M 0 0 + 1 by omega, ez25, ez15, ez5] }, by omega⟩
theorem tX7_cls {Γ : GC} {αC : Sh} {C M : Mem} {up op : Int} (w : WFD M) (ho : 0 ≤ op ∧ op ≤ 1) : MM Γ yX7_cls cX7_cls 3 (some .int) 2 [(0, up), (0, op)] αC C M (mI fun r M1 => M1 = clsM M up op ∧ r = clsR M up) := by
  have hn0 := w.n
  refine MM_of (k := 0) [(3, 0), (0, up), (0, op)] pn_X7_cls rfl rfl rfl (fun ad0 => ?_)
  refine V_iload_n (q := 1) dX7_cls_0 rfl rfl rfl ?_
  refine V_iconst (q := 2) dX7_cls_1 rfl (by decide) ?_
  refine V_icmp_eq (q := 5) (tgt := 15) dX7_cls_2 (by decide) rfl (fun c2 => ?_) (fun c2 => ?_)
  · refine V_iload_n (q := 16) dX7_cls_15 rfl rfl rfl ?_
    refine V_iconst (q := 17) dX7_cls_16 rfl (by decide) ?_
    refine V_icmp_eq (q := 20) (tgt := 32) dX7_cls_17 (by decide) rfl (fun c17 => ?_) (fun c17 => ?_)
    · refine V_aload_n (q := 33) dX7_cls_32 rfl rfl rfl ?_
      refine VM_getI (q := 36) 17 dX7_cls_33 rfl flX7_140 rfl rfl rfl (fun z33 ez33 rz33 => ?_)
      refine V_if_le (q := 39) (tgt := 44) dX7_cls_36 (by decide) rfl (fun c36 => ?_) (fun c36 => ?_)
      · refine V_aload_n (q := 45) dX7_cls_44 rfl rfl rfl ?_
        refine VM_getI (q := 48) 0 dX7_cls_45 rfl flX7_128 rfl rfl rfl (fun z45 ez45 rz45 => ?_)
        refine V_bipush (q := 50) dX7_cls_48 rfl (by decide) ?_
        refine V_icmp_ne (q := 53) (tgt := 58) dX7_cls_50 (by decide) rfl (fun c50 => ?_) (fun c50 => ?_)
        · refine V_aload_n (q := 59) dX7_cls_58 rfl rfl rfl ?_
          refine V_iconst (q := 60) dX7_cls_59 rfl (by decide) ?_
          refine V_iload_n (q := 61) dX7_cls_60 rfl rfl rfl ?_
          refine V_iload_n (q := 62) dX7_cls_61 rfl rfl rfl ?_
          refine VM_callI (q := 65) (As := [(0, 0), (0, op), (0, up)]) (tX7_make (C := C) (M := M) (by omega) (by omega) (by omega)) dX7_cls_62 rfl mlX7_143 mw_X7_make im_X7_make sl_X7_make md_X7_make rfl rfl rfl (by decide) (by decide) (Nat.le_refl _) (Nat.le_refl _) (Nat.le_of_ble_eq_true rfl) (fun z62 M62 rz62 hz62 => ?_)
          obtain ⟨eM62, hz62⟩ := hz62
          first | (exfalso; omega) | (have hr : clsR M up = M 0 0 := by { unfold clsR; (repeat' (first | rw [if_pos (by omega)] | rw [if_neg (by omega)])) }; exact VM_iret dX7_cls_65 ⟨_, rfl, by { unfold clsM; rw [if_pos (by omega)]; exact eM62 }, by omega⟩)
        · refine V_bipush (q := 55) dX7_cls_53 rfl (by decide) ?_
          refine V_goto (tgt := 65) dX7_cls_55 (by decide) ?_
          first | (exfalso; omega) | (have hr : clsR M up = (-4) := by { unfold clsR; (repeat' (first | rw [if_pos (by omega)] | rw [if_neg (by omega)])) }; exact VM_iret dX7_cls_65 ⟨_, rfl, by { unfold clsM; rw [if_neg (by omega)] }, hr.symm⟩)
      · refine V_bipush (q := 41) dX7_cls_39 rfl (by decide) ?_
        refine V_goto (tgt := 65) dX7_cls_41 (by decide) ?_
        first | (exfalso; omega) | (have hr : clsR M up = (-3) := by { unfold clsR; (repeat' (first | rw [if_pos (by omega)] | rw [if_neg (by omega)])) }; exact VM_iret dX7_cls_65 ⟨_, rfl, by { unfold clsM; rw [if_neg (by omega)] }, hr.symm⟩)
    · refine V_aload_n (q := 21) dX7_cls_20 rfl rfl rfl ?_
      refine VM_getA (q := 24) 2 dX7_cls_21 rfl flX7_7 rfl rfl (Nat.succ_ne_zero _) ?_
      refine V_iload_n (q := 25) dX7_cls_24 rfl rfl rfl ?_
      refine VM_zald (q := 26) 1 dX7_cls_25 rfl rfl (by decide) rfl rfl (by omega) (fun z25 ez25 rz25 => ?_)
      refine V_if_eq (q := 29) (tgt := 32) dX7_cls_26 (by decide) rfl (fun c26 => ?_) (fun c26 => ?_)
      · refine V_aload_n (q := 33) dX7_cls_32 rfl rfl rfl ?_
        refine VM_getI (q := 36) 17 dX7_cls_33 rfl flX7_140 rfl rfl rfl (fun z33_2 ez33_2 rz33_2 => ?_)
        refine V_if_le (q := 39) (tgt := 44) dX7_cls_36 (by decide) rfl (fun c36_2 => ?_) (fun c36_2 => ?_)
        · refine V_aload_n (q := 45) dX7_cls_44 rfl rfl rfl ?_
          refine VM_getI (q := 48) 0 dX7_cls_45 rfl flX7_128 rfl rfl rfl (fun z45_2 ez45_2 rz45_2 => ?_)
          refine V_bipush (q := 50) dX7_cls_48 rfl (by decide) ?_
          refine V_icmp_ne (q := 53) (tgt := 58) dX7_cls_50 (by decide) rfl (fun c50_2 => ?_) (fun c50_2 => ?_)
          · refine V_aload_n (q := 59) dX7_cls_58 rfl rfl rfl ?_
            refine V_iconst (q := 60) dX7_cls_59 rfl (by decide) ?_
            refine V_iload_n (q := 61) dX7_cls_60 rfl rfl rfl ?_
            refine V_iload_n (q := 62) dX7_cls_61 rfl rfl rfl ?_
            refine VM_callI (q := 65) (As := [(0, 0), (0, op), (0, up)]) (tX7_make (C := C) (M := M) (by omega) (by omega) (by omega)) dX7_cls_62 rfl mlX7_143 mw_X7_make im_X7_make sl_X7_make md_X7_make rfl rfl rfl (by decide) (by decide) (Nat.le_refl _) (Nat.le_refl _) (Nat.le_of_ble_eq_true rfl) (fun z62_2 M62_2 rz62_2 hz62_2 => ?_)
            obtain ⟨eM62_2, hz62_2⟩ := hz62_2
            first | (exfalso; omega) | (have hr : clsR M up = M 0 0 := by { unfold clsR; (repeat' (first | rw [if_pos (by omega)] | rw [if_neg (by omega)])) }; exact VM_iret dX7_cls_65 ⟨_, rfl, by { unfold clsM; rw [if_pos (by omega)]; exact eM62_2 }, by omega⟩)
          · refine V_bipush (q := 55) dX7_cls_53 rfl (by decide) ?_
            refine V_goto (tgt := 65) dX7_cls_55 (by decide) ?_
            first | (exfalso; omega) | (have hr : clsR M up = (-4) := by { unfold clsR; (repeat' (first | rw [if_pos (by omega)] | rw [if_neg (by omega)])) }; exact VM_iret dX7_cls_65 ⟨_, rfl, by { unfold clsM; rw [if_neg (by omega)] }, hr.symm⟩)
        · refine V_bipush (q := 41) dX7_cls_39 rfl (by decide) ?_
          refine V_goto (tgt := 65) dX7_cls_41 (by decide) ?_
          first | (exfalso; omega) | (have hr : clsR M up = (-3) := by { unfold clsR; (repeat' (first | rw [if_pos (by omega)] | rw [if_neg (by omega)])) }; exact VM_iret dX7_cls_65 ⟨_, rfl, by { unfold clsM; rw [if_neg (by omega)] }, hr.symm⟩)
      · refine V_bipush (q := 31) dX7_cls_29 rfl (by decide) ?_
        first | (exfalso; omega) | (have hr : clsR M up = (-2) := by { unfold clsR; (repeat' (first | rw [if_pos (by omega)] | rw [if_neg (by omega)])) }; exact VM_iret dX7_cls_31 ⟨_, rfl, by { unfold clsM; rw [if_neg (by omega)] }, hr.symm⟩)
  · refine V_aload_n (q := 6) dX7_cls_5 rfl rfl rfl ?_
    refine V_iload_n (q := 7) dX7_cls_6 rfl rfl rfl ?_
    refine VM_callI (q := 10) (As := [(0, up)]) (tX7_isType (C := C) (M := M) hn0.1) dX7_cls_7 rfl mlX7_136 mw_X7_isType im_X7_isType sl_X7_isType md_X7_isType rfl rfl rfl (by decide) (by decide) (Nat.le_refl _) (Nat.le_refl _) (Nat.le_of_ble_eq_true rfl) (fun z7 M7 rz7 hz7 => ?_)
    obtain ⟨hm, bz7, hz7⟩ := hz7
    replace hm := hm.symm
    subst hm
    refine V_if_ne (q := 13) (tgt := 15) dX7_cls_10 (by decide) rfl (fun c10 => ?_) (fun c10 => ?_)
    · refine V_iload_n (q := 16) dX7_cls_15 rfl rfl rfl ?_
      refine V_iconst (q := 17) dX7_cls_16 rfl (by decide) ?_
      refine V_icmp_eq (q := 20) (tgt := 32) dX7_cls_17 (by decide) rfl (fun c17_2 => ?_) (fun c17_2 => ?_)
      · refine V_aload_n (q := 33) dX7_cls_32 rfl rfl rfl ?_
        refine VM_getI (q := 36) 17 dX7_cls_33 rfl flX7_140 rfl rfl rfl (fun z33_3 ez33_3 rz33_3 => ?_)
        refine V_if_le (q := 39) (tgt := 44) dX7_cls_36 (by decide) rfl (fun c36_3 => ?_) (fun c36_3 => ?_)
        · refine V_aload_n (q := 45) dX7_cls_44 rfl rfl rfl ?_
          refine VM_getI (q := 48) 0 dX7_cls_45 rfl flX7_128 rfl rfl rfl (fun z45_3 ez45_3 rz45_3 => ?_)
          refine V_bipush (q := 50) dX7_cls_48 rfl (by decide) ?_
          refine V_icmp_ne (q := 53) (tgt := 58) dX7_cls_50 (by decide) rfl (fun c50_3 => ?_) (fun c50_3 => ?_)
          · refine V_aload_n (q := 59) dX7_cls_58 rfl rfl rfl ?_
            refine V_iconst (q := 60) dX7_cls_59 rfl (by decide) ?_
            refine V_iload_n (q := 61) dX7_cls_60 rfl rfl rfl ?_
            refine V_iload_n (q := 62) dX7_cls_61 rfl rfl rfl ?_
            refine VM_callI (q := 65) (As := [(0, 0), (0, op), (0, up)]) (tX7_make (C := C) (M := M) (by omega) (by omega) (by omega)) dX7_cls_62 rfl mlX7_143 mw_X7_make im_X7_make sl_X7_make md_X7_make rfl rfl rfl (by decide) (by decide) (Nat.le_refl _) (Nat.le_refl _) (Nat.le_of_ble_eq_true rfl) (fun z62_3 M62_3 rz62_3 hz62_3 => ?_)
            obtain ⟨eM62_3, hz62_3⟩ := hz62_3
            first | (exfalso; omega) | (have hr : clsR M up = M 0 0 := by { unfold clsR; (repeat' (first | rw [if_pos (by omega)] | rw [if_neg (by omega)])) }; exact VM_iret dX7_cls_65 ⟨_, rfl, by { unfold clsM; rw [if_pos (by omega)]; exact eM62_3 }, by omega⟩)
          · refine V_bipush (q := 55) dX7_cls_53 rfl (by decide) ?_
            refine V_goto (tgt := 65) dX7_cls_55 (by decide) ?_
            first | (exfalso; omega) | (have hr : clsR M up = (-4) := by { unfold clsR; (repeat' (first | rw [if_pos (by omega)] | rw [if_neg (by omega)])) }; exact VM_iret dX7_cls_65 ⟨_, rfl, by { unfold clsM; rw [if_neg (by omega)] }, hr.symm⟩)
        · refine V_bipush (q := 41) dX7_cls_39 rfl (by decide) ?_
          refine V_goto (tgt := 65) dX7_cls_41 (by decide) ?_
          first | (exfalso; omega) | (have hr : clsR M up = (-3) := by { unfold clsR; (repeat' (first | rw [if_pos (by omega)] | rw [if_neg (by omega)])) }; exact VM_iret dX7_cls_65 ⟨_, rfl, by { unfold clsM; rw [if_neg (by omega)] }, hr.symm⟩)
      · refine V_aload_n (q := 21) dX7_cls_20 rfl rfl rfl ?_
        refine VM_getA (q := 24) 2 dX7_cls_21 rfl flX7_7 rfl rfl (Nat.succ_ne_zero _) ?_
        refine V_iload_n (q := 25) dX7_cls_24 rfl rfl rfl ?_
        refine VM_zald (q := 26) 1 dX7_cls_25 rfl rfl (by decide) rfl rfl (by omega) (fun z25_2 ez25_2 rz25_2 => ?_)
        refine V_if_eq (q := 29) (tgt := 32) dX7_cls_26 (by decide) rfl (fun c26_2 => ?_) (fun c26_2 => ?_)
        · refine V_aload_n (q := 33) dX7_cls_32 rfl rfl rfl ?_
          refine VM_getI (q := 36) 17 dX7_cls_33 rfl flX7_140 rfl rfl rfl (fun z33_4 ez33_4 rz33_4 => ?_)
          refine V_if_le (q := 39) (tgt := 44) dX7_cls_36 (by decide) rfl (fun c36_4 => ?_) (fun c36_4 => ?_)
          · refine V_aload_n (q := 45) dX7_cls_44 rfl rfl rfl ?_
            refine VM_getI (q := 48) 0 dX7_cls_45 rfl flX7_128 rfl rfl rfl (fun z45_4 ez45_4 rz45_4 => ?_)
            refine V_bipush (q := 50) dX7_cls_48 rfl (by decide) ?_
            refine V_icmp_ne (q := 53) (tgt := 58) dX7_cls_50 (by decide) rfl (fun c50_4 => ?_) (fun c50_4 => ?_)
            · refine V_aload_n (q := 59) dX7_cls_58 rfl rfl rfl ?_
              refine V_iconst (q := 60) dX7_cls_59 rfl (by decide) ?_
              refine V_iload_n (q := 61) dX7_cls_60 rfl rfl rfl ?_
              refine V_iload_n (q := 62) dX7_cls_61 rfl rfl rfl ?_
              refine VM_callI (q := 65) (As := [(0, 0), (0, op), (0, up)]) (tX7_make (C := C) (M := M) (by omega) (by omega) (by omega)) dX7_cls_62 rfl mlX7_143 mw_X7_make im_X7_make sl_X7_make md_X7_make rfl rfl rfl (by decide) (by decide) (Nat.le_refl _) (Nat.le_refl _) (Nat.le_of_ble_eq_true rfl) (fun z62_4 M62_4 rz62_4 hz62_4 => ?_)
              obtain ⟨eM62_4, hz62_4⟩ := hz62_4
              first | (exfalso; omega) | (have hr : clsR M up = M 0 0 := by { unfold clsR; (repeat' (first | rw [if_pos (by omega)] | rw [if_neg (by omega)])) }; exact VM_iret dX7_cls_65 ⟨_, rfl, by { unfold clsM; rw [if_pos (by omega)]; exact eM62_4 }, by omega⟩)
            · refine V_bipush (q := 55) dX7_cls_53 rfl (by decide) ?_
              refine V_goto (tgt := 65) dX7_cls_55 (by decide) ?_
              first | (exfalso; omega) | (have hr : clsR M up = (-4) := by { unfold clsR; (repeat' (first | rw [if_pos (by omega)] | rw [if_neg (by omega)])) }; exact VM_iret dX7_cls_65 ⟨_, rfl, by { unfold clsM; rw [if_neg (by omega)] }, hr.symm⟩)
          · refine V_bipush (q := 41) dX7_cls_39 rfl (by decide) ?_
            refine V_goto (tgt := 65) dX7_cls_41 (by decide) ?_
            first | (exfalso; omega) | (have hr : clsR M up = (-3) := by { unfold clsR; (repeat' (first | rw [if_pos (by omega)] | rw [if_neg (by omega)])) }; exact VM_iret dX7_cls_65 ⟨_, rfl, by { unfold clsM; rw [if_neg (by omega)] }, hr.symm⟩)
        · refine V_bipush (q := 31) dX7_cls_29 rfl (by decide) ?_
          first | (exfalso; omega) | (have hr : clsR M up = (-2) := by { unfold clsR; (repeat' (first | rw [if_pos (by omega)] | rw [if_neg (by omega)])) }; exact VM_iret dX7_cls_31 ⟨_, rfl, by { unfold clsM; rw [if_neg (by omega)] }, hr.symm⟩)
    · refine V_iconst (q := 14) dX7_cls_13 rfl (by decide) ?_
      first | (exfalso; omega) | (have hr : clsR M up = (-1) := by { unfold clsR; (repeat' (first | rw [if_pos (by omega)] | rw [if_neg (by omega)])) }; exact VM_iret dX7_cls_14 ⟨_, rfl, by { unfold clsM; rw [if_neg (by omega)] }, hr.symm⟩)
theorem tX7_face {Γ : GC} {αC : Sh} {C M : Mem} {d : Int} (w : WFD M) (ho : 0 ≤ d ∧ d ≤ 1) : MM Γ yX7_face cX7_face 2 (some .int) 1 [(0, d)] αC C M (mI fun r M1 => M1 = faceM M d ∧ r = faceR M) := by
  have hn0 := w.n
  refine MM_of (k := 0) [(3, 0), (0, d)] pn_X7_face rfl rfl rfl (fun ad0 => ?_)
  refine V_aload_n (q := 1) dX7_face_0 rfl rfl rfl ?_
  refine VM_getI (q := 4) 17 dX7_face_1 rfl flX7_140 rfl rfl rfl (fun z1 ez1 rz1 => ?_)
  refine V_if_le (q := 7) (tgt := 12) dX7_face_4 (by decide) rfl (fun c4 => ?_) (fun c4 => ?_)
  · refine V_aload_n (q := 13) dX7_face_12 rfl rfl rfl ?_
    refine VM_getI (q := 16) 0 dX7_face_13 rfl flX7_128 rfl rfl rfl (fun z13 ez13 rz13 => ?_)
    refine V_bipush (q := 18) dX7_face_16 rfl (by decide) ?_
    refine V_icmp_ne (q := 21) (tgt := 26) dX7_face_18 (by decide) rfl (fun c18 => ?_) (fun c18 => ?_)
    · refine V_aload_n (q := 27) dX7_face_26 rfl rfl rfl ?_
      refine V_iconst (q := 28) dX7_face_27 rfl (by decide) ?_
      refine V_iload_n (q := 29) dX7_face_28 rfl rfl rfl ?_
      refine V_iconst (q := 30) dX7_face_29 rfl (by decide) ?_
      refine VM_callI (q := 33) (As := [(0, 1), (0, d), (0, (-1))]) (tX7_make (C := C) (M := M) (by omega) (by omega) (by omega)) dX7_face_30 rfl mlX7_143 mw_X7_make im_X7_make sl_X7_make md_X7_make rfl rfl rfl (by decide) (by decide) (Nat.le_refl _) (Nat.le_refl _) (Nat.le_of_ble_eq_true rfl) (fun z30 M30 rz30 hz30 => ?_)
      obtain ⟨eM30, hz30⟩ := hz30
      have hr : faceR M = M 0 0 := by { unfold faceR; (repeat' (first | rw [if_pos (by omega)] | rw [if_neg (by omega)])) }
      exact VM_iret dX7_face_33 ⟨_, rfl, by { unfold faceM; rw [if_pos (by omega)]; exact eM30 }, by omega⟩
    · refine V_bipush (q := 23) dX7_face_21 rfl (by decide) ?_
      refine V_goto (tgt := 33) dX7_face_23 (by decide) ?_
      have hr : faceR M = (-4) := by { unfold faceR; (repeat' (first | rw [if_pos (by omega)] | rw [if_neg (by omega)])) }
      exact VM_iret dX7_face_33 ⟨_, rfl, by { unfold faceM; rw [if_neg (by omega)] }, hr.symm⟩
  · refine V_bipush (q := 9) dX7_face_7 rfl (by decide) ?_
    refine V_goto (tgt := 33) dX7_face_9 (by decide) ?_
    have hr : faceR M = (-3) := by { unfold faceR; (repeat' (first | rw [if_pos (by omega)] | rw [if_neg (by omega)])) }
    exact VM_iret dX7_face_33 ⟨_, rfl, by { unfold faceM; rw [if_neg (by omega)] }, hr.symm⟩
theorem tX7_field {Γ : GC} {αC : Sh} {C M : Mem} {t nm c v : Int} (w : WFD M) (hcc : 0 ≤ c ∧ c ≤ 1) : MM Γ yX7_field cX7_field 6 (some .int) 2 [(0, t), (0, nm), (0, c), (0, v)] αC C M (mI fun r M1 => M1 = fldM M t nm c v ∧ r = fldR M t nm) := by
  have hn0 := w.n
  refine MM_of (k := 1) [(3, 0), (0, t), (0, nm), (0, c), (0, v), (9, 0)] pn_X7_field rfl rfl rfl (fun ad0 => ?_)
  refine V_aload_n (q := 1) dX7_field_0 rfl rfl rfl ?_
  refine V_iload_n (q := 2) dX7_field_1 rfl rfl rfl ?_
  refine VM_callI (q := 5) (As := [(0, t)]) (tX7_isType (C := C) (M := M) hn0.1) dX7_field_2 rfl mlX7_136 mw_X7_isType im_X7_isType sl_X7_isType md_X7_isType rfl rfl rfl (by decide) (by decide) (Nat.le_refl _) (Nat.le_refl _) (Nat.le_of_ble_eq_true rfl) (fun z2 M2 rz2 hz2 => ?_)
  obtain ⟨hm, bz2, hz2⟩ := hz2
  replace hm := hm.symm
  subst hm
  refine V_if_ne (q := 8) (tgt := 10) dX7_field_5 (by decide) rfl (fun c5 => ?_) (fun c5 => ?_)
  · refine V_iload_n (q := 11) dX7_field_10 rfl rfl rfl ?_
    refine V_iconst (q := 12) dX7_field_11 rfl (by decide) ?_
    refine V_bipush (q := 14) dX7_field_12 rfl (by decide) ?_
    refine V_in (q := 17) dX7_field_14 rfl mlX7_132 (by decide) (by decide) (Nat.le_refl _) (Nat.le_refl _) (Nat.le_of_ble_eq_true rfl) (fun z14 rz14 ez14 => ?_)
    refine V_if_ne (q := 20) (tgt := 23) dX7_field_17 (by decide) rfl (fun c17 => ?_) (fun c17 => ?_)
    · refine V_aload_n (q := 24) dX7_field_23 rfl rfl rfl ?_
      refine VM_getI (q := 27) 17 dX7_field_24 rfl flX7_140 rfl rfl rfl (fun z24 ez24 rz24 => ?_)
      refine V_if_le (q := 30) (tgt := 33) dX7_field_27 (by decide) rfl (fun c27 => ?_) (fun c27 => ?_)
      · have ht : 0 ≤ t ∧ t < M 0 0 := by omega
        have hc := w.cnt t ht.1 (by omega)
        refine V_aload_n (q := 34) dX7_field_33 rfl rfl rfl ?_
        refine VM_getA (q := 37) 7 dX7_field_34 rfl flX7_26 rfl rfl (Nat.succ_ne_zero _) ?_
        refine V_iload_n (q := 38) dX7_field_37 rfl rfl rfl ?_
        refine VM_iald (q := 39) 6 dX7_field_38 rfl rfl (by decide) rfl rfl (by omega) (fun z38 ez38 rz38 => ?_)
        refine V_bipush (q := 41) dX7_field_39 rfl (by decide) ?_
        refine V_icmp_ne (q := 44) (tgt := 47) dX7_field_41 (by decide) rfl (fun c41 => ?_) (fun c41 => ?_)
        · refine V_aload_n (q := 48) dX7_field_47 rfl rfl rfl ?_
          refine V_iload_n (q := 49) dX7_field_48 rfl rfl rfl ?_
          refine V_iload_n (q := 50) dX7_field_49 rfl rfl rfl ?_
          refine VM_callI (q := 53) (As := [(0, t), (0, nm)]) (tX7_ownField (C := C) (M := M) ⟨ht.1, by omega⟩ hc.2.1) dX7_field_50 rfl mlX7_151 mw_X7_ownField im_X7_ownField sl_X7_ownField md_X7_ownField rfl rfl rfl (by decide) (by decide) (Nat.le_refl _) (Nat.le_refl _) (Nat.le_of_ble_eq_true rfl) (fun z50 M50 rz50 hz50 => ?_)
          obtain ⟨hm, hz50⟩ := hz50
          replace hm := hm.symm
          subst hm
          refine V_if_lt (q := 56) (tgt := 59) dX7_field_53 (by decide) rfl (fun c53 => ?_) (fun c53 => ?_)
          · have hpr := pF_rng M t nm
            refine V_bipush (q := 61) dX7_field_59 rfl (by decide) ?_
            refine V_iload_n (q := 62) dX7_field_61 rfl rfl rfl ?_
            refine V_imul (q := 63) dX7_field_62 rfl (by omega) (fun z62 ez62 => ?_)
            refine V_aload_n (q := 64) dX7_field_63 rfl rfl rfl ?_
            refine VM_getA (q := 67) 7 dX7_field_64 rfl flX7_26 rfl rfl (Nat.succ_ne_zero _) ?_
            refine V_iload_n (q := 68) dX7_field_67 rfl rfl rfl ?_
            refine VM_iald (q := 69) 6 dX7_field_68 rfl rfl (by decide) rfl rfl (by omega) (fun z68 ez68 rz68 => ?_)
            refine V_iadd (q := 70) dX7_field_69 rfl (by omega) (fun z69 ez69 => ?_)
            refine V_istore (q := 72) (lv1 := [(3, 0), (0, t), (0, nm), (0, c), (0, v), (0, z69)]) dX7_field_70 rfl (by decide) rfl rfl ?_
            refine V_aload_n (q := 73) dX7_field_72 rfl rfl rfl ?_
            refine VM_getA (q := 76) 8 dX7_field_73 rfl flX7_29 rfl rfl (Nat.succ_ne_zero _) ?_
            refine V_iload (q := 78) dX7_field_76 rfl rfl ?_
            refine V_iload_n (q := 79) dX7_field_78 rfl rfl rfl ?_
            refine VM_iast (q := 80) 7 dX7_field_79 rfl rfl (by decide) rfl rfl (by omega) (fun M79 eM79 => ?_)
            refine V_aload_n (q := 81) dX7_field_80 rfl rfl rfl ?_
            refine VM_getA (q := 84) 9 dX7_field_81 rfl flX7_32 rfl rfl (Nat.succ_ne_zero _) ?_
            refine V_iload (q := 86) dX7_field_84 rfl rfl ?_
            refine V_iload_n (q := 87) dX7_field_86 rfl rfl rfl ?_
            refine VM_zast (q := 88) 8 dX7_field_87 rfl rfl (by decide) rfl rfl (by omega) (by omega) (fun M87 eM87 => ?_)
            refine V_aload_n (q := 89) dX7_field_88 rfl rfl rfl ?_
            refine VM_getA (q := 92) 10 dX7_field_89 rfl flX7_35 rfl rfl (Nat.succ_ne_zero _) ?_
            refine V_iload (q := 94) dX7_field_92 rfl rfl ?_
            refine V_iload (q := 96) dX7_field_94 rfl rfl ?_
            refine VM_iast (q := 97) 9 dX7_field_96 rfl rfl (by decide) rfl rfl (by omega) (fun M96 eM96 => ?_)
            refine V_aload_n (q := 98) dX7_field_97 rfl rfl rfl ?_
            refine VM_getA (q := 101) 7 dX7_field_98 rfl flX7_26 rfl rfl (Nat.succ_ne_zero _) ?_
            refine V_iload_n (q := 102) dX7_field_101 rfl rfl rfl ?_
            refine V_dup2 (q := 103) dX7_field_102 rfl (show (0 : Nat) ≠ 2 by decide) (show (3 : Nat) ≠ 2 by decide) ?_
            refine VM_iald (q := 104) 6 dX7_field_103 rfl rfl (by decide) rfl rfl (by omega) (fun z103 ez103 rz103 => ?_)
            rw [eM96, mu_t _ _ _ _ (by decide)] at ez103
            rw [eM87, mu_t _ _ _ _ (by decide)] at ez103
            rw [eM79, mu_t _ _ _ _ (by decide)] at ez103
            refine V_iconst (q := 105) dX7_field_104 rfl (by decide) ?_
            refine V_iadd (q := 106) dX7_field_105 rfl (by omega) (fun z105 ez105 => ?_)
            refine VM_iast (q := 107) 6 dX7_field_106 rfl rfl (by decide) rfl rfl (by omega) (fun M106 eM106 => ?_)
            refine V_aload_n (q := 108) dX7_field_107 rfl rfl rfl ?_
            refine VM_getA (q := 111) 7 dX7_field_108 rfl flX7_26 rfl rfl (Nat.succ_ne_zero _) ?_
            refine V_iload_n (q := 112) dX7_field_111 rfl rfl rfl ?_
            refine VM_iald (q := 113) 6 dX7_field_112 rfl rfl (by decide) rfl rfl (by omega) (fun z112 ez112 rz112 => ?_)
            rw [eM106, mu_s] at ez112
            have hr : fldR M t nm = M 6 t + 1 := by { unfold fldR; (repeat' (first | rw [if_pos (by omega)] | rw [if_neg (by omega)])) }
            exact VM_iret dX7_field_113 ⟨_, rfl, by { unfold fldM; rw [if_pos (by omega), eM106, eM96, eM87, eM79, show z69 = 6 * t + M 6 t by omega, show z105 = M 6 t + 1 by omega] }, by omega⟩
          · refine V_bipush (q := 58) dX7_field_56 rfl (by decide) ?_
            have hr : fldR M t nm = (-5) := by { unfold fldR; (repeat' (first | rw [if_pos (by omega)] | rw [if_neg (by omega)])) }
            exact VM_iret dX7_field_58 ⟨_, rfl, by { unfold fldM; rw [if_neg (by omega)] }, hr.symm⟩
        · refine V_bipush (q := 46) dX7_field_44 rfl (by decide) ?_
          have hr : fldR M t nm = (-4) := by { unfold fldR; (repeat' (first | rw [if_pos (by omega)] | rw [if_neg (by omega)])) }
          exact VM_iret dX7_field_46 ⟨_, rfl, by { unfold fldM; rw [if_neg (by omega)] }, hr.symm⟩
      · refine V_bipush (q := 32) dX7_field_30 rfl (by decide) ?_
        have hr : fldR M t nm = (-3) := by { unfold fldR; (repeat' (first | rw [if_pos (by omega)] | rw [if_neg (by omega)])) }
        exact VM_iret dX7_field_32 ⟨_, rfl, by { unfold fldM; rw [if_neg (by omega)] }, hr.symm⟩
    · refine V_bipush (q := 22) dX7_field_20 rfl (by decide) ?_
      have hr : fldR M t nm = (-2) := by { unfold fldR; (repeat' (first | rw [if_pos (by omega)] | rw [if_neg (by omega)])) }
      exact VM_iret dX7_field_22 ⟨_, rfl, by { unfold fldM; rw [if_neg (by omega)] }, hr.symm⟩
  · refine V_iconst (q := 9) dX7_field_8 rfl (by decide) ?_
    have hr : fldR M t nm = (-1) := by { unfold fldR; (repeat' (first | rw [if_pos (by omega)] | rw [if_neg (by omega)])) }
    exact VM_iret dX7_field_9 ⟨_, rfl, by { unfold fldM; rw [if_neg (by omega)] }, hr.symm⟩
theorem tX7_method {Γ : GC} {αC : Sh} {C M : Mem} {t nm : Int} (w : WFD M) : MM Γ yX7_method cX7_method 3 (some .int) 2 [(0, t), (0, nm)] αC C M (mI fun r M1 => M1 = mthM M t nm ∧ r = mthR M t nm) := by
  have hn0 := w.n
  refine MM_of (k := 0) [(3, 0), (0, t), (0, nm)] pn_X7_method rfl rfl rfl (fun ad0 => ?_)
  refine V_aload_n (q := 1) dX7_method_0 rfl rfl rfl ?_
  refine V_iload_n (q := 2) dX7_method_1 rfl rfl rfl ?_
  refine VM_callI (q := 5) (As := [(0, t)]) (tX7_isType (C := C) (M := M) hn0.1) dX7_method_2 rfl mlX7_136 mw_X7_isType im_X7_isType sl_X7_isType md_X7_isType rfl rfl rfl (by decide) (by decide) (Nat.le_refl _) (Nat.le_refl _) (Nat.le_of_ble_eq_true rfl) (fun z2 M2 rz2 hz2 => ?_)
  obtain ⟨hm, bz2, hz2⟩ := hz2
  replace hm := hm.symm
  subst hm
  refine V_if_ne (q := 8) (tgt := 10) dX7_method_5 (by decide) rfl (fun c5 => ?_) (fun c5 => ?_)
  · refine V_iload_n (q := 11) dX7_method_10 rfl rfl rfl ?_
    refine V_iconst (q := 12) dX7_method_11 rfl (by decide) ?_
    refine V_bipush (q := 14) dX7_method_12 rfl (by decide) ?_
    refine V_in (q := 17) dX7_method_14 rfl mlX7_132 (by decide) (by decide) (Nat.le_refl _) (Nat.le_refl _) (Nat.le_of_ble_eq_true rfl) (fun z14 rz14 ez14 => ?_)
    refine V_if_ne (q := 20) (tgt := 23) dX7_method_17 (by decide) rfl (fun c17 => ?_) (fun c17 => ?_)
    · refine V_aload_n (q := 24) dX7_method_23 rfl rfl rfl ?_
      refine VM_getI (q := 27) 17 dX7_method_24 rfl flX7_140 rfl rfl rfl (fun z24 ez24 rz24 => ?_)
      refine V_if_le (q := 30) (tgt := 33) dX7_method_27 (by decide) rfl (fun c27 => ?_) (fun c27 => ?_)
      · have ht : 0 ≤ t ∧ t < M 0 0 := by omega
        have hc := w.cnt t ht.1 (by omega)
        refine V_aload_n (q := 34) dX7_method_33 rfl rfl rfl ?_
        refine VM_getA (q := 37) 11 dX7_method_34 rfl flX7_38 rfl rfl (Nat.succ_ne_zero _) ?_
        refine V_iload_n (q := 38) dX7_method_37 rfl rfl rfl ?_
        refine VM_iald (q := 39) 10 dX7_method_38 rfl rfl (by decide) rfl rfl (by omega) (fun z38 ez38 rz38 => ?_)
        refine V_iconst (q := 40) dX7_method_39 rfl (by decide) ?_
        refine V_icmp_ne (q := 43) (tgt := 46) dX7_method_40 (by decide) rfl (fun c40 => ?_) (fun c40 => ?_)
        · refine V_aload_n (q := 47) dX7_method_46 rfl rfl rfl ?_
          refine V_iload_n (q := 48) dX7_method_47 rfl rfl rfl ?_
          refine V_iload_n (q := 49) dX7_method_48 rfl rfl rfl ?_
          refine VM_callI (q := 52) (As := [(0, t), (0, nm)]) (tX7_ownMethod (C := C) (M := M) ⟨ht.1, by omega⟩ hc.2.2) dX7_method_49 rfl mlX7_155 mw_X7_ownMethod im_X7_ownMethod sl_X7_ownMethod md_X7_ownMethod rfl rfl rfl (by decide) (by decide) (Nat.le_refl _) (Nat.le_refl _) (Nat.le_of_ble_eq_true rfl) (fun z49 M49 rz49 hz49 => ?_)
          obtain ⟨hm, hz49⟩ := hz49
          replace hm := hm.symm
          subst hm
          refine V_if_lt (q := 55) (tgt := 58) dX7_method_52 (by decide) rfl (fun c52 => ?_) (fun c52 => ?_)
          · refine V_aload_n (q := 59) dX7_method_58 rfl rfl rfl ?_
            refine VM_getA (q := 62) 12 dX7_method_59 rfl flX7_41 rfl rfl (Nat.succ_ne_zero _) ?_
            refine V_iconst (q := 63) dX7_method_62 rfl (by decide) ?_
            refine V_iload_n (q := 64) dX7_method_63 rfl rfl rfl ?_
            refine V_imul (q := 65) dX7_method_64 rfl (by omega) (fun z64 ez64 => ?_)
            refine V_aload_n (q := 66) dX7_method_65 rfl rfl rfl ?_
            refine VM_getA (q := 69) 11 dX7_method_66 rfl flX7_38 rfl rfl (Nat.succ_ne_zero _) ?_
            refine V_iload_n (q := 70) dX7_method_69 rfl rfl rfl ?_
            refine VM_iald (q := 71) 10 dX7_method_70 rfl rfl (by decide) rfl rfl (by omega) (fun z70 ez70 rz70 => ?_)
            refine V_iadd (q := 72) dX7_method_71 rfl (by omega) (fun z71 ez71 => ?_)
            refine V_iload_n (q := 73) dX7_method_72 rfl rfl rfl ?_
            refine VM_iast (q := 74) 11 dX7_method_73 rfl rfl (by decide) rfl rfl (by omega) (fun M73 eM73 => ?_)
            refine V_aload_n (q := 75) dX7_method_74 rfl rfl rfl ?_
            refine VM_getA (q := 78) 11 dX7_method_75 rfl flX7_38 rfl rfl (Nat.succ_ne_zero _) ?_
            refine V_iload_n (q := 79) dX7_method_78 rfl rfl rfl ?_
            refine V_dup2 (q := 80) dX7_method_79 rfl (show (0 : Nat) ≠ 2 by decide) (show (3 : Nat) ≠ 2 by decide) ?_
            refine VM_iald (q := 81) 10 dX7_method_80 rfl rfl (by decide) rfl rfl (by omega) (fun z80 ez80 rz80 => ?_)
            rw [eM73, mu_t _ _ _ _ (by decide)] at ez80
            refine V_iconst (q := 82) dX7_method_81 rfl (by decide) ?_
            refine V_iadd (q := 83) dX7_method_82 rfl (by omega) (fun z82 ez82 => ?_)
            refine VM_iast (q := 84) 10 dX7_method_83 rfl rfl (by decide) rfl rfl (by omega) (fun M83 eM83 => ?_)
            refine V_aload_n (q := 85) dX7_method_84 rfl rfl rfl ?_
            refine VM_getA (q := 88) 11 dX7_method_85 rfl flX7_38 rfl rfl (Nat.succ_ne_zero _) ?_
            refine V_iload_n (q := 89) dX7_method_88 rfl rfl rfl ?_
            refine VM_iald (q := 90) 10 dX7_method_89 rfl rfl (by decide) rfl rfl (by omega) (fun z89 ez89 rz89 => ?_)
            rw [eM83, mu_s] at ez89
            have hr : mthR M t nm = M 10 t + 1 := by { unfold mthR; (repeat' (first | rw [if_pos (by omega)] | rw [if_neg (by omega)])) }
            exact VM_iret dX7_method_90 ⟨_, rfl, by { unfold mthM; rw [if_pos (by omega), eM83, eM73, show z71 = 4 * t + M 10 t by omega, show z82 = M 10 t + 1 by omega] }, by omega⟩
          · refine V_bipush (q := 57) dX7_method_55 rfl (by decide) ?_
            have hr : mthR M t nm = (-5) := by { unfold mthR; (repeat' (first | rw [if_pos (by omega)] | rw [if_neg (by omega)])) }
            exact VM_iret dX7_method_57 ⟨_, rfl, by { unfold mthM; rw [if_neg (by omega)] }, hr.symm⟩
        · refine V_bipush (q := 45) dX7_method_43 rfl (by decide) ?_
          have hr : mthR M t nm = (-4) := by { unfold mthR; (repeat' (first | rw [if_pos (by omega)] | rw [if_neg (by omega)])) }
          exact VM_iret dX7_method_45 ⟨_, rfl, by { unfold mthM; rw [if_neg (by omega)] }, hr.symm⟩
      · refine V_bipush (q := 32) dX7_method_30 rfl (by decide) ?_
        have hr : mthR M t nm = (-3) := by { unfold mthR; (repeat' (first | rw [if_pos (by omega)] | rw [if_neg (by omega)])) }
        exact VM_iret dX7_method_32 ⟨_, rfl, by { unfold mthM; rw [if_neg (by omega)] }, hr.symm⟩
    · refine V_bipush (q := 22) dX7_method_20 rfl (by decide) ?_
      have hr : mthR M t nm = (-2) := by { unfold mthR; (repeat' (first | rw [if_pos (by omega)] | rw [if_neg (by omega)])) }
      exact VM_iret dX7_method_22 ⟨_, rfl, by { unfold mthM; rw [if_neg (by omega)] }, hr.symm⟩
  · refine V_iconst (q := 9) dX7_method_8 rfl (by decide) ?_
    have hr : mthR M t nm = (-1) := by { unfold mthR; (repeat' (first | rw [if_pos (by omega)] | rw [if_neg (by omega)])) }
    exact VM_iret dX7_method_9 ⟨_, rfl, by { unfold mthM; rw [if_neg (by omega)] }, hr.symm⟩
