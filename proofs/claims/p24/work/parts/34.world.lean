theorem tX7_world {Γ : GC} {αC : Sh} {C M : Mem} (w : WFD M) : MM Γ yX7_world cX7_world 3 (some .int) 0 [] αC C M (mI fun r M1 => M1 = worldM M ∧ r = worldR M) := by
  have hn0 := w.n
  have hw0 := w.w
  refine MM_of (k := 2) [(3, 0), (9, 0), (9, 0)] pn_X7_world rfl rfl rfl (fun ad0 => ?_)
  have l3 : ∀ (x c : Int) (M1 : Mem), (0 ≤ x ∧ (x = M 17 0 ∧ M 0 0 ≠ 0) ∧ x < 12 ∧ 0 ≤ c ∧ c ≤ 4 ∧ M1 = fillM (mu (mu (mu (mu (fillM (fillM M 28 (40 * x) 40 0) 29 (240 * x) 240 0) 30 x 0) 32 x 0) 34 x (-6)) 35 x (-6)) 36 (4 * x) c 0) → V Γ (gα αC) ad0 (ZM Γ (gα αC) ad0 (mQ αC C (mI fun r M1 => M1 = worldM M ∧ r = worldR M)) 0 0) (RM 0 0 0) RX7 cX7_world 3 (some .int) yX7_world.name 113 [] [(3, 0), (0, x), (0, c)] (gα αC) (mm M1 C) 0 0 := by
    refine loop3 _ (fun _ c _ => (4 - c).toNat) _ ?_
    rintro x c M1 ⟨h0, ⟨hx, hne⟩, h1, h2, h3, h4⟩ ih
    refine V_iload_n (q := 114) dX7_world_113 rfl rfl rfl ?_
    refine V_iconst (q := 115) dX7_world_114 rfl (by decide) ?_
    refine V_icmp_ge (q := 118) (tgt := 135) dX7_world_115 (by decide) rfl (fun c115 => ?_) (fun c115 => ?_)
    · refine V_aload_n (q := 136) dX7_world_135 rfl rfl rfl ?_
      refine V_dup (q := 137) dX7_world_136 rfl (show (3 : Nat) ≠ 2 by decide) ?_
      refine VM_getI (q := 140) 17 dX7_world_137 rfl flX7_140 rfl rfl rfl (fun z137 ez137 rz137 => ?_)
      rw [h4] at ez137
      rw [show fillM (mu (mu (mu (mu (fillM (fillM M 28 (40 * x) 40 0) 29 (240 * x) 240 0) 30 x 0) 32 x 0) 34 x (-6)) 35 x (-6)) 36 (4 * x) c 0 17 0 = M 17 0 from rfl] at ez137
      refine V_iconst (q := 141) dX7_world_140 rfl (by decide) ?_
      refine V_iadd (q := 142) dX7_world_141 rfl (by omega) (fun z141 ez141 => ?_)
      refine VM_putI (q := 145) 17 dX7_world_142 rfl flX7_140 rfl rfl rfl rfl (fun M142 eM142 => ?_)
      refine V_iload_n (q := 146) dX7_world_145 rfl rfl rfl ?_
      have hr : worldR M = M 17 0 := by { unfold worldR; rw [if_neg (by omega), if_neg (by omega)] }
      exact VM_iret dX7_world_146 ⟨_, rfl, by { unfold worldM newW; rw [hr, if_pos (by omega), eM142, h4, show c = 4 by omega, show z141 = x + 1 by omega, ← hx] }, by omega⟩
    · refine V_aload_n (q := 119) dX7_world_118 rfl rfl rfl ?_
      refine VM_getA (q := 122) 37 dX7_world_119 rfl flX7_107 rfl rfl (Nat.succ_ne_zero _) ?_
      refine V_iconst (q := 123) dX7_world_122 rfl (by decide) ?_
      refine V_iload_n (q := 124) dX7_world_123 rfl rfl rfl ?_
      refine V_imul (q := 125) dX7_world_124 rfl (by omega) (fun z124 ez124 => ?_)
      refine V_iload_n (q := 126) dX7_world_125 rfl rfl rfl ?_
      refine V_iadd (q := 127) dX7_world_126 rfl (by omega) (fun z126 ez126 => ?_)
      refine V_iconst (q := 128) dX7_world_127 rfl (by decide) ?_
      refine VM_iast (q := 129) 36 dX7_world_128 rfl rfl (by decide) rfl rfl (by omega) (fun M128 eM128 => ?_)
      refine V_iinc (q := 132) dX7_world_129 rfl rfl (by decide) rfl (by omega) (fun z129 lz129 ez129 hlz129 => ?_)
      obtain rfl : lz129 = [(3, 0), (0, x), (0, z129)] := hlz129
      refine V_goto (tgt := 113) dX7_world_132 (by decide) ?_
      exact ih x (z129) M128 ⟨h0, ⟨hx, hne⟩, h1, by omega, by omega, by { rw [eM128, h4, show z126 = 4 * x + c by omega, fillM_s _ h2, ez129] }⟩ (by omega)
  have l2 : ∀ (x c : Int) (M1 : Mem), (0 ≤ x ∧ (x = M 17 0 ∧ M 0 0 ≠ 0) ∧ x < 12 ∧ 0 ≤ c ∧ c ≤ 240 ∧ M1 = fillM (fillM M 28 (40 * x) 40 0) 29 (240 * x) c 0) → V Γ (gα αC) ad0 (ZM Γ (gα αC) ad0 (mQ αC C (mI fun r M1 => M1 = worldM M ∧ r = worldR M)) 0 0) (RM 0 0 0) RX7 cX7_world 3 (some .int) yX7_world.name 55 [] [(3, 0), (0, x), (0, c)] (gα αC) (mm M1 C) 0 0 := by
    refine loop3 _ (fun _ c _ => (240 - c).toNat) _ ?_
    rintro x c M1 ⟨h0, ⟨hx, hne⟩, h1, h2, h3, h4⟩ ih
    refine V_iload_n (q := 56) dX7_world_55 rfl rfl rfl ?_
    refine V_sipush (q := 59) dX7_world_56 rfl (by decide) ?_
    refine V_icmp_ge (q := 62) (tgt := 81) dX7_world_59 (by decide) rfl (fun c59 => ?_) (fun c59 => ?_)
    · refine V_aload_n (q := 82) dX7_world_81 rfl rfl rfl ?_
      refine VM_getA (q := 85) 31 dX7_world_82 rfl flX7_89 rfl rfl (Nat.succ_ne_zero _) ?_
      refine V_iload_n (q := 86) dX7_world_85 rfl rfl rfl ?_
      refine V_iconst (q := 87) dX7_world_86 rfl (by decide) ?_
      refine VM_iast (q := 88) 30 dX7_world_87 rfl rfl (by decide) rfl rfl (by omega) (fun M87 eM87 => ?_)
      refine V_aload_n (q := 89) dX7_world_88 rfl rfl rfl ?_
      refine VM_getA (q := 92) 33 dX7_world_89 rfl flX7_95 rfl rfl (Nat.succ_ne_zero _) ?_
      refine V_iload_n (q := 93) dX7_world_92 rfl rfl rfl ?_
      refine V_iconst (q := 94) dX7_world_93 rfl (by decide) ?_
      refine VM_iast (q := 95) 32 dX7_world_94 rfl rfl (by decide) rfl rfl (by omega) (fun M94 eM94 => ?_)
      refine V_aload_n (q := 96) dX7_world_95 rfl rfl rfl ?_
      refine VM_getA (q := 99) 35 dX7_world_96 rfl flX7_101 rfl rfl (Nat.succ_ne_zero _) ?_
      refine V_iload_n (q := 100) dX7_world_99 rfl rfl rfl ?_
      refine V_bipush (q := 102) dX7_world_100 rfl (by decide) ?_
      refine VM_iast (q := 103) 34 dX7_world_102 rfl rfl (by decide) rfl rfl (by omega) (fun M102 eM102 => ?_)
      refine V_aload_n (q := 104) dX7_world_103 rfl rfl rfl ?_
      refine VM_getA (q := 107) 36 dX7_world_104 rfl flX7_104 rfl rfl (Nat.succ_ne_zero _) ?_
      refine V_iload_n (q := 108) dX7_world_107 rfl rfl rfl ?_
      refine V_bipush (q := 110) dX7_world_108 rfl (by decide) ?_
      refine VM_iast (q := 111) 35 dX7_world_110 rfl rfl (by decide) rfl rfl (by omega) (fun M110 eM110 => ?_)
      refine V_iconst (q := 112) dX7_world_111 rfl (by decide) ?_
      refine V_istore_n (q := 113) (lv1 := [(3, 0), (0, x), (0, 0)]) dX7_world_112 rfl rfl (by decide) rfl rfl ?_
      exact l3 x 0 M110 ⟨h0, ⟨hx, hne⟩, h1, by decide, by decide, by { rw [fillM_0, eM110, eM102, eM94, eM87, h4, show c = 240 by omega] }⟩
    · refine V_aload_n (q := 63) dX7_world_62 rfl rfl rfl ?_
      refine VM_getA (q := 66) 30 dX7_world_63 rfl flX7_86 rfl rfl (Nat.succ_ne_zero _) ?_
      refine V_sipush (q := 69) dX7_world_66 rfl (by decide) ?_
      refine V_iload_n (q := 70) dX7_world_69 rfl rfl rfl ?_
      refine V_imul (q := 71) dX7_world_70 rfl (by omega) (fun z70 ez70 => ?_)
      refine V_iload_n (q := 72) dX7_world_71 rfl rfl rfl ?_
      refine V_iadd (q := 73) dX7_world_72 rfl (by omega) (fun z72 ez72 => ?_)
      refine V_iconst (q := 74) dX7_world_73 rfl (by decide) ?_
      refine VM_iast (q := 75) 29 dX7_world_74 rfl rfl (by decide) rfl rfl (by omega) (fun M74 eM74 => ?_)
      refine V_iinc (q := 78) dX7_world_75 rfl rfl (by decide) rfl (by omega) (fun z75 lz75 ez75 hlz75 => ?_)
      obtain rfl : lz75 = [(3, 0), (0, x), (0, z75)] := hlz75
      refine V_goto (tgt := 55) dX7_world_78 (by decide) ?_
      exact ih x (z75) M74 ⟨h0, ⟨hx, hne⟩, h1, by omega, by omega, by { rw [eM74, h4, show z72 = 240 * x + c by omega, fillM_s _ h2, ez75] }⟩ (by omega)
  have l1 : ∀ (x c : Int) (M1 : Mem), (0 ≤ x ∧ (x = M 17 0 ∧ M 0 0 ≠ 0) ∧ x < 12 ∧ 0 ≤ c ∧ c ≤ 40 ∧ M1 = fillM M 28 (40 * x) c 0) → V Γ (gα αC) ad0 (ZM Γ (gα αC) ad0 (mQ αC C (mI fun r M1 => M1 = worldM M ∧ r = worldR M)) 0 0) (RM 0 0 0) RX7 cX7_world 3 (some .int) yX7_world.name 29 [] [(3, 0), (0, x), (0, c)] (gα αC) (mm M1 C) 0 0 := by
    refine loop3 _ (fun _ c _ => (40 - c).toNat) _ ?_
    rintro x c M1 ⟨h0, ⟨hx, hne⟩, h1, h2, h3, h4⟩ ih
    refine V_iload_n (q := 30) dX7_world_29 rfl rfl rfl ?_
    refine V_bipush (q := 32) dX7_world_30 rfl (by decide) ?_
    refine V_icmp_ge (q := 35) (tgt := 53) dX7_world_32 (by decide) rfl (fun c32 => ?_) (fun c32 => ?_)
    · refine V_iconst (q := 54) dX7_world_53 rfl (by decide) ?_
      refine V_istore_n (q := 55) (lv1 := [(3, 0), (0, x), (0, 0)]) dX7_world_54 rfl rfl (by decide) rfl rfl ?_
      exact l2 x 0 M1 ⟨h0, ⟨hx, hne⟩, h1, by decide, by decide, by { rw [fillM_0, h4, show c = 40 by omega] }⟩
    · refine V_aload_n (q := 36) dX7_world_35 rfl rfl rfl ?_
      refine VM_getA (q := 39) 29 dX7_world_36 rfl flX7_83 rfl rfl (Nat.succ_ne_zero _) ?_
      refine V_bipush (q := 41) dX7_world_39 rfl (by decide) ?_
      refine V_iload_n (q := 42) dX7_world_41 rfl rfl rfl ?_
      refine V_imul (q := 43) dX7_world_42 rfl (by omega) (fun z42 ez42 => ?_)
      refine V_iload_n (q := 44) dX7_world_43 rfl rfl rfl ?_
      refine V_iadd (q := 45) dX7_world_44 rfl (by omega) (fun z44 ez44 => ?_)
      refine V_iconst (q := 46) dX7_world_45 rfl (by decide) ?_
      refine VM_iast (q := 47) 28 dX7_world_46 rfl rfl (by decide) rfl rfl (by omega) (fun M46 eM46 => ?_)
      refine V_iinc (q := 50) dX7_world_47 rfl rfl (by decide) rfl (by omega) (fun z47 lz47 ez47 hlz47 => ?_)
      obtain rfl : lz47 = [(3, 0), (0, x), (0, z47)] := hlz47
      refine V_goto (tgt := 29) dX7_world_50 (by decide) ?_
      exact ih x (z47) M46 ⟨h0, ⟨hx, hne⟩, h1, by omega, by omega, by { rw [eM46, h4, show z44 = 40 * x + c by omega, fillM_s _ h2, ez47] }⟩ (by omega)
  refine V_aload_n (q := 1) dX7_world_0 rfl rfl rfl ?_
  refine VM_getI (q := 4) 17 dX7_world_1 rfl flX7_140 rfl rfl rfl (fun z1 ez1 rz1 => ?_)
  refine V_bipush (q := 6) dX7_world_4 rfl (by decide) ?_
  refine V_icmp_ne (q := 9) (tgt := 12) dX7_world_6 (by decide) rfl (fun c6 => ?_) (fun c6 => ?_)
  · refine V_aload_n (q := 13) dX7_world_12 rfl rfl rfl ?_
    refine VM_getI (q := 16) 0 dX7_world_13 rfl flX7_128 rfl rfl rfl (fun z13 ez13 rz13 => ?_)
    refine V_if_ne (q := 19) (tgt := 22) dX7_world_16 (by decide) rfl (fun c16 => ?_) (fun c16 => ?_)
    · refine V_aload_n (q := 23) dX7_world_22 rfl rfl rfl ?_
      refine VM_getI (q := 26) 17 dX7_world_23 rfl flX7_140 rfl rfl rfl (fun z23 ez23 rz23 => ?_)
      refine V_istore_n (q := 27) (lv1 := [(3, 0), (0, z23), (9, 0)]) dX7_world_26 rfl rfl (by decide) rfl rfl ?_
      refine V_iconst (q := 28) dX7_world_27 rfl (by decide) ?_
      refine V_istore_n (q := 29) (lv1 := [(3, 0), (0, z23), (0, 0)]) dX7_world_28 rfl rfl (by decide) rfl rfl ?_
      exact l1 (z23) 0 M ⟨by omega, ⟨by omega, by omega⟩, by omega, by decide, by decide, (fillM_0 _ _ _ _).symm⟩
    · refine V_bipush (q := 21) dX7_world_19 rfl (by decide) ?_
      have hr : worldR M = (-5) := by { unfold worldR; first | rw [if_pos (by omega)] | rw [if_neg (by omega), if_pos (by omega)] }
      exact VM_iret dX7_world_21 ⟨_, rfl, by { unfold worldM; rw [if_neg (by omega)] }, hr.symm⟩
  · refine V_bipush (q := 11) dX7_world_9 rfl (by decide) ?_
    have hr : worldR M = (-4) := by { unfold worldR; first | rw [if_pos (by omega)] | rw [if_neg (by omega), if_pos (by omega)] }
    exact VM_iret dX7_world_11 ⟨_, rfl, by { unfold worldM; rw [if_neg (by omega)] }, hr.symm⟩
theorem cpM_cross (N : Mem) {b a c : Int} (h : 0 ≤ c) : mu (cpM N 33 (40 * b) (40 * a) c) 33 (40 * b + c) (N 33 (40 * a + c)) = cpM N 33 (40 * b) (40 * a) (c + 1) := cpM_s N h
theorem tX7_copy {Γ : GC} {αC : Sh} {C M : Mem} {a b : Int} (ha : 0 ≤ a ∧ a ≤ 12) (hb : 0 ≤ b ∧ b ≤ 12) (hne : a ≠ b) : MM Γ yX7_copy cX7_copy 4 none 0 [(0, a), (0, b)] αC C M (mN fun M1 => M1 = copyM M a b) := by
  refine MM_of (k := 1) [(3, 0), (0, a), (0, b), (9, 0)] pn_X7_copy rfl rfl rfl (fun ad0 => ?_)
  have l3 : ∀ (c : Int) (M1 : Mem), (0 ≤ c ∧ c ≤ 300 ∧ M1 = cpM (cpM (cpM (cpM M 28 (40 * b) (40 * a) 40) 33 (40 * b) (40 * a) 40) 29 (240 * b) (240 * a) 240) 31 (300 * b) (300 * a) c) → V Γ (gα αC) ad0 (ZM Γ (gα αC) ad0 (mQ αC C (mN fun M1 => M1 = copyM M a b)) 0 0) (RM 0 0 0) RX7 cX7_copy 4 none yX7_copy.name 99 [] [(3, 0), (0, a), (0, b), (0, c)] (gα αC) (mm M1 C) 0 0 := by
    refine loop2 _ (fun c _ => (300 - c).toNat) _ ?_
    rintro c M1 ⟨h1, h2, h4⟩ ih
    refine V_iload_n (q := 100) dX7_copy_99 rfl rfl rfl ?_
    refine V_sipush (q := 103) dX7_copy_100 rfl (by decide) ?_
    refine V_icmp_ge (q := 106) (tgt := 136) dX7_copy_103 (by decide) rfl (fun c103 => ?_) (fun c103 => ?_)
    · refine V_aload_n (q := 137) dX7_copy_136 rfl rfl rfl ?_
      refine VM_getA (q := 140) 31 dX7_copy_137 rfl flX7_89 rfl rfl (Nat.succ_ne_zero _) ?_
      refine V_iload_n (q := 141) dX7_copy_140 rfl rfl rfl ?_
      refine V_aload_n (q := 142) dX7_copy_141 rfl rfl rfl ?_
      refine VM_getA (q := 145) 31 dX7_copy_142 rfl flX7_89 rfl rfl (Nat.succ_ne_zero _) ?_
      refine V_iload_n (q := 146) dX7_copy_145 rfl rfl rfl ?_
      refine VM_iald (q := 147) 30 dX7_copy_146 rfl rfl (by decide) rfl rfl (by omega) (fun z146 ez146 rz146 => ?_)
      rw [h4] at ez146
      rw [show (cpM (cpM (cpM (cpM M 28 (40 * b) (40 * a) 40) 33 (40 * b) (40 * a) 40) 29 (240 * b) (240 * a) 240) 31 (300 * b) (300 * a) c) 30 a = M 30 a from rfl] at ez146
      refine VM_iast (q := 148) 30 dX7_copy_147 rfl rfl (by decide) rfl rfl (by omega) (fun M147 eM147 => ?_)
      refine V_aload_n (q := 149) dX7_copy_148 rfl rfl rfl ?_
      refine VM_getA (q := 152) 33 dX7_copy_149 rfl flX7_95 rfl rfl (Nat.succ_ne_zero _) ?_
      refine V_iload_n (q := 153) dX7_copy_152 rfl rfl rfl ?_
      refine V_aload_n (q := 154) dX7_copy_153 rfl rfl rfl ?_
      refine VM_getA (q := 157) 33 dX7_copy_154 rfl flX7_95 rfl rfl (Nat.succ_ne_zero _) ?_
      refine V_iload_n (q := 158) dX7_copy_157 rfl rfl rfl ?_
      refine VM_iald (q := 159) 32 dX7_copy_158 rfl rfl (by decide) rfl rfl (by omega) (fun z158 ez158 rz158 => ?_)
      rw [eM147, mu_t _ _ _ _ (by decide), h4] at ez158
      rw [show (cpM (cpM (cpM (cpM M 28 (40 * b) (40 * a) 40) 33 (40 * b) (40 * a) 40) 29 (240 * b) (240 * a) 240) 31 (300 * b) (300 * a) c) 32 a = M 32 a from rfl] at ez158
      refine VM_iast (q := 160) 32 dX7_copy_159 rfl rfl (by decide) rfl rfl (by omega) (fun M159 eM159 => ?_)
      exact VM_vret dX7_copy_160 ⟨rfl, by { unfold copyM; rw [eM159, eM147, ez158, ez146, h4, show c = 300 by omega] }⟩
    · refine V_aload_n (q := 107) dX7_copy_106 rfl rfl rfl ?_
      refine VM_getA (q := 110) 32 dX7_copy_107 rfl flX7_92 rfl rfl (Nat.succ_ne_zero _) ?_
      refine V_sipush (q := 113) dX7_copy_110 rfl (by decide) ?_
      refine V_iload_n (q := 114) dX7_copy_113 rfl rfl rfl ?_
      refine V_imul (q := 115) dX7_copy_114 rfl (by omega) (fun z114 ez114 => ?_)
      refine V_iload_n (q := 116) dX7_copy_115 rfl rfl rfl ?_
      refine V_iadd (q := 117) dX7_copy_116 rfl (by omega) (fun z116 ez116 => ?_)
      refine V_aload_n (q := 118) dX7_copy_117 rfl rfl rfl ?_
      refine VM_getA (q := 121) 32 dX7_copy_118 rfl flX7_92 rfl rfl (Nat.succ_ne_zero _) ?_
      refine V_sipush (q := 124) dX7_copy_121 rfl (by decide) ?_
      refine V_iload_n (q := 125) dX7_copy_124 rfl rfl rfl ?_
      refine V_imul (q := 126) dX7_copy_125 rfl (by omega) (fun z125 ez125 => ?_)
      refine V_iload_n (q := 127) dX7_copy_126 rfl rfl rfl ?_
      refine V_iadd (q := 128) dX7_copy_127 rfl (by omega) (fun z127 ez127 => ?_)
      refine VM_iald (q := 129) 31 dX7_copy_128 rfl rfl (by decide) rfl rfl (by omega) (fun z128 ez128 rz128 => ?_)
      rw [h4, show z127 = 300 * a + c by omega, cpM_o _ (by omega)] at ez128
      refine VM_iast (q := 130) 31 dX7_copy_129 rfl rfl (by decide) rfl rfl (by omega) (fun M129 eM129 => ?_)
      refine V_iinc (q := 133) dX7_copy_130 rfl rfl (by decide) rfl (by omega) (fun z130 lz130 ez130 hlz130 => ?_)
      obtain rfl : lz130 = [(3, 0), (0, a), (0, b), (0, z130)] := hlz130
      refine V_goto (tgt := 99) dX7_copy_133 (by decide) ?_
      exact ih (z130) M129 ⟨by omega, by omega, by { rw [eM129, h4, show z116 = 300 * b + c by omega, ez128, cpM_s _ h1, ez130] }⟩ (by omega)
  have l2 : ∀ (c : Int) (M1 : Mem), (0 ≤ c ∧ c ≤ 240 ∧ M1 = cpM (cpM (cpM M 28 (40 * b) (40 * a) 40) 33 (40 * b) (40 * a) 40) 29 (240 * b) (240 * a) c) → V Γ (gα αC) ad0 (ZM Γ (gα αC) ad0 (mQ αC C (mN fun M1 => M1 = copyM M a b)) 0 0) (RM 0 0 0) RX7 cX7_copy 4 none yX7_copy.name 60 [] [(3, 0), (0, a), (0, b), (0, c)] (gα αC) (mm M1 C) 0 0 := by
    refine loop2 _ (fun c _ => (240 - c).toNat) _ ?_
    rintro c M1 ⟨h1, h2, h4⟩ ih
    refine V_iload_n (q := 61) dX7_copy_60 rfl rfl rfl ?_
    refine V_sipush (q := 64) dX7_copy_61 rfl (by decide) ?_
    refine V_icmp_ge (q := 67) (tgt := 97) dX7_copy_64 (by decide) rfl (fun c64 => ?_) (fun c64 => ?_)
    · refine V_iconst (q := 98) dX7_copy_97 rfl (by decide) ?_
      refine V_istore_n (q := 99) (lv1 := [(3, 0), (0, a), (0, b), (0, 0)]) dX7_copy_98 rfl rfl (by decide) rfl rfl ?_
      exact l3 0 M1 ⟨by decide, by decide, by { rw [cpM_0, h4, show c = 240 by omega] }⟩
    · refine V_aload_n (q := 68) dX7_copy_67 rfl rfl rfl ?_
      refine VM_getA (q := 71) 30 dX7_copy_68 rfl flX7_86 rfl rfl (Nat.succ_ne_zero _) ?_
      refine V_sipush (q := 74) dX7_copy_71 rfl (by decide) ?_
      refine V_iload_n (q := 75) dX7_copy_74 rfl rfl rfl ?_
      refine V_imul (q := 76) dX7_copy_75 rfl (by omega) (fun z75 ez75 => ?_)
      refine V_iload_n (q := 77) dX7_copy_76 rfl rfl rfl ?_
      refine V_iadd (q := 78) dX7_copy_77 rfl (by omega) (fun z77 ez77 => ?_)
      refine V_aload_n (q := 79) dX7_copy_78 rfl rfl rfl ?_
      refine VM_getA (q := 82) 30 dX7_copy_79 rfl flX7_86 rfl rfl (Nat.succ_ne_zero _) ?_
      refine V_sipush (q := 85) dX7_copy_82 rfl (by decide) ?_
      refine V_iload_n (q := 86) dX7_copy_85 rfl rfl rfl ?_
      refine V_imul (q := 87) dX7_copy_86 rfl (by omega) (fun z86 ez86 => ?_)
      refine V_iload_n (q := 88) dX7_copy_87 rfl rfl rfl ?_
      refine V_iadd (q := 89) dX7_copy_88 rfl (by omega) (fun z88 ez88 => ?_)
      refine VM_iald (q := 90) 29 dX7_copy_89 rfl rfl (by decide) rfl rfl (by omega) (fun z89 ez89 rz89 => ?_)
      rw [h4, show z88 = 240 * a + c by omega, cpM_o _ (by omega)] at ez89
      refine VM_iast (q := 91) 29 dX7_copy_90 rfl rfl (by decide) rfl rfl (by omega) (fun M90 eM90 => ?_)
      refine V_iinc (q := 94) dX7_copy_91 rfl rfl (by decide) rfl (by omega) (fun z91 lz91 ez91 hlz91 => ?_)
      obtain rfl : lz91 = [(3, 0), (0, a), (0, b), (0, z91)] := hlz91
      refine V_goto (tgt := 60) dX7_copy_94 (by decide) ?_
      exact ih (z91) M90 ⟨by omega, by omega, by { rw [eM90, h4, show z77 = 240 * b + c by omega, ez89, cpM_s _ h1, ez91] }⟩ (by omega)
  have l1 : ∀ (c : Int) (M1 : Mem), (0 ≤ c ∧ c ≤ 40 ∧ M1 = cpM (cpM M 28 (40 * b) (40 * a) c) 33 (40 * b) (40 * a) c) → V Γ (gα αC) ad0 (ZM Γ (gα αC) ad0 (mQ αC C (mN fun M1 => M1 = copyM M a b)) 0 0) (RM 0 0 0) RX7 cX7_copy 4 none yX7_copy.name 2 [] [(3, 0), (0, a), (0, b), (0, c)] (gα αC) (mm M1 C) 0 0 := by
    refine loop2 _ (fun c _ => (40 - c).toNat) _ ?_
    rintro c M1 ⟨h1, h2, h4⟩ ih
    refine V_iload_n (q := 3) dX7_copy_2 rfl rfl rfl ?_
    refine V_bipush (q := 5) dX7_copy_3 rfl (by decide) ?_
    refine V_icmp_ge (q := 8) (tgt := 58) dX7_copy_5 (by decide) rfl (fun c5 => ?_) (fun c5 => ?_)
    · refine V_iconst (q := 59) dX7_copy_58 rfl (by decide) ?_
      refine V_istore_n (q := 60) (lv1 := [(3, 0), (0, a), (0, b), (0, 0)]) dX7_copy_59 rfl rfl (by decide) rfl rfl ?_
      exact l2 0 M1 ⟨by decide, by decide, by { rw [cpM_0, h4, show c = 40 by omega] }⟩
    · refine V_aload_n (q := 9) dX7_copy_8 rfl rfl rfl ?_
      refine VM_getA (q := 12) 29 dX7_copy_9 rfl flX7_83 rfl rfl (Nat.succ_ne_zero _) ?_
      refine V_bipush (q := 14) dX7_copy_12 rfl (by decide) ?_
      refine V_iload_n (q := 15) dX7_copy_14 rfl rfl rfl ?_
      refine V_imul (q := 16) dX7_copy_15 rfl (by omega) (fun z15 ez15 => ?_)
      refine V_iload_n (q := 17) dX7_copy_16 rfl rfl rfl ?_
      refine V_iadd (q := 18) dX7_copy_17 rfl (by omega) (fun z17 ez17 => ?_)
      refine V_aload_n (q := 19) dX7_copy_18 rfl rfl rfl ?_
      refine VM_getA (q := 22) 29 dX7_copy_19 rfl flX7_83 rfl rfl (Nat.succ_ne_zero _) ?_
      refine V_bipush (q := 24) dX7_copy_22 rfl (by decide) ?_
      refine V_iload_n (q := 25) dX7_copy_24 rfl rfl rfl ?_
      refine V_imul (q := 26) dX7_copy_25 rfl (by omega) (fun z25 ez25 => ?_)
      refine V_iload_n (q := 27) dX7_copy_26 rfl rfl rfl ?_
      refine V_iadd (q := 28) dX7_copy_27 rfl (by omega) (fun z27 ez27 => ?_)
      refine VM_iald (q := 29) 28 dX7_copy_28 rfl rfl (by decide) rfl rfl (by omega) (fun z28 ez28 rz28 => ?_)
      rw [h4, show z27 = 40 * a + c by omega, cpM_f _ (by decide : (28 : Int) ≠ 33), cpM_o _ (by omega)] at ez28
      refine VM_iast (q := 30) 28 dX7_copy_29 rfl rfl (by decide) rfl rfl (by omega) (fun M29 eM29 => ?_)
      refine V_aload_n (q := 31) dX7_copy_30 rfl rfl rfl ?_
      refine VM_getA (q := 34) 34 dX7_copy_31 rfl flX7_98 rfl rfl (Nat.succ_ne_zero _) ?_
      refine V_bipush (q := 36) dX7_copy_34 rfl (by decide) ?_
      refine V_iload_n (q := 37) dX7_copy_36 rfl rfl rfl ?_
      refine V_imul (q := 38) dX7_copy_37 rfl (by omega) (fun z37 ez37 => ?_)
      refine V_iload_n (q := 39) dX7_copy_38 rfl rfl rfl ?_
      refine V_iadd (q := 40) dX7_copy_39 rfl (by omega) (fun z39 ez39 => ?_)
      refine V_aload_n (q := 41) dX7_copy_40 rfl rfl rfl ?_
      refine VM_getA (q := 44) 34 dX7_copy_41 rfl flX7_98 rfl rfl (Nat.succ_ne_zero _) ?_
      refine V_bipush (q := 46) dX7_copy_44 rfl (by decide) ?_
      refine V_iload_n (q := 47) dX7_copy_46 rfl rfl rfl ?_
      refine V_imul (q := 48) dX7_copy_47 rfl (by omega) (fun z47 ez47 => ?_)
      refine V_iload_n (q := 49) dX7_copy_48 rfl rfl rfl ?_
      refine V_iadd (q := 50) dX7_copy_49 rfl (by omega) (fun z49 ez49 => ?_)
      refine VM_iald (q := 51) 33 dX7_copy_50 rfl rfl (by decide) rfl rfl (by omega) (fun z50 ez50 rz50 => ?_)
      rw [eM29, mu_t _ _ _ _ (by decide), h4, show z49 = 40 * a + c by omega, cpM_o _ (by omega), cpM_f _ (by decide : (33 : Int) ≠ 28)] at ez50
      refine VM_iast (q := 52) 33 dX7_copy_51 rfl rfl (by decide) rfl rfl (by omega) (fun M51 eM51 => ?_)
      refine V_iinc (q := 55) dX7_copy_52 rfl rfl (by decide) rfl (by omega) (fun z52 lz52 ez52 hlz52 => ?_)
      obtain rfl : lz52 = [(3, 0), (0, a), (0, b), (0, z52)] := hlz52
      refine V_goto (tgt := 2) dX7_copy_55 (by decide) ?_
      exact ih (z52) M51 ⟨by omega, by omega, by { rw [eM51, eM29, h4, show z17 = 40 * b + c by omega, show z39 = 40 * b + c by omega, mu_cp _ (by decide : (28 : Int) ≠ 33), ez28, cpM_s _ h1]; rw [show z50 = (cpM M 28 (40 * b) (40 * a) (c + 1)) 33 (40 * a + c) by { rw [cpM_f _ (by decide : (33 : Int) ≠ 28)]; exact ez50 }]; rw [cpM_cross _ h1, ez52] }⟩ (by omega)
  refine V_iconst (q := 1) dX7_copy_0 rfl (by decide) ?_
  refine V_istore_n (q := 2) (lv1 := [(3, 0), (0, a), (0, b), (0, 0)]) dX7_copy_1 rfl rfl (by decide) rfl rfl ?_
  exact l1 0 M ⟨by decide, by decide, by { rw [cpM_0, cpM_0] }⟩
