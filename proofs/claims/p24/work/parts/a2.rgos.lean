/-! THE REFERENCE'S TOUCH MACHINE: a start goes on -/
def SCf (M Ms : Mem) : Prop := ∀ k : Int, k ≠ 18 → k ≠ 20 → k ≠ 21 → k ≠ 22 → k ≠ 23 → Ms k = M k
def gosM (L : List Int) (t f : Int) (Ms : Mem) : Mem := if Ms 41 f < L.length then startM (L.getD (Ms 41 f).toNat 0) (mu Ms 41 f (Ms 41 f + 1)) else if Ms 41 f = L.length then (if Ms 44 0 = 30 then mu (mu Ms 41 f (Ms 41 f + 1)) 49 0 1 else pushM (5 * t) (mu (mu (mu (mu Ms 41 f (Ms 41 f + 1)) 33 (40 * Ms 37 0 + Ms 32 (Ms 37 0)) t) 32 (Ms 37 0) (Ms 32 (Ms 37 0) + 1)) 48 0 (Ms 48 0 + 1))) else mu (mu (mu Ms 41 f (Ms 41 f + 1)) 28 (40 * Ms 37 0 + t) 2) 38 0 (Ms 38 0 - 1)
theorem RG_c {M M1 : Mem} (h : ∀ k i : Int, (k = 30 ∨ k = 37 ∨ k = 38 ∨ k = 44 ∨ k = 47) → M1 k i = M k i) (g : RG M) : RG M1 := by
  unfold RG at g ⊢
  rw [h 37 0 (by decide), h 38 0 (by decide), h 30 _ (by decide), h 44 0 (by decide), h 47 0 (by decide)]
  exact g
theorem tX7_goOnStart {Γ : GC} {αC : Sh} {C M : Mem} {t f : Int} (w : WFD M) (g : RG M) (hf : f = M 38 0 - 1) (f0 : 0 ≤ f) (h40 : M 40 f = t) (ht : 0 ≤ t ∧ t < M 0 0) (h41 : 0 ≤ M 41 f ∧ M 41 f ≤ 100) (h32 : 0 ≤ M 32 (M 37 0) ∧ M 32 (M 37 0) ≤ 40) (h33 : M 41 f = (LF M t).length → M 32 (M 37 0) ≤ 39) (h48 : 0 ≤ M 48 0 ∧ M 48 0 ≤ 1000) : MM Γ yX7_goOnStart cX7_goOnStart 4 none 2 [] αC C M (mN fun M1 => ∃ Ms : Mem, SCf M Ms ∧ M1 = gosM (LF M t) t f Ms) := by
  have hn := w.n
  obtain ⟨g1, g2, g3, g4, g5⟩ := id g
  refine MM_of (k := 3) [(3, 0), (9, 0), (9, 0), (9, 0)] pn_X7_goOnStart rfl rfl rfl (fun ad0 => ?_)
  refine V_aload_n (q := 1) dX7_goOnStart_0 rfl rfl rfl ?_
  refine VM_getI (q := 4) 38 dX7_goOnStart_1 rfl flX7_213 rfl rfl rfl (fun z1 ez1 rz1 => ?_)
  refine V_iconst (q := 5) dX7_goOnStart_4 rfl (by decide) ?_
  refine V_isub (q := 6) dX7_goOnStart_5 rfl (by omega) (fun z5 ez5 => ?_)
  refine V_istore_n (q := 7) (lv1 := [(3, 0), (0, z5), (9, 0), (9, 0)]) dX7_goOnStart_6 rfl rfl (by decide) rfl rfl ?_
  have e4f : z5 = f := by omega
  refine V_aload_n (q := 8) dX7_goOnStart_7 rfl rfl rfl ?_
  refine VM_getA (q := 11) 41 dX7_goOnStart_8 rfl flX7_113 rfl rfl (Nat.succ_ne_zero _) ?_
  refine V_iload_n (q := 12) dX7_goOnStart_11 rfl rfl rfl ?_
  refine VM_iald (q := 13) 40 dX7_goOnStart_12 rfl rfl (by decide) rfl rfl (by omega) (fun z12 ez12 rz12 => ?_)
  rw [e4f] at ez12
  refine V_istore_n (q := 14) (lv1 := [(3, 0), (0, z5), (0, z12), (9, 0)]) dX7_goOnStart_13 rfl rfl (by decide) rfl rfl ?_
  have e12t : z12 = t := ez12.trans h40
  refine V_aload_n (q := 15) dX7_goOnStart_14 rfl rfl rfl ?_
  refine V_iload_n (q := 16) dX7_goOnStart_15 rfl rfl rfl ?_
  refine VM_callN (q := 19) (As := [(0, z12)]) (tX7_listFirst (C := C) (M := M) w (by omega)) dX7_goOnStart_16 rfl mlX7_173 mw_X7_listFirst im_X7_listFirst sl_X7_listFirst md_X7_listFirst rfl rfl rfl (by decide) (by decide) (Nat.le_refl _) (Nat.le_refl _) (Nat.le_of_ble_eq_true rfl) (fun M16 hM16 => ?_)
  obtain ⟨gM16, hl1, hl2, hl3⟩ := hM16
  have gg : RG M16 := RG_c (fun k i h => by rw [gM16 k (by omega) (by omega) (by omega) (by omega) (by omega)]) g
  obtain ⟨r1, r2, r3, r4, r5⟩ := id gg
  have q41 := congrFun (gM16 41 (by decide) (by decide) (by decide) (by decide) (by decide)) f
  have q38 := congrFun (gM16 38 (by decide) (by decide) (by decide) (by decide) (by decide)) 0
  have q48 := congrFun (gM16 48 (by decide) (by decide) (by decide) (by decide) (by decide)) 0
  have q37 := congrFun (gM16 37 (by decide) (by decide) (by decide) (by decide) (by decide)) 0
  have q32 := congrFun (gM16 32 (by decide) (by decide) (by decide) (by decide) (by decide)) (M 37 0)
  rw [← q37] at q32 h32 h33
  rw [e12t] at hl1 hl2 hl3
  refine V_aload_n (q := 20) dX7_goOnStart_19 rfl rfl rfl ?_
  refine VM_getA (q := 23) 42 dX7_goOnStart_20 rfl flX7_116 rfl rfl (Nat.succ_ne_zero _) ?_
  refine V_iload_n (q := 24) dX7_goOnStart_23 rfl rfl rfl ?_
  refine VM_iald (q := 25) 41 dX7_goOnStart_24 rfl rfl (by decide) rfl rfl (by omega) (fun z24 ez24 rz24 => ?_)
  rw [e4f] at ez24
  refine V_istore_n (q := 26) (lv1 := [(3, 0), (0, z5), (0, z12), (0, z24)]) dX7_goOnStart_25 rfl rfl (by decide) rfl rfl ?_
  refine V_aload_n (q := 27) dX7_goOnStart_26 rfl rfl rfl ?_
  refine VM_getA (q := 30) 42 dX7_goOnStart_27 rfl flX7_116 rfl rfl (Nat.succ_ne_zero _) ?_
  refine V_iload_n (q := 31) dX7_goOnStart_30 rfl rfl rfl ?_
  refine V_dup2 (q := 32) dX7_goOnStart_31 rfl (show (0 : Nat) ≠ 2 by decide) (show (3 : Nat) ≠ 2 by decide) ?_
  refine VM_iald (q := 33) 41 dX7_goOnStart_32 rfl rfl (by decide) rfl rfl (by omega) (fun z32 ez32 rz32 => ?_)
  rw [e4f] at ez32
  refine V_iconst (q := 34) dX7_goOnStart_33 rfl (by decide) ?_
  refine V_iadd (q := 35) dX7_goOnStart_34 rfl (by omega) (fun z34 ez34 => ?_)
  refine VM_iast (q := 36) 41 dX7_goOnStart_35 rfl rfl (by decide) rfl rfl (by omega) (fun M35 eM35 => ?_)
  refine V_iload_n (q := 37) dX7_goOnStart_36 rfl rfl rfl ?_
  refine V_aload_n (q := 38) dX7_goOnStart_37 rfl rfl rfl ?_
  refine VM_getI (q := 41) 21 dX7_goOnStart_38 rfl flX7_164 rfl rfl rfl (fun z38 ez38 rz38 => ?_)
  rw [eM35, mu_t _ _ _ _ (by decide)] at ez38
  refine V_icmp_ge (q := 44) (tgt := 57) dX7_goOnStart_41 (by decide) rfl (fun c41 => ?_) (fun c41 => ?_)
  · refine V_iload_n (q := 58) dX7_goOnStart_57 rfl rfl rfl ?_
    refine V_aload_n (q := 59) dX7_goOnStart_58 rfl rfl rfl ?_
    refine VM_getI (q := 62) 21 dX7_goOnStart_59 rfl flX7_164 rfl rfl rfl (fun z59 ez59 rz59 => ?_)
    rw [eM35, mu_t _ _ _ _ (by decide)] at ez59
    refine V_icmp_ne (q := 65) (tgt := 136) dX7_goOnStart_62 (by decide) rfl (fun c62 => ?_) (fun c62 => ?_)
    · refine V_aload_n (q := 137) dX7_goOnStart_136 rfl rfl rfl ?_
      refine VM_getA (q := 140) 29 dX7_goOnStart_137 rfl flX7_83 rfl rfl (Nat.succ_ne_zero _) ?_
      refine V_bipush (q := 142) dX7_goOnStart_140 rfl (by decide) ?_
      refine V_aload_n (q := 143) dX7_goOnStart_142 rfl rfl rfl ?_
      refine VM_getI (q := 146) 37 dX7_goOnStart_143 rfl flX7_191 rfl rfl rfl (fun z143 ez143 rz143 => ?_)
      rw [eM35, mu_t _ _ _ _ (by decide)] at ez143
      refine V_imul (q := 147) dX7_goOnStart_146 rfl (by omega) (fun z146 ez146 => ?_)
      refine V_iload_n (q := 148) dX7_goOnStart_147 rfl rfl rfl ?_
      refine V_iadd (q := 149) dX7_goOnStart_148 rfl (by omega) (fun z148 ez148 => ?_)
      refine V_iconst (q := 150) dX7_goOnStart_149 rfl (by decide) ?_
      refine VM_iast (q := 151) 28 dX7_goOnStart_150 rfl rfl (by decide) rfl rfl (by omega) (fun M150 eM150 => ?_)
      refine V_aload_n (q := 152) dX7_goOnStart_151 rfl rfl rfl ?_
      refine V_dup (q := 153) dX7_goOnStart_152 rfl (show (3 : Nat) ≠ 2 by decide) ?_
      refine VM_getI (q := 156) 38 dX7_goOnStart_153 rfl flX7_213 rfl rfl rfl (fun z153 ez153 rz153 => ?_)
      rw [eM150, mu_t _ _ _ _ (by decide)] at ez153
      rw [eM35, mu_t _ _ _ _ (by decide)] at ez153
      refine V_iconst (q := 157) dX7_goOnStart_156 rfl (by decide) ?_
      refine V_isub (q := 158) dX7_goOnStart_157 rfl (by omega) (fun z157 ez157 => ?_)
      refine VM_putI (q := 161) 38 dX7_goOnStart_158 rfl flX7_213 rfl rfl rfl rfl (fun M158 eM158 => ?_)
      refine VM_vret dX7_goOnStart_161 ⟨rfl, M16, gM16, ?_⟩
      unfold gosM
      rw [if_neg (by omega), if_neg (by omega)]
      simp only [e4f, e12t, ez24, ez32, ez34, eM35, ez38, ez59, ez143, ez146, ez148, eM150, ez153, ez157, eM158]
    · refine V_aload_n (q := 66) dX7_goOnStart_65 rfl rfl rfl ?_
      refine VM_getI (q := 69) 44 dX7_goOnStart_66 rfl flX7_210 rfl rfl rfl (fun z66 ez66 rz66 => ?_)
      rw [eM35, mu_t _ _ _ _ (by decide)] at ez66
      refine V_bipush (q := 71) dX7_goOnStart_69 rfl (by decide) ?_
      refine V_icmp_ne (q := 74) (tgt := 80) dX7_goOnStart_71 (by decide) rfl (fun c71 => ?_) (fun c71 => ?_)
      · refine V_aload_n (q := 81) dX7_goOnStart_80 rfl rfl rfl ?_
        refine VM_getA (q := 84) 34 dX7_goOnStart_81 rfl flX7_98 rfl rfl (Nat.succ_ne_zero _) ?_
        refine V_bipush (q := 86) dX7_goOnStart_84 rfl (by decide) ?_
        refine V_aload_n (q := 87) dX7_goOnStart_86 rfl rfl rfl ?_
        refine VM_getI (q := 90) 37 dX7_goOnStart_87 rfl flX7_191 rfl rfl rfl (fun z87 ez87 rz87 => ?_)
        rw [eM35, mu_t _ _ _ _ (by decide)] at ez87
        refine V_imul (q := 91) dX7_goOnStart_90 rfl (by omega) (fun z90 ez90 => ?_)
        refine V_aload_n (q := 92) dX7_goOnStart_91 rfl rfl rfl ?_
        refine VM_getA (q := 95) 33 dX7_goOnStart_92 rfl flX7_95 rfl rfl (Nat.succ_ne_zero _) ?_
        refine V_aload_n (q := 96) dX7_goOnStart_95 rfl rfl rfl ?_
        refine VM_getI (q := 99) 37 dX7_goOnStart_96 rfl flX7_191 rfl rfl rfl (fun z96 ez96 rz96 => ?_)
        rw [eM35, mu_t _ _ _ _ (by decide)] at ez96
        refine VM_iald (q := 100) 32 dX7_goOnStart_99 rfl rfl (by decide) rfl rfl (by omega) (fun z99 ez99 rz99 => ?_)
        rw [eM35, mu_t _ _ _ _ (by decide)] at ez99
        rw [ez96] at ez99
        refine V_iadd (q := 101) dX7_goOnStart_100 rfl (by omega) (fun z100 ez100 => ?_)
        refine V_iload_n (q := 102) dX7_goOnStart_101 rfl rfl rfl ?_
        refine VM_iast (q := 103) 33 dX7_goOnStart_102 rfl rfl (by decide) rfl rfl (by omega) (fun M102 eM102 => ?_)
        refine V_aload_n (q := 104) dX7_goOnStart_103 rfl rfl rfl ?_
        refine VM_getA (q := 107) 33 dX7_goOnStart_104 rfl flX7_95 rfl rfl (Nat.succ_ne_zero _) ?_
        refine V_aload_n (q := 108) dX7_goOnStart_107 rfl rfl rfl ?_
        refine VM_getI (q := 111) 37 dX7_goOnStart_108 rfl flX7_191 rfl rfl rfl (fun z108 ez108 rz108 => ?_)
        rw [eM102, mu_t _ _ _ _ (by decide)] at ez108
        rw [eM35, mu_t _ _ _ _ (by decide)] at ez108
        refine V_dup2 (q := 112) dX7_goOnStart_111 rfl (show (0 : Nat) ≠ 2 by decide) (show (3 : Nat) ≠ 2 by decide) ?_
        refine VM_iald (q := 113) 32 dX7_goOnStart_112 rfl rfl (by decide) rfl rfl (by omega) (fun z112 ez112 rz112 => ?_)
        rw [eM102, mu_t _ _ _ _ (by decide)] at ez112
        rw [eM35, mu_t _ _ _ _ (by decide)] at ez112
        rw [ez108] at ez112
        refine V_iconst (q := 114) dX7_goOnStart_113 rfl (by decide) ?_
        refine V_iadd (q := 115) dX7_goOnStart_114 rfl (by omega) (fun z114 ez114 => ?_)
        refine VM_iast (q := 116) 32 dX7_goOnStart_115 rfl rfl (by decide) rfl rfl (by omega) (fun M115 eM115 => ?_)
        refine V_aload_n (q := 117) dX7_goOnStart_116 rfl rfl rfl ?_
        refine V_dup (q := 118) dX7_goOnStart_117 rfl (show (3 : Nat) ≠ 2 by decide) ?_
        refine VM_getI (q := 121) 48 dX7_goOnStart_118 rfl flX7_225 rfl rfl rfl (fun z118 ez118 rz118 => ?_)
        rw [eM115, mu_t _ _ _ _ (by decide)] at ez118
        rw [eM102, mu_t _ _ _ _ (by decide)] at ez118
        rw [eM35, mu_t _ _ _ _ (by decide)] at ez118
        refine V_iconst (q := 122) dX7_goOnStart_121 rfl (by decide) ?_
        refine V_iadd (q := 123) dX7_goOnStart_122 rfl (by omega) (fun z122 ez122 => ?_)
        refine VM_putI (q := 126) 48 dX7_goOnStart_123 rfl flX7_225 rfl rfl rfl rfl (fun M123 eM123 => ?_)
        refine V_aload_n (q := 127) dX7_goOnStart_126 rfl rfl rfl ?_
        refine V_iconst (q := 128) dX7_goOnStart_127 rfl (by decide) ?_
        refine V_iload_n (q := 129) dX7_goOnStart_128 rfl rfl rfl ?_
        refine V_imul (q := 130) dX7_goOnStart_129 rfl (by omega) (fun z129 ez129 => ?_)
        refine VM_callN (q := 133) (As := [(0, z129)]) (tX7_pushBody (C := C) (M := M123) (RG_c (fun k i h => by rw [eM123, mu_ne (by omega), eM115, mu_ne (by omega), eM102, mu_ne (by omega), eM35, mu_ne (by omega)]) gg)) dX7_goOnStart_130 rfl mlX7_228 mw_X7_pushBody im_X7_pushBody sl_X7_pushBody md_X7_pushBody rfl rfl rfl (by decide) (by decide) (Nat.le_refl _) (Nat.le_refl _) (Nat.le_of_ble_eq_true rfl) (fun M130 hM130 => ?_)
        refine V_goto (tgt := 161) dX7_goOnStart_133 (by decide) ?_
        refine VM_vret dX7_goOnStart_161 ⟨rfl, M16, gM16, ?_⟩
        unfold gosM
        rw [if_neg (by omega), if_pos (by omega), if_neg (by omega), hM130]
        simp only [e4f, e12t, ez24, ez32, ez34, eM35, ez38, ez59, ez66, ez87, ez90, ez96, ez99, ez100, eM102, ez108, ez112, ez114, eM115, ez118, ez122, eM123, ez129]
      · refine V_aload_n (q := 75) dX7_goOnStart_74 rfl rfl rfl ?_
        refine V_iconst (q := 76) dX7_goOnStart_75 rfl (by decide) ?_
        refine VM_putZ (q := 79) 49 dX7_goOnStart_76 rfl flX7_197 rfl rfl rfl rfl (by omega) (fun M76 eM76 => ?_)
        refine VM_vret dX7_goOnStart_79 ⟨rfl, M16, gM16, ?_⟩
        unfold gosM
        rw [if_neg (by omega), if_pos (by omega), if_pos (by omega)]
        simp only [e4f, e12t, ez24, ez32, ez34, eM35, ez38, ez59, ez66, eM76]
  · refine V_aload_n (q := 45) dX7_goOnStart_44 rfl rfl rfl ?_
    refine V_aload_n (q := 46) dX7_goOnStart_45 rfl rfl rfl ?_
    refine VM_getA (q := 49) 21 dX7_goOnStart_46 rfl flX7_65 rfl rfl (Nat.succ_ne_zero _) ?_
    refine V_iload_n (q := 50) dX7_goOnStart_49 rfl rfl rfl ?_
    refine VM_iald (q := 51) 20 dX7_goOnStart_50 rfl rfl (by decide) rfl rfl (by omega) (fun z50 ez50 rz50 => ?_)
    rw [eM35, mu_t _ _ _ _ (by decide)] at ez50
    have hx : z50 = (LF M t).getD (M16 41 f).toNat 0 := by { rw [ez50, ez24]; exact hl3 _ (by omega) (by omega) }
    refine VM_callN (q := 54) (As := [(0, z50)]) (tX7_start (C := C) (M := M35) (RG_c (fun k i h => by rw [eM35, mu_ne (by omega)]) gg) (by { have h9 : 0 ≤ z50 ∧ z50 < M 0 0 := (by { rw [hx]; exact LF_all w ht.1 ht.2 _ (by { rw [List.getD_eq_getElem?_getD, List.getElem?_eq_getElem (by omega), Option.getD_some]; exact List.getElem_mem _ }) }); have := w.n; omega })) dX7_goOnStart_51 rfl mlX7_222 mw_X7_start im_X7_start sl_X7_start md_X7_start rfl rfl rfl (by decide) (by decide) (Nat.le_refl _) (Nat.le_refl _) (Nat.le_of_ble_eq_true rfl) (fun M51 hM51 => ?_)
    refine V_goto (tgt := 161) dX7_goOnStart_54 (by decide) ?_
    refine VM_vret dX7_goOnStart_161 ⟨rfl, M16, gM16, ?_⟩
    unfold gosM
    rw [if_pos (by omega), hM51, hx]
    simp only [e4f, e12t, ez24, ez32, ez34, eM35, ez38, ez50]
