/-! THE REFERENCE'S TOUCH MACHINE: behind a start -/
def SCb (M Ms : Mem) : Prop := ∀ k : Int, k ≠ 18 → k ≠ 19 → Ms k = M k
def gobM (k t n v f : Int) (M Ms : Mem) : Mem := if k = 0 then onTM v (didM f Ms) else if k = 1 then onTM (if Ms 8 (FF M n t) = 1 then Ms 9 (FF M n t) else Ms 29 (240 * Ms 37 0 + FF M n t)) (didM f Ms) else if k = 2 then didM f (mu Ms 29 (240 * Ms 37 0 + FF M n t) v) else if k = 3 then (if Ms 57 f = 1 then didM f (mu Ms 57 f 0) else pushM (FM M n t) (mu Ms 57 f 1)) else if k = 7 then failM v (-6) Ms else didM f Ms
theorem didM_o {f k : Int} {M : Mem} (h1 : k ≠ 41) (h2 : k ≠ 42) (h3 : k ≠ 43) : didM f M k = M k := by
  unfold didM
  rw [mu_f _ _ _ _ h3, mu_f _ _ _ _ h2, mu_f _ _ _ _ h1]
theorem SCb.sd {M Ms : Mem} (h : SCb M Ms) : SD M Ms := fun k h0 h1 => h k (by omega) (by omega)
theorem tX7_goBehind {Γ : GC} {αC : Sh} {C M : Mem} {k t n v f : Int} (w : WFD M) (g : RG M) (hf : FB M f) (h11 : 0 ≤ M 40 f → M 41 f ≤ 11) (hk : atM M 53 13 f = k) (ht : atM M 54 14 f = t) (hn : atM M 55 15 f = n) (hv : atM M 56 16 f = v) (h13 : 1 ≤ k → k ≤ 3 → 0 ≤ t ∧ t < M 0 0) (hff : 1 ≤ k → k ≤ 2 → 0 ≤ FF M n t) : MM Γ yX7_goBehind cX7_goBehind 6 none 2 [(0, f)] αC C M (mN fun M1 => ∃ Ms : Mem, SCb M Ms ∧ M1 = gobM k t n v f M Ms) := by
  obtain ⟨g1, g2, g3, g4, g5⟩ := id g
  obtain ⟨f1, f2, f3⟩ := id hf
  have h41 : 0 ≤ M 41 f ∧ M 41 f ≤ 100 := by omega
  refine MM_of (k := 4) [(3, 0), (0, f), (9, 0), (9, 0), (9, 0), (9, 0)] pn_X7_goBehind rfl rfl rfl (fun ad0 => ?_)
  refine V_aload_n (q := 1) dX7_goBehind_0 rfl rfl rfl ?_
  refine V_iload_n (q := 2) dX7_goBehind_1 rfl rfl rfl ?_
  refine VM_callI (q := 5) (As := [(0, f)]) (tX7_typeAt (C := C) (M := M) hf h11) dX7_goBehind_2 rfl mlX7_256 mw_X7_typeAt im_X7_typeAt sl_X7_typeAt md_X7_typeAt rfl rfl rfl (by decide) (by decide) (Nat.le_refl _) (Nat.le_refl _) (Nat.le_of_ble_eq_true rfl) (fun z2 M2 rz2 hz2 => ?_)
  obtain ⟨hm, hz2⟩ := hz2
  replace hm := hm.symm
  subst hm
  obtain rfl : z2 = t := hz2.trans ht
  refine V_istore_n (q := 6) (lv1 := [(3, 0), (0, f), (0, z2), (9, 0), (9, 0), (9, 0)]) dX7_goBehind_5 rfl rfl (by decide) rfl rfl ?_
  refine V_aload_n (q := 7) dX7_goBehind_6 rfl rfl rfl ?_
  refine V_iload_n (q := 8) dX7_goBehind_7 rfl rfl rfl ?_
  refine VM_callI (q := 11) (As := [(0, f)]) (tX7_nameAt (C := C) (M := M) hf h11) dX7_goBehind_8 rfl mlX7_259 mw_X7_nameAt im_X7_nameAt sl_X7_nameAt md_X7_nameAt rfl rfl rfl (by decide) (by decide) (Nat.le_refl _) (Nat.le_refl _) (Nat.le_of_ble_eq_true rfl) (fun z8 M8 rz8 hz8 => ?_)
  obtain ⟨hm, hz8⟩ := hz8
  replace hm := hm.symm
  subst hm
  obtain rfl : z8 = n := hz8.trans hn
  refine V_istore_n (q := 12) (lv1 := [(3, 0), (0, f), (0, z2), (0, z8), (9, 0), (9, 0)]) dX7_goBehind_11 rfl rfl (by decide) rfl rfl ?_
  refine V_aload_n (q := 13) dX7_goBehind_12 rfl rfl rfl ?_
  refine V_iload_n (q := 14) dX7_goBehind_13 rfl rfl rfl ?_
  refine VM_callI (q := 17) (As := [(0, f)]) (tX7_valueAt (C := C) (M := M) hf h11) dX7_goBehind_14 rfl mlX7_262 mw_X7_valueAt im_X7_valueAt sl_X7_valueAt md_X7_valueAt rfl rfl rfl (by decide) (by decide) (Nat.le_refl _) (Nat.le_refl _) (Nat.le_of_ble_eq_true rfl) (fun z14 M14 rz14 hz14 => ?_)
  obtain ⟨hm, hz14⟩ := hz14
  replace hm := hm.symm
  subst hm
  obtain rfl : z14 = v := hz14.trans hv
  refine V_istore (q := 19) (lv1 := [(3, 0), (0, f), (0, z2), (0, z8), (0, z14), (9, 0)]) dX7_goBehind_17 rfl (by decide) rfl rfl ?_
  refine V_aload_n (q := 20) dX7_goBehind_19 rfl rfl rfl ?_
  refine V_iload_n (q := 21) dX7_goBehind_20 rfl rfl rfl ?_
  refine VM_callI (q := 24) (As := [(0, f)]) (tX7_kindAt (C := C) (M := M) hf h11) dX7_goBehind_21 rfl mlX7_253 mw_X7_kindAt im_X7_kindAt sl_X7_kindAt md_X7_kindAt rfl rfl rfl (by decide) (by decide) (Nat.le_refl _) (Nat.le_refl _) (Nat.le_of_ble_eq_true rfl) (fun z21 M21 rz21 hz21 => ?_)
  obtain ⟨hm, hz21⟩ := hz21
  replace hm := hm.symm
  subst hm
  obtain rfl : z21 = k := hz21.trans hk
  rcases (show z21 = 0 ∨ z21 = 1 ∨ z21 = 2 ∨ z21 = 3 ∨ z21 = 4 ∨ z21 = 5 ∨ z21 = 6 ∨ z21 = 7 ∨ (z21 ≠ 0 ∧ z21 ≠ 1 ∧ z21 ≠ 2 ∧ z21 ≠ 3 ∧ z21 ≠ 4 ∧ z21 ≠ 5 ∧ z21 ≠ 6 ∧ z21 ≠ 7) by omega) with c24 | c24 | c24 | c24 | c24 | c24 | c24 | c24 | c24
  · subst c24
    refine V_tswIn (tgt := 72) (off := 48) dX7_goBehind_24 (by decide) (by decide) rfl (by decide) ?_
    refine V_aload_n (q := 73) dX7_goBehind_72 rfl rfl rfl ?_
    refine V_iload_n (q := 74) dX7_goBehind_73 rfl rfl rfl ?_
    refine VM_callN (q := 77) (As := [(0, f)]) (tX7_did (C := C) (M := M) hf.1 h41) dX7_goBehind_74 rfl mlX7_265 mw_X7_did im_X7_did sl_X7_did md_X7_did rfl rfl rfl (by decide) (by decide) (Nat.le_refl _) (Nat.le_refl _) (Nat.le_of_ble_eq_true rfl) (fun M74 hM74 => ?_)
    refine V_aload_n (q := 78) dX7_goBehind_77 rfl rfl rfl ?_
    refine V_iload (q := 80) dX7_goBehind_78 rfl rfl ?_
    refine VM_callN (q := 83) (As := [(0, z14)]) (tX7_onTape (C := C) (M := M74) (by { rw [hM74]; exact RG_c (fun k i h => by rw [didM_o (by omega) (by omega) (by omega)]) g })) dX7_goBehind_80 rfl mlX7_268 mw_X7_onTape im_X7_onTape sl_X7_onTape md_X7_onTape rfl rfl rfl (by decide) (by decide) (Nat.le_refl _) (Nat.le_refl _) (Nat.le_of_ble_eq_true rfl) (fun M80 hM80 => ?_)
    refine V_goto (tgt := 232) dX7_goBehind_83 (by decide) ?_
    refine VM_vret dX7_goBehind_232 ⟨rfl, M, (fun _ _ _ => rfl), ?_⟩
    unfold gobM
    rw [if_pos rfl, hM80, hM74]
  · subst c24
    refine V_tswIn (tgt := 86) (off := 62) dX7_goBehind_24 (by decide) (by decide) rfl (by decide) ?_
    refine V_aload_n (q := 87) dX7_goBehind_86 rfl rfl rfl ?_
    refine V_iload_n (q := 88) dX7_goBehind_87 rfl rfl rfl ?_
    refine V_iload_n (q := 89) dX7_goBehind_88 rfl rfl rfl ?_
    refine VM_callI (q := 92) (As := [(0, z2), (0, z8)]) (tX7_findField (C := C) (M := M) w (by omega)) dX7_goBehind_89 rfl mlX7_161 mw_X7_findField im_X7_findField sl_X7_findField md_X7_findField rfl rfl rfl (by decide) (by decide) (Nat.le_refl _) (Nat.le_refl _) (Nat.le_of_ble_eq_true rfl) (fun z89 M89 rz89 hz89 => ?_)
    obtain ⟨gM89, hz89⟩ := hz89
    have hfr : 0 ≤ z89 ∧ z89 < 240 := by { rw [hz89]; have := w.n; rcases FF_rng (nm := z8) w (show 0 ≤ z2 by omega) (show z2 < M 0 0 by omega) with q | ⟨u, _, _, _, _, _, _⟩ <;> omega }
    have gx : RG M89 := RG_c (fun k i h => by rw [gM89 k (by omega) (by omega)]) g
    have gx1 := gx.1
    refine V_istore (q := 94) (lv1 := [(3, 0), (0, f), (0, z2), (0, z8), (0, z14), (0, z89)]) dX7_goBehind_92 rfl (by decide) rfl rfl ?_
    refine V_aload_n (q := 95) dX7_goBehind_94 rfl rfl rfl ?_
    refine V_iload_n (q := 96) dX7_goBehind_95 rfl rfl rfl ?_
    refine VM_callN (q := 99) (As := [(0, f)]) (tX7_did (C := C) (M := M89) hf.1 (by { rw [gM89 41 (by decide) (by decide)]; exact h41 })) dX7_goBehind_96 rfl mlX7_265 mw_X7_did im_X7_did sl_X7_did md_X7_did rfl rfl rfl (by decide) (by decide) (Nat.le_refl _) (Nat.le_refl _) (Nat.le_of_ble_eq_true rfl) (fun M96 hM96 => ?_)
    refine V_aload_n (q := 100) dX7_goBehind_99 rfl rfl rfl ?_
    refine V_aload_n (q := 101) dX7_goBehind_100 rfl rfl rfl ?_
    refine VM_getA (q := 104) 9 dX7_goBehind_101 rfl flX7_32 rfl rfl (Nat.succ_ne_zero _) ?_
    refine V_iload (q := 106) dX7_goBehind_104 rfl rfl ?_
    refine VM_zald (q := 107) 8 dX7_goBehind_106 rfl rfl (by decide) rfl rfl (by omega) (fun z106 ez106 rz106 => ?_)
    rw [hM96, didM_o (by decide) (by decide) (by decide)] at ez106
    refine V_if_eq (q := 110) (tgt := 120) dX7_goBehind_107 (by decide) rfl (fun c107 => ?_) (fun c107 => ?_)
    · refine V_aload_n (q := 121) dX7_goBehind_120 rfl rfl rfl ?_
      refine VM_getA (q := 124) 30 dX7_goBehind_121 rfl flX7_86 rfl rfl (Nat.succ_ne_zero _) ?_
      refine V_sipush (q := 127) dX7_goBehind_124 rfl (by decide) ?_
      refine V_aload_n (q := 128) dX7_goBehind_127 rfl rfl rfl ?_
      refine VM_getI (q := 131) 37 dX7_goBehind_128 rfl flX7_191 rfl rfl rfl (fun z128 ez128 rz128 => ?_)
      rw [hM96, didM_o (by decide) (by decide) (by decide)] at ez128
      refine V_imul (q := 132) dX7_goBehind_131 rfl (by omega) (fun z131 ez131 => ?_)
      refine V_iload (q := 134) dX7_goBehind_132 rfl rfl ?_
      refine V_iadd (q := 135) dX7_goBehind_134 rfl (by omega) (fun z134 ez134 => ?_)
      refine VM_iald (q := 136) 29 dX7_goBehind_135 rfl rfl (by decide) rfl rfl (by omega) (fun z135 ez135 rz135 => ?_)
      rw [hM96, didM_o (by decide) (by decide) (by decide)] at ez135
      refine VM_callN (q := 139) (As := [(0, z135)]) (tX7_onTape (C := C) (M := M96) (by { rw [hM96]; exact RG_c (fun k i h => by rw [didM_o (by omega) (by omega) (by omega)]) gx })) dX7_goBehind_136 rfl mlX7_268 mw_X7_onTape im_X7_onTape sl_X7_onTape md_X7_onTape rfl rfl rfl (by decide) (by decide) (Nat.le_refl _) (Nat.le_refl _) (Nat.le_of_ble_eq_true rfl) (fun M136 hM136 => ?_)
      refine V_goto (tgt := 232) dX7_goBehind_139 (by decide) ?_
      refine VM_vret dX7_goBehind_232 ⟨rfl, M89, gM89, ?_⟩
      rw [hz89] at ez106
      unfold gobM
      rw [if_neg (by decide), if_pos rfl, hM136, hM96]
      (first | rw [if_pos (by omega)] | rw [if_neg (by omega)])
      simp only [hz89, ez106, ez128, ez131, ez134, ez135]
    · refine V_aload_n (q := 111) dX7_goBehind_110 rfl rfl rfl ?_
      refine VM_getA (q := 114) 10 dX7_goBehind_111 rfl flX7_35 rfl rfl (Nat.succ_ne_zero _) ?_
      refine V_iload (q := 116) dX7_goBehind_114 rfl rfl ?_
      refine VM_iald (q := 117) 9 dX7_goBehind_116 rfl rfl (by decide) rfl rfl (by omega) (fun z116 ez116 rz116 => ?_)
      rw [hM96, didM_o (by decide) (by decide) (by decide)] at ez116
      refine V_goto (tgt := 136) dX7_goBehind_117 (by decide) ?_
      refine VM_callN (q := 139) (As := [(0, z116)]) (tX7_onTape (C := C) (M := M96) (by { rw [hM96]; exact RG_c (fun k i h => by rw [didM_o (by omega) (by omega) (by omega)]) gx })) dX7_goBehind_136 rfl mlX7_268 mw_X7_onTape im_X7_onTape sl_X7_onTape md_X7_onTape rfl rfl rfl (by decide) (by decide) (Nat.le_refl _) (Nat.le_refl _) (Nat.le_of_ble_eq_true rfl) (fun M136_2 hM136_2 => ?_)
      refine V_goto (tgt := 232) dX7_goBehind_139 (by decide) ?_
      refine VM_vret dX7_goBehind_232 ⟨rfl, M89, gM89, ?_⟩
      rw [hz89] at ez106
      unfold gobM
      rw [if_neg (by decide), if_pos rfl, hM136_2, hM96]
      (first | rw [if_pos (by omega)] | rw [if_neg (by omega)])
      simp only [hz89, ez106, ez116]
  · subst c24
    refine V_tswIn (tgt := 142) (off := 118) dX7_goBehind_24 (by decide) (by decide) rfl (by decide) ?_
    refine V_aload_n (q := 143) dX7_goBehind_142 rfl rfl rfl ?_
    refine VM_getA (q := 146) 30 dX7_goBehind_143 rfl flX7_86 rfl rfl (Nat.succ_ne_zero _) ?_
    refine V_sipush (q := 149) dX7_goBehind_146 rfl (by decide) ?_
    refine V_aload_n (q := 150) dX7_goBehind_149 rfl rfl rfl ?_
    refine VM_getI (q := 153) 37 dX7_goBehind_150 rfl flX7_191 rfl rfl rfl (fun z150 ez150 rz150 => ?_)
    refine V_imul (q := 154) dX7_goBehind_153 rfl (by omega) (fun z153 ez153 => ?_)
    refine V_aload_n (q := 155) dX7_goBehind_154 rfl rfl rfl ?_
    refine V_iload_n (q := 156) dX7_goBehind_155 rfl rfl rfl ?_
    refine V_iload_n (q := 157) dX7_goBehind_156 rfl rfl rfl ?_
    refine VM_callI (q := 160) (As := [(0, z2), (0, z8)]) (tX7_findField (C := C) (M := M) w (by omega)) dX7_goBehind_157 rfl mlX7_161 mw_X7_findField im_X7_findField sl_X7_findField md_X7_findField rfl rfl rfl (by decide) (by decide) (Nat.le_refl _) (Nat.le_refl _) (Nat.le_of_ble_eq_true rfl) (fun z157 M157 rz157 hz157 => ?_)
    obtain ⟨gM157, hz157⟩ := hz157
    have hfr : 0 ≤ z157 ∧ z157 < 240 := by { rw [hz157]; have := w.n; rcases FF_rng (nm := z8) w (show 0 ≤ z2 by omega) (show z2 < M 0 0 by omega) with q | ⟨u, _, _, _, _, _, _⟩ <;> omega }
    have gx : RG M157 := RG_c (fun k i h => by rw [gM157 k (by omega) (by omega)]) g
    have gx1 := gx.1
    refine V_iadd (q := 161) dX7_goBehind_160 rfl (by omega) (fun z160 ez160 => ?_)
    refine V_iload (q := 163) dX7_goBehind_161 rfl rfl ?_
    refine VM_iast (q := 164) 29 dX7_goBehind_163 rfl rfl (by decide) rfl rfl (by omega) (fun M163 eM163 => ?_)
    refine V_aload_n (q := 165) dX7_goBehind_164 rfl rfl rfl ?_
    refine V_iload_n (q := 166) dX7_goBehind_165 rfl rfl rfl ?_
    refine VM_callN (q := 169) (As := [(0, f)]) (tX7_did (C := C) (M := M163) hf.1 (by { rw [eM163, mu_ne (by omega), gM157 41 (by decide) (by decide)]; exact h41 })) dX7_goBehind_166 rfl mlX7_265 mw_X7_did im_X7_did sl_X7_did md_X7_did rfl rfl rfl (by decide) (by decide) (Nat.le_refl _) (Nat.le_refl _) (Nat.le_of_ble_eq_true rfl) (fun M166 hM166 => ?_)
    refine V_goto (tgt := 232) dX7_goBehind_169 (by decide) ?_
    refine VM_vret dX7_goBehind_232 ⟨rfl, M157, gM157, ?_⟩
    unfold gobM
    rw [if_neg (by decide), if_neg (by decide), if_pos rfl, hM166, show M157 37 0 = M 37 0 from congrFun (gM157 37 (by decide) (by decide)) 0]
    simp only [ez150, ez153, hz157, ez160, eM163]
  · subst c24
    refine V_tswIn (tgt := 172) (off := 148) dX7_goBehind_24 (by decide) (by decide) rfl (by decide) ?_
    refine V_aload_n (q := 173) dX7_goBehind_172 rfl rfl rfl ?_
    refine VM_getA (q := 176) 58 dX7_goBehind_173 rfl flX7_125 rfl rfl (Nat.succ_ne_zero _) ?_
    refine V_iload_n (q := 177) dX7_goBehind_176 rfl rfl rfl ?_
    refine VM_zald (q := 178) 57 dX7_goBehind_177 rfl rfl (by decide) rfl rfl (by omega) (fun z177 ez177 rz177 => ?_)
    refine V_if_eq (q := 181) (tgt := 196) dX7_goBehind_178 (by decide) rfl (fun c178 => ?_) (fun c178 => ?_)
    · refine V_aload_n (q := 197) dX7_goBehind_196 rfl rfl rfl ?_
      refine VM_getA (q := 200) 58 dX7_goBehind_197 rfl flX7_125 rfl rfl (Nat.succ_ne_zero _) ?_
      refine V_iload_n (q := 201) dX7_goBehind_200 rfl rfl rfl ?_
      refine V_iconst (q := 202) dX7_goBehind_201 rfl (by decide) ?_
      refine VM_zast (q := 203) 57 dX7_goBehind_202 rfl rfl (by decide) rfl rfl (by omega) (by omega) (fun M202 eM202 => ?_)
      refine V_aload_n (q := 204) dX7_goBehind_203 rfl rfl rfl ?_
      refine V_aload_n (q := 205) dX7_goBehind_204 rfl rfl rfl ?_
      refine V_iload_n (q := 206) dX7_goBehind_205 rfl rfl rfl ?_
      refine V_iload_n (q := 207) dX7_goBehind_206 rfl rfl rfl ?_
      have hsd : SD M M202 := fun k a b => by rw [eM202]; exact mu_f _ _ _ _ (by omega)
      refine VM_callI (q := 210) (As := [(0, z2), (0, z8)]) (tX7_findMethod (C := C) (M := M202) (SD_WFD hsd w) (by { rw [hsd 0 (by decide) (by decide)]; omega })) dX7_goBehind_207 rfl mlX7_158 mw_X7_findMethod im_X7_findMethod sl_X7_findMethod md_X7_findMethod rfl rfl rfl (by decide) (by decide) (Nat.le_refl _) (Nat.le_refl _) (Nat.le_of_ble_eq_true rfl) (fun z207 M207 rz207 hz207 => ?_)
      obtain ⟨hm, hz207⟩ := hz207
      replace hm := hm.symm
      subst hm
      rw [SD_FM hsd] at hz207
      refine VM_callN (q := 213) (As := [(0, z207)]) (tX7_pushBody (C := C) (M := M202) (RG_c (fun k i h => by rw [eM202, mu_ne (by omega)]) g)) dX7_goBehind_210 rfl mlX7_228 mw_X7_pushBody im_X7_pushBody sl_X7_pushBody md_X7_pushBody rfl rfl rfl (by decide) (by decide) (Nat.le_refl _) (Nat.le_refl _) (Nat.le_of_ble_eq_true rfl) (fun M210 hM210 => ?_)
      refine V_goto (tgt := 232) dX7_goBehind_213 (by decide) ?_
      refine VM_vret dX7_goBehind_232 ⟨rfl, M, (fun _ _ _ => rfl), ?_⟩
      unfold gobM
      rw [if_neg (by decide), if_neg (by decide), if_neg (by decide), if_pos rfl, if_neg (by omega), hM210]
      simp only [ez177, eM202, hz207]
    · refine V_aload_n (q := 182) dX7_goBehind_181 rfl rfl rfl ?_
      refine VM_getA (q := 185) 58 dX7_goBehind_182 rfl flX7_125 rfl rfl (Nat.succ_ne_zero _) ?_
      refine V_iload_n (q := 186) dX7_goBehind_185 rfl rfl rfl ?_
      refine V_iconst (q := 187) dX7_goBehind_186 rfl (by decide) ?_
      refine VM_zast (q := 188) 57 dX7_goBehind_187 rfl rfl (by decide) rfl rfl (by omega) (by omega) (fun M187 eM187 => ?_)
      refine V_aload_n (q := 189) dX7_goBehind_188 rfl rfl rfl ?_
      refine V_iload_n (q := 190) dX7_goBehind_189 rfl rfl rfl ?_
      refine VM_callN (q := 193) (As := [(0, f)]) (tX7_did (C := C) (M := M187) hf.1 (by { rw [eM187, mu_ne (by omega)]; exact h41 })) dX7_goBehind_190 rfl mlX7_265 mw_X7_did im_X7_did sl_X7_did md_X7_did rfl rfl rfl (by decide) (by decide) (Nat.le_refl _) (Nat.le_refl _) (Nat.le_of_ble_eq_true rfl) (fun M190 hM190 => ?_)
      refine V_goto (tgt := 232) dX7_goBehind_193 (by decide) ?_
      refine VM_vret dX7_goBehind_232 ⟨rfl, M, (fun _ _ _ => rfl), ?_⟩
      unfold gobM
      rw [if_neg (by decide), if_neg (by decide), if_neg (by decide), if_pos rfl, if_pos (by omega), hM190]
      simp only [ez177, eM187]
  · subst c24
    refine V_tswIn (tgt := 227) (off := 203) dX7_goBehind_24 (by decide) (by decide) rfl (by decide) ?_
    refine V_aload_n (q := 228) dX7_goBehind_227 rfl rfl rfl ?_
    refine V_iload_n (q := 229) dX7_goBehind_228 rfl rfl rfl ?_
    refine VM_callN (q := 232) (As := [(0, f)]) (tX7_did (C := C) (M := M) hf.1 h41) dX7_goBehind_229 rfl mlX7_265 mw_X7_did im_X7_did sl_X7_did md_X7_did rfl rfl rfl (by decide) (by decide) (Nat.le_refl _) (Nat.le_refl _) (Nat.le_of_ble_eq_true rfl) (fun M229 hM229 => ?_)
    refine VM_vret dX7_goBehind_232 ⟨rfl, M, (fun _ _ _ => rfl), ?_⟩
    unfold gobM
    rw [hM229]
    first | (rw [if_neg (by omega), if_neg (by omega), if_neg (by omega), if_neg (by omega), if_neg (by omega)])
  · subst c24
    refine V_tswIn (tgt := 227) (off := 203) dX7_goBehind_24 (by decide) (by decide) rfl (by decide) ?_
    refine V_aload_n (q := 228) dX7_goBehind_227 rfl rfl rfl ?_
    refine V_iload_n (q := 229) dX7_goBehind_228 rfl rfl rfl ?_
    refine VM_callN (q := 232) (As := [(0, f)]) (tX7_did (C := C) (M := M) hf.1 h41) dX7_goBehind_229 rfl mlX7_265 mw_X7_did im_X7_did sl_X7_did md_X7_did rfl rfl rfl (by decide) (by decide) (Nat.le_refl _) (Nat.le_refl _) (Nat.le_of_ble_eq_true rfl) (fun M229_2 hM229_2 => ?_)
    refine VM_vret dX7_goBehind_232 ⟨rfl, M, (fun _ _ _ => rfl), ?_⟩
    unfold gobM
    rw [hM229_2]
    first | (rw [if_neg (by omega), if_neg (by omega), if_neg (by omega), if_neg (by omega), if_neg (by omega)])
  · subst c24
    refine V_tswIn (tgt := 227) (off := 203) dX7_goBehind_24 (by decide) (by decide) rfl (by decide) ?_
    refine V_aload_n (q := 228) dX7_goBehind_227 rfl rfl rfl ?_
    refine V_iload_n (q := 229) dX7_goBehind_228 rfl rfl rfl ?_
    refine VM_callN (q := 232) (As := [(0, f)]) (tX7_did (C := C) (M := M) hf.1 h41) dX7_goBehind_229 rfl mlX7_265 mw_X7_did im_X7_did sl_X7_did md_X7_did rfl rfl rfl (by decide) (by decide) (Nat.le_refl _) (Nat.le_refl _) (Nat.le_of_ble_eq_true rfl) (fun M229_3 hM229_3 => ?_)
    refine VM_vret dX7_goBehind_232 ⟨rfl, M, (fun _ _ _ => rfl), ?_⟩
    unfold gobM
    rw [hM229_3]
    first | (rw [if_neg (by omega), if_neg (by omega), if_neg (by omega), if_neg (by omega), if_neg (by omega)])
  · subst c24
    refine V_tswIn (tgt := 216) (off := 192) dX7_goBehind_24 (by decide) (by decide) rfl (by decide) ?_
    refine V_aload_n (q := 217) dX7_goBehind_216 rfl rfl rfl ?_
    refine V_iload (q := 219) dX7_goBehind_217 rfl rfl ?_
    refine V_bipush (q := 221) dX7_goBehind_219 rfl (by decide) ?_
    refine VM_callN (q := 224) (As := [(0, z14), (0, (-6))]) (tX7_fail (C := C) (M := M) g) dX7_goBehind_221 rfl mlX7_219 mw_X7_fail im_X7_fail sl_X7_fail md_X7_fail rfl rfl rfl (by decide) (by decide) (Nat.le_refl _) (Nat.le_refl _) (Nat.le_of_ble_eq_true rfl) (fun M221 hM221 => ?_)
    refine V_goto (tgt := 232) dX7_goBehind_224 (by decide) ?_
    refine VM_vret dX7_goBehind_232 ⟨rfl, M, (fun _ _ _ => rfl), ?_⟩
    unfold gobM
    rw [if_neg (by decide), if_neg (by decide), if_neg (by decide), if_neg (by decide), if_pos rfl, hM221]
  · refine V_tswOut (tgt := 227) dX7_goBehind_24 (by omega) (by decide) ?_
    refine V_aload_n (q := 228) dX7_goBehind_227 rfl rfl rfl ?_
    refine V_iload_n (q := 229) dX7_goBehind_228 rfl rfl rfl ?_
    refine VM_callN (q := 232) (As := [(0, f)]) (tX7_did (C := C) (M := M) hf.1 h41) dX7_goBehind_229 rfl mlX7_265 mw_X7_did im_X7_did sl_X7_did md_X7_did rfl rfl rfl (by decide) (by decide) (Nat.le_refl _) (Nat.le_refl _) (Nat.le_of_ble_eq_true rfl) (fun M229_4 hM229_4 => ?_)
    refine VM_vret dX7_goBehind_232 ⟨rfl, M, (fun _ _ _ => rfl), ?_⟩
    unfold gobM
    rw [hM229_4]
    first | (rw [if_neg (by omega), if_neg (by omega), if_neg (by omega), if_neg (by omega), if_neg (by omega)])
