/-! THE LAW of p1: one call on a new object -/
theorem m00 : M0w 12 0 0 = 0 := rfl
theorem m17 : M0w 12 17 0 = 0 := rfl
theorem M0_z {k i : Int} (h : k ≠ 34) (h1 : k ≠ 35) : M0w 12 k i = 0 := if_neg (fun q => by omega)
theorem WFD_0 : WFD (M0w 12) := by
  have z : ∀ k i : Int, k ≠ 34 → k ≠ 35 → M0w 12 k i = 0 := fun k i h h1 => M0_z h h1
  unfold WFD
  rw [m00, m17]
  refine ⟨⟨by decide, by decide⟩, fun t h0 h1 => ?_, fun t h0 h1 => by omega, fun t k h0 h1 => by omega, fun t k h0 h1 => by omega, fun t k l h0 h1 => by omega, fun t k h0 h1 => by omega, fun t k l h0 h1 => by omega, fun b h0 h1 => ?_, fun b j h0 h1 h2 h3 => ?_, fun t h0 h1 => ?_, fun t m h0 h1 h2 h3 => ?_, fun t h0 h1 => by omega, ⟨by decide, by decide⟩, fun t h => ?_⟩
  · rw [z 4 t (by decide) (by decide), z 6 t (by decide) (by decide), z 10 t (by decide) (by decide)]; decide
  · rw [z 12 b (by decide) (by decide)]; decide
  · rw [z 12 b (by decide) (by decide)] at h3; omega
  · rw [z 4 t (by decide) (by decide), z 6 t (by decide) (by decide), z 10 t (by decide) (by decide), z 12 _ (by decide) (by decide)]; decide
  · exact z 12 _ (by decide) (by decide)
  · obtain ⟨c, e, -⟩ := RT.head h
    have := e.1
    have h2 := e.2.1
    rw [m00] at h2
    omega
theorem WFW_0 : WFW (M0w 12) := by
  intro w h0 h1
  rw [M0_z (by decide) (by decide), M0_z (by decide) (by decide)]
  decide
/-- behind a call of the class the cells have the reference's shape still -/
theorem lo_g {αC A : Sh} {M C B : Mem} (h : Lo (gα αC) (mm M C) A B) : ∃ αD D, A = gα αD ∧ B = mm M D := by
  refine ⟨A, B, funext fun t => ?_, funext fun t => ?_⟩
  · unfold gα
    by_cases h0 : t = 0
    · rw [if_pos h0, (h t (by omega)).1, h0]; rfl
    · rw [if_neg h0]
      by_cases h1 : 1 ≤ t ∧ t ≤ 58
      · rw [if_pos h1, (h t (by omega)).1]; unfold gα; rw [if_neg h0, if_pos h1]
      · rw [if_neg h1]
  · funext i
    unfold mm
    by_cases h0 : t = 0
    · rw [if_pos h0, (h t (by omega)).2]; unfold mm; rw [if_pos h0]
    · rw [if_neg h0]
      by_cases h1 : 1 ≤ t ∧ t ≤ 58
      · rw [if_pos h1, (h t (by omega)).2]; unfold mm; rw [if_neg h0, if_pos h1]
      · rw [if_neg h1]
section VLM
variable {Γ : GC} {α0 αC : Sh} {C M : Mem} {ad0 : Ad} {Z : ZT} {R : Room} {own : String} {cc : ByteArray} {nL : Nat} {ret : Option FieldType} {nm : String} {pc q : Nat} {st lv : List AV} {cs sl : Nat}
/-- the law calls the reference -/
theorem VL_callI {idx n d1 mL : Nat} {y : MethodName} {cy : ByteArray} {ry : Option FieldType} {As stk : List AV} {P : Int → Mem → Prop} (hM : MM Γ y cy mL ry d1 As αC C M (mI P)) (hd : decode cc pc = .ok (.invokevirtual idx, 3)) (hp : pc + 3 = q) (ml : MLk own idx y) (mw : MWk y cy mL ry) (im : IMk y) (sk : SLk y) (md : MDk y n) (hci : RX7 = y.cls) (hn : As.length = n) (hstk : stk = As.reverse ++ (3, 0) :: st) (hf : d1 + 1 ≤ R.frames) (hlo : 8 + (mL + 11) + 64 * d1 ≤ R.locals) (hcs : cs ≤ R.cells) (hsl : sl ≤ R.slots) (hcat : catL st ≤ 8)
    (kk : ∀ v M1, inI v → P v M1 → V Γ α0 ad0 Z R own cc nL ret nm q ((0, v) :: st) lv (gα αC) (mm M1 C) cs sl) : V Γ α0 ad0 Z R own cc nL ret nm pc stk lv (gα αC) (mm M C) cs sl := by
  refine V_invV hM hd hp ml mw im sk md (ci := 7) hci (by decide) (by decide) rfl hn hstk hf hlo hcs hsl hcat ?_
  rintro r α1 μ1 he hr ⟨rfl, M1, rfl, v, rfl, hP⟩
  exact kk v M1 (hr _ rfl) hP
end VLM
set_option maxRecDepth 20000 in
theorem p1_tail {Γ : GC} {ad0 : Ad} {b L : Nat} {xs : Nat → Int32} (hb : b < g_b Γ) (hLn : L < 2147483648) (hL : L ≤ 7) {α : Sh} {μ : Mem} {cs sl : Nat} (hcs : cs ≤ 600000) (hsl : sl ≤ 7302250) : V Γ (fun _ => (0, 0)) ad0 (ZX (g_b Γ) b L xs) room_1 RL code 4 (some .boolean) "law" 1045 [] [(5, (b : Int)), (3, 100), (3, 0), (0, 0)] α μ cs sl := by
  refine V_iinc (q := 1048) dL_law_1045 rfl rfl (by decide) rfl (by omega) (fun z1045 lz1045 ez1045 hlz1045 => ?_)
  obtain rfl : lz1045 = [(5, (b : Int)), (3, 100), (3, 0), (0, z1045)] := hlz1045
  refine V_goto (tgt := 18) dL_law_1048 (by decide) ?_
  refine V_iload_n (q := 19) dL_law_18 rfl rfl rfl ?_
  refine V_aloadR (q := 20) dL_law_19 rfl rfl rfl ?_
  refine V_slen (q := 21) dL_law_20 rfl hb hLn ?_
  refine V_bipush (q := 23) dL_law_21 rfl (by decide) ?_
  refine V_isub (q := 24) dL_law_23 rfl (by omega) (fun z23 ez23 => ?_)
  refine V_icmp_gt (q := 27) (tgt := 1051) dL_law_24 (by decide) rfl (fun c24 => ?_) (fun c24 => ?_)
  · refine V_iconst (q := 1052) dL_law_1051 rfl (by decide) ?_
    exact V_lawret dL_law_1052 hcs hsl
  · exfalso; omega
set_option maxHeartbeats 4000000 in
set_option maxRecDepth 20000 in
theorem p1_cls {Γ : GC} {ad0 : Ad} {b L : Nat} {xs : Nat → Int32} (hb : b < g_b Γ) (hLn : L < 2147483648) (hL : L ≤ 7) (hL7 : L = 7) {αC : Sh} {C : Mem} (N : FrN (gα αC) (mm (M0w 12) C)) : V Γ (fun _ => (0, 0)) ad0 (ZX (g_b Γ) b L xs) room_1 RL code 4 (some .boolean) "law" 140 [] [(5, (b : Int)), (3, 100), (3, 0), (0, 0)] (gα αC) (mm (M0w 12) C) 53 23953 := by
  refine V_aload_n (q := 141) dL_law_140 rfl rfl rfl ?_
  refine V_aloadR (q := 142) dL_law_141 rfl rfl rfl ?_
  refine V_iload_n (q := 143) dL_law_142 rfl rfl rfl ?_
  refine V_iconst (q := 144) dL_law_143 rfl (by decide) ?_
  refine V_iadd (q := 145) dL_law_144 rfl (by omega) (fun z144 ez144 => ?_)
  refine V_sld (q := 146) dL_law_145 rfl hb hLn (by omega) (fun z145 ez145 rz145 => ?_)
  rw [ez144] at ez145
  refine V_aloadR (q := 147) dL_law_146 rfl rfl rfl ?_
  refine V_iload_n (q := 148) dL_law_147 rfl rfl rfl ?_
  refine V_iconst (q := 149) dL_law_148 rfl (by decide) ?_
  refine V_iadd (q := 150) dL_law_149 rfl (by omega) (fun z149 ez149 => ?_)
  refine V_sld (q := 151) dL_law_150 rfl hb hLn (by omega) (fun z150 ez150 rz150 => ?_)
  rw [ez149] at ez150
  refine V_if_eq (q := 154) (tgt := 158) dL_law_151 (by decide) rfl (fun c151 => ?_) (fun c151 => ?_)
  · refine V_iconst (q := 159) dL_law_158 rfl (by decide) ?_
    refine V_chVi (q := 162) (As := [(0, z145), (0, 0)]) (fX6_cls N (by decide)) dL_law_159 rfl mlL_13 mw_X6_cls im_X6_cls sl_X6_cls md_X6_cls rfl (by decide) (by decide) (congrArg Prod.fst N.1.1.1.1) rfl rfl (by decide) (by decide) (Nat.le_of_ble_eq_true rfl) (Nat.le_of_ble_eq_true rfl) (Nat.le_of_ble_eq_true rfl) (fun zc rzc A B x h => ?_)
    obtain ⟨lo, hzc⟩ := h
    obtain ⟨αD, D, rfl, rfl⟩ := lo_g lo
    refine V_aload_n (q := 163) dL_law_162 rfl rfl rfl ?_
    refine V_aloadR (q := 164) dL_law_163 rfl rfl rfl ?_
    refine V_iload_n (q := 165) dL_law_164 rfl rfl rfl ?_
    refine V_iconst (q := 166) dL_law_165 rfl (by decide) ?_
    refine V_iadd (q := 167) dL_law_166 rfl (by omega) (fun z166 ez166 => ?_)
    refine V_sld (q := 168) dL_law_167 rfl hb hLn (by omega) (fun z167 ez167 rz167 => ?_)
    rw [ez166] at ez167
    refine V_aloadR (q := 169) dL_law_168 rfl rfl rfl ?_
    refine V_iload_n (q := 170) dL_law_169 rfl rfl rfl ?_
    refine V_iconst (q := 171) dL_law_170 rfl (by decide) ?_
    refine V_iadd (q := 172) dL_law_171 rfl (by omega) (fun z171 ez171 => ?_)
    refine V_sld (q := 173) dL_law_172 rfl hb hLn (by omega) (fun z172 ez172 rz172 => ?_)
    rw [ez171] at ez172
    refine V_if_eq (q := 176) (tgt := 180) dL_law_173 (by decide) rfl (fun c173 => ?_) (fun c173 => ?_)
    · refine V_iconst (q := 181) dL_law_180 rfl (by decide) ?_
      refine VL_callI (q := 184) (As := [(0, z167), (0, 0)]) (tX7_cls WFD_0 (by decide)) dL_law_181 rfl mlL_17 mw_X7_cls im_X7_cls sl_X7_cls md_X7_cls rfl rfl rfl (by decide) (by decide) (Nat.le_of_ble_eq_true rfl) (Nat.le_of_ble_eq_true rfl) (Nat.le_of_ble_eq_true rfl) (fun zm M1 rzm hzm => ?_)
      have ezm := hzm.2
      unfold clsR at ezm
      rw [m00, m17] at ezm
      refine V_icmp_eq (q := 187) (tgt := 1045) dL_law_184 (by decide) rfl (fun c184 => ?_) (fun c184 => ?_)
      · exact p1_tail hb hLn hL (Nat.le_of_ble_eq_true rfl) (Nat.le_of_ble_eq_true rfl)
      · exact absurd (by first | omega | (revert ezm; (repeat' split) <;> intro ezm <;> omega)) c184
    · refine V_iconst (q := 177) dL_law_176 rfl (by decide) ?_
      refine V_goto (tgt := 181) dL_law_177 (by decide) ?_
      refine VL_callI (q := 184) (As := [(0, z167), (0, 1)]) (tX7_cls WFD_0 (by decide)) dL_law_181 rfl mlL_17 mw_X7_cls im_X7_cls sl_X7_cls md_X7_cls rfl rfl rfl (by decide) (by decide) (Nat.le_of_ble_eq_true rfl) (Nat.le_of_ble_eq_true rfl) (Nat.le_of_ble_eq_true rfl) (fun zm_2 M1 rzm_2 hzm_2 => ?_)
      have ezm_2 := hzm_2.2
      unfold clsR at ezm_2
      rw [m00, m17] at ezm_2
      refine V_icmp_eq (q := 187) (tgt := 1045) dL_law_184 (by decide) rfl (fun c184_2 => ?_) (fun c184_2 => ?_)
      · exact p1_tail hb hLn hL (Nat.le_of_ble_eq_true rfl) (Nat.le_of_ble_eq_true rfl)
      · exact absurd (by first | omega | (revert ezm_2; (repeat' split) <;> intro ezm_2 <;> omega)) c184_2
  · refine V_iconst (q := 155) dL_law_154 rfl (by decide) ?_
    refine V_goto (tgt := 159) dL_law_155 (by decide) ?_
    refine V_chVi (q := 162) (As := [(0, z145), (0, 1)]) (fX6_cls N (by decide)) dL_law_159 rfl mlL_13 mw_X6_cls im_X6_cls sl_X6_cls md_X6_cls rfl (by decide) (by decide) (congrArg Prod.fst N.1.1.1.1) rfl rfl (by decide) (by decide) (Nat.le_of_ble_eq_true rfl) (Nat.le_of_ble_eq_true rfl) (Nat.le_of_ble_eq_true rfl) (fun zc_2 rzc_2 A B x h => ?_)
    obtain ⟨lo, hzc_2⟩ := h
    obtain ⟨αD, D, rfl, rfl⟩ := lo_g lo
    refine V_aload_n (q := 163) dL_law_162 rfl rfl rfl ?_
    refine V_aloadR (q := 164) dL_law_163 rfl rfl rfl ?_
    refine V_iload_n (q := 165) dL_law_164 rfl rfl rfl ?_
    refine V_iconst (q := 166) dL_law_165 rfl (by decide) ?_
    refine V_iadd (q := 167) dL_law_166 rfl (by omega) (fun z166_2 ez166_2 => ?_)
    refine V_sld (q := 168) dL_law_167 rfl hb hLn (by omega) (fun z167_2 ez167_2 rz167_2 => ?_)
    rw [ez166_2] at ez167_2
    refine V_aloadR (q := 169) dL_law_168 rfl rfl rfl ?_
    refine V_iload_n (q := 170) dL_law_169 rfl rfl rfl ?_
    refine V_iconst (q := 171) dL_law_170 rfl (by decide) ?_
    refine V_iadd (q := 172) dL_law_171 rfl (by omega) (fun z171_2 ez171_2 => ?_)
    refine V_sld (q := 173) dL_law_172 rfl hb hLn (by omega) (fun z172_2 ez172_2 rz172_2 => ?_)
    rw [ez171_2] at ez172_2
    refine V_if_eq (q := 176) (tgt := 180) dL_law_173 (by decide) rfl (fun c173_2 => ?_) (fun c173_2 => ?_)
    · refine V_iconst (q := 181) dL_law_180 rfl (by decide) ?_
      refine VL_callI (q := 184) (As := [(0, z167_2), (0, 0)]) (tX7_cls WFD_0 (by decide)) dL_law_181 rfl mlL_17 mw_X7_cls im_X7_cls sl_X7_cls md_X7_cls rfl rfl rfl (by decide) (by decide) (Nat.le_of_ble_eq_true rfl) (Nat.le_of_ble_eq_true rfl) (Nat.le_of_ble_eq_true rfl) (fun zm_3 M1 rzm_3 hzm_3 => ?_)
      have ezm_3 := hzm_3.2
      unfold clsR at ezm_3
      rw [m00, m17] at ezm_3
      refine V_icmp_eq (q := 187) (tgt := 1045) dL_law_184 (by decide) rfl (fun c184_3 => ?_) (fun c184_3 => ?_)
      · exact p1_tail hb hLn hL (Nat.le_of_ble_eq_true rfl) (Nat.le_of_ble_eq_true rfl)
      · exact absurd (by first | omega | (revert ezm_3; (repeat' split) <;> intro ezm_3 <;> omega)) c184_3
    · refine V_iconst (q := 177) dL_law_176 rfl (by decide) ?_
      refine V_goto (tgt := 181) dL_law_177 (by decide) ?_
      refine VL_callI (q := 184) (As := [(0, z167_2), (0, 1)]) (tX7_cls WFD_0 (by decide)) dL_law_181 rfl mlL_17 mw_X7_cls im_X7_cls sl_X7_cls md_X7_cls rfl rfl rfl (by decide) (by decide) (Nat.le_of_ble_eq_true rfl) (Nat.le_of_ble_eq_true rfl) (Nat.le_of_ble_eq_true rfl) (fun zm_4 M1 rzm_4 hzm_4 => ?_)
      have ezm_4 := hzm_4.2
      unfold clsR at ezm_4
      rw [m00, m17] at ezm_4
      refine V_icmp_eq (q := 187) (tgt := 1045) dL_law_184 (by decide) rfl (fun c184_4 => ?_) (fun c184_4 => ?_)
      · exact p1_tail hb hLn hL (Nat.le_of_ble_eq_true rfl) (Nat.le_of_ble_eq_true rfl)
      · exact absurd (by first | omega | (revert ezm_4; (repeat' split) <;> intro ezm_4 <;> omega)) c184_4
set_option maxHeartbeats 4000000 in
set_option maxRecDepth 20000 in
theorem p1_face {Γ : GC} {ad0 : Ad} {b L : Nat} {xs : Nat → Int32} (hb : b < g_b Γ) (hLn : L < 2147483648) (hL : L ≤ 7) (hL7 : L = 7) {αC : Sh} {C : Mem} (N : FrN (gα αC) (mm (M0w 12) C)) : V Γ (fun _ => (0, 0)) ad0 (ZX (g_b Γ) b L xs) room_1 RL code 4 (some .boolean) "law" 189 [] [(5, (b : Int)), (3, 100), (3, 0), (0, 0)] (gα αC) (mm (M0w 12) C) 53 23953 := by
  refine V_aload_n (q := 190) dL_law_189 rfl rfl rfl ?_
  refine V_aloadR (q := 191) dL_law_190 rfl rfl rfl ?_
  refine V_iload_n (q := 192) dL_law_191 rfl rfl rfl ?_
  refine V_iconst (q := 193) dL_law_192 rfl (by decide) ?_
  refine V_iadd (q := 194) dL_law_193 rfl (by omega) (fun z193 ez193 => ?_)
  refine V_sld (q := 195) dL_law_194 rfl hb hLn (by omega) (fun z194 ez194 rz194 => ?_)
  rw [ez193] at ez194
  refine V_if_eq (q := 198) (tgt := 202) dL_law_195 (by decide) rfl (fun c195 => ?_) (fun c195 => ?_)
  · refine V_iconst (q := 203) dL_law_202 rfl (by decide) ?_
    refine V_chVi (q := 206) (As := [(0, 0)]) (fX6_face N (by decide)) dL_law_203 rfl mlL_18 mw_X6_face im_X6_face sl_X6_face md_X6_face rfl (by decide) (by decide) (congrArg Prod.fst N.1.1.1.1) rfl rfl (by decide) (by decide) (Nat.le_of_ble_eq_true rfl) (Nat.le_of_ble_eq_true rfl) (Nat.le_of_ble_eq_true rfl) (fun zc rzc A B x h => ?_)
    obtain ⟨lo, hzc⟩ := h
    obtain ⟨αD, D, rfl, rfl⟩ := lo_g lo
    refine V_aload_n (q := 207) dL_law_206 rfl rfl rfl ?_
    refine V_aloadR (q := 208) dL_law_207 rfl rfl rfl ?_
    refine V_iload_n (q := 209) dL_law_208 rfl rfl rfl ?_
    refine V_iconst (q := 210) dL_law_209 rfl (by decide) ?_
    refine V_iadd (q := 211) dL_law_210 rfl (by omega) (fun z210 ez210 => ?_)
    refine V_sld (q := 212) dL_law_211 rfl hb hLn (by omega) (fun z211 ez211 rz211 => ?_)
    rw [ez210] at ez211
    refine V_if_eq (q := 215) (tgt := 219) dL_law_212 (by decide) rfl (fun c212 => ?_) (fun c212 => ?_)
    · refine V_iconst (q := 220) dL_law_219 rfl (by decide) ?_
      refine VL_callI (q := 223) (As := [(0, 0)]) (tX7_face WFD_0 (by decide)) dL_law_220 rfl mlL_22 mw_X7_face im_X7_face sl_X7_face md_X7_face rfl rfl rfl (by decide) (by decide) (Nat.le_of_ble_eq_true rfl) (Nat.le_of_ble_eq_true rfl) (Nat.le_of_ble_eq_true rfl) (fun zm M1 rzm hzm => ?_)
      have ezm := hzm.2
      unfold faceR at ezm
      rw [m00, m17] at ezm
      refine V_icmp_eq (q := 226) (tgt := 1045) dL_law_223 (by decide) rfl (fun c223 => ?_) (fun c223 => ?_)
      · exact p1_tail hb hLn hL (Nat.le_of_ble_eq_true rfl) (Nat.le_of_ble_eq_true rfl)
      · exact absurd (by first | omega | (revert ezm; (repeat' split) <;> intro ezm <;> omega)) c223
    · refine V_iconst (q := 216) dL_law_215 rfl (by decide) ?_
      refine V_goto (tgt := 220) dL_law_216 (by decide) ?_
      refine VL_callI (q := 223) (As := [(0, 1)]) (tX7_face WFD_0 (by decide)) dL_law_220 rfl mlL_22 mw_X7_face im_X7_face sl_X7_face md_X7_face rfl rfl rfl (by decide) (by decide) (Nat.le_of_ble_eq_true rfl) (Nat.le_of_ble_eq_true rfl) (Nat.le_of_ble_eq_true rfl) (fun zm_2 M1 rzm_2 hzm_2 => ?_)
      have ezm_2 := hzm_2.2
      unfold faceR at ezm_2
      rw [m00, m17] at ezm_2
      refine V_icmp_eq (q := 226) (tgt := 1045) dL_law_223 (by decide) rfl (fun c223_2 => ?_) (fun c223_2 => ?_)
      · exact p1_tail hb hLn hL (Nat.le_of_ble_eq_true rfl) (Nat.le_of_ble_eq_true rfl)
      · exact absurd (by first | omega | (revert ezm_2; (repeat' split) <;> intro ezm_2 <;> omega)) c223_2
  · refine V_iconst (q := 199) dL_law_198 rfl (by decide) ?_
    refine V_goto (tgt := 203) dL_law_199 (by decide) ?_
    refine V_chVi (q := 206) (As := [(0, 1)]) (fX6_face N (by decide)) dL_law_203 rfl mlL_18 mw_X6_face im_X6_face sl_X6_face md_X6_face rfl (by decide) (by decide) (congrArg Prod.fst N.1.1.1.1) rfl rfl (by decide) (by decide) (Nat.le_of_ble_eq_true rfl) (Nat.le_of_ble_eq_true rfl) (Nat.le_of_ble_eq_true rfl) (fun zc_2 rzc_2 A B x h => ?_)
    obtain ⟨lo, hzc_2⟩ := h
    obtain ⟨αD, D, rfl, rfl⟩ := lo_g lo
    refine V_aload_n (q := 207) dL_law_206 rfl rfl rfl ?_
    refine V_aloadR (q := 208) dL_law_207 rfl rfl rfl ?_
    refine V_iload_n (q := 209) dL_law_208 rfl rfl rfl ?_
    refine V_iconst (q := 210) dL_law_209 rfl (by decide) ?_
    refine V_iadd (q := 211) dL_law_210 rfl (by omega) (fun z210_2 ez210_2 => ?_)
    refine V_sld (q := 212) dL_law_211 rfl hb hLn (by omega) (fun z211_2 ez211_2 rz211_2 => ?_)
    rw [ez210_2] at ez211_2
    refine V_if_eq (q := 215) (tgt := 219) dL_law_212 (by decide) rfl (fun c212_2 => ?_) (fun c212_2 => ?_)
    · refine V_iconst (q := 220) dL_law_219 rfl (by decide) ?_
      refine VL_callI (q := 223) (As := [(0, 0)]) (tX7_face WFD_0 (by decide)) dL_law_220 rfl mlL_22 mw_X7_face im_X7_face sl_X7_face md_X7_face rfl rfl rfl (by decide) (by decide) (Nat.le_of_ble_eq_true rfl) (Nat.le_of_ble_eq_true rfl) (Nat.le_of_ble_eq_true rfl) (fun zm_3 M1 rzm_3 hzm_3 => ?_)
      have ezm_3 := hzm_3.2
      unfold faceR at ezm_3
      rw [m00, m17] at ezm_3
      refine V_icmp_eq (q := 226) (tgt := 1045) dL_law_223 (by decide) rfl (fun c223_3 => ?_) (fun c223_3 => ?_)
      · exact p1_tail hb hLn hL (Nat.le_of_ble_eq_true rfl) (Nat.le_of_ble_eq_true rfl)
      · exact absurd (by first | omega | (revert ezm_3; (repeat' split) <;> intro ezm_3 <;> omega)) c223_3
    · refine V_iconst (q := 216) dL_law_215 rfl (by decide) ?_
      refine V_goto (tgt := 220) dL_law_216 (by decide) ?_
      refine VL_callI (q := 223) (As := [(0, 1)]) (tX7_face WFD_0 (by decide)) dL_law_220 rfl mlL_22 mw_X7_face im_X7_face sl_X7_face md_X7_face rfl rfl rfl (by decide) (by decide) (Nat.le_of_ble_eq_true rfl) (Nat.le_of_ble_eq_true rfl) (Nat.le_of_ble_eq_true rfl) (fun zm_4 M1 rzm_4 hzm_4 => ?_)
      have ezm_4 := hzm_4.2
      unfold faceR at ezm_4
      rw [m00, m17] at ezm_4
      refine V_icmp_eq (q := 226) (tgt := 1045) dL_law_223 (by decide) rfl (fun c223_4 => ?_) (fun c223_4 => ?_)
      · exact p1_tail hb hLn hL (Nat.le_of_ble_eq_true rfl) (Nat.le_of_ble_eq_true rfl)
      · exact absurd (by first | omega | (revert ezm_4; (repeat' split) <;> intro ezm_4 <;> omega)) c223_4
set_option maxHeartbeats 4000000 in
set_option maxRecDepth 20000 in
theorem p1_under {Γ : GC} {ad0 : Ad} {b L : Nat} {xs : Nat → Int32} (hb : b < g_b Γ) (hLn : L < 2147483648) (hL : L ≤ 7) (hL7 : L = 7) {αC : Sh} {C : Mem} (N : FrN (gα αC) (mm (M0w 12) C)) : V Γ (fun _ => (0, 0)) ad0 (ZX (g_b Γ) b L xs) room_1 RL code 4 (some .boolean) "law" 228 [] [(5, (b : Int)), (3, 100), (3, 0), (0, 0)] (gα αC) (mm (M0w 12) C) 53 23953 := by
  refine V_aload_n (q := 229) dL_law_228 rfl rfl rfl ?_
  refine V_aloadR (q := 230) dL_law_229 rfl rfl rfl ?_
  refine V_iload_n (q := 231) dL_law_230 rfl rfl rfl ?_
  refine V_iconst (q := 232) dL_law_231 rfl (by decide) ?_
  refine V_iadd (q := 233) dL_law_232 rfl (by omega) (fun z232 ez232 => ?_)
  refine V_sld (q := 234) dL_law_233 rfl hb hLn (by omega) (fun z233 ez233 rz233 => ?_)
  rw [ez232] at ez233
  refine V_aloadR (q := 235) dL_law_234 rfl rfl rfl ?_
  refine V_iload_n (q := 236) dL_law_235 rfl rfl rfl ?_
  refine V_iconst (q := 237) dL_law_236 rfl (by decide) ?_
  refine V_iadd (q := 238) dL_law_237 rfl (by omega) (fun z237 ez237 => ?_)
  refine V_sld (q := 239) dL_law_238 rfl hb hLn (by omega) (fun z238 ez238 rz238 => ?_)
  rw [ez237] at ez238
  refine V_rdV (q := 242) (As := [(0, z233), (0, z238)]) (fX6_under N) dL_law_239 rfl mlL_23 mw_X6_under im_X6_under sl_X6_under md_X6_under rfl (by decide) (by decide) (congrArg Prod.fst N.1.1.1.1) rfl rfl (by decide) (by decide) (Nat.le_of_ble_eq_true rfl) (Nat.le_of_ble_eq_true rfl) (Nat.le_of_ble_eq_true rfl) (fun zc rzc hzc => ?_)
  refine V_aload_n (q := 243) dL_law_242 rfl rfl rfl ?_
  refine V_aloadR (q := 244) dL_law_243 rfl rfl rfl ?_
  refine V_iload_n (q := 245) dL_law_244 rfl rfl rfl ?_
  refine V_iconst (q := 246) dL_law_245 rfl (by decide) ?_
  refine V_iadd (q := 247) dL_law_246 rfl (by omega) (fun z246 ez246 => ?_)
  refine V_sld (q := 248) dL_law_247 rfl hb hLn (by omega) (fun z247 ez247 rz247 => ?_)
  rw [ez246] at ez247
  refine V_aloadR (q := 249) dL_law_248 rfl rfl rfl ?_
  refine V_iload_n (q := 250) dL_law_249 rfl rfl rfl ?_
  refine V_iconst (q := 251) dL_law_250 rfl (by decide) ?_
  refine V_iadd (q := 252) dL_law_251 rfl (by omega) (fun z251 ez251 => ?_)
  refine V_sld (q := 253) dL_law_252 rfl hb hLn (by omega) (fun z252 ez252 rz252 => ?_)
  rw [ez251] at ez252
  refine VL_callI (q := 256) (As := [(0, z247), (0, z252)]) (tX7_under WFD_0) dL_law_253 rfl mlL_27 mw_X7_under im_X7_under sl_X7_under md_X7_under rfl rfl rfl (by decide) (by decide) (Nat.le_of_ble_eq_true rfl) (Nat.le_of_ble_eq_true rfl) (Nat.le_of_ble_eq_true rfl) (fun zm M1 rzm hzm => ?_)
  have ezm := hzm.2
  unfold undR at ezm
  rw [m00, m17] at ezm
  refine V_icmp_eq (q := 259) (tgt := 1045) dL_law_256 (by decide) rfl (fun c256 => ?_) (fun c256 => ?_)
  · exact p1_tail hb hLn hL (Nat.le_of_ble_eq_true rfl) (Nat.le_of_ble_eq_true rfl)
  · exact absurd (by first | omega | (revert ezm; (repeat' split) <;> intro ezm <;> omega)) c256
set_option maxHeartbeats 4000000 in
set_option maxRecDepth 20000 in
theorem p1_field {Γ : GC} {ad0 : Ad} {b L : Nat} {xs : Nat → Int32} (hb : b < g_b Γ) (hLn : L < 2147483648) (hL : L ≤ 7) (hL7 : L = 7) {αC : Sh} {C : Mem} (N : FrN (gα αC) (mm (M0w 12) C)) : V Γ (fun _ => (0, 0)) ad0 (ZX (g_b Γ) b L xs) room_1 RL code 4 (some .boolean) "law" 261 [] [(5, (b : Int)), (3, 100), (3, 0), (0, 0)] (gα αC) (mm (M0w 12) C) 53 23953 := by
  refine V_aload_n (q := 262) dL_law_261 rfl rfl rfl ?_
  refine V_aloadR (q := 263) dL_law_262 rfl rfl rfl ?_
  refine V_iload_n (q := 264) dL_law_263 rfl rfl rfl ?_
  refine V_iconst (q := 265) dL_law_264 rfl (by decide) ?_
  refine V_iadd (q := 266) dL_law_265 rfl (by omega) (fun z265 ez265 => ?_)
  refine V_sld (q := 267) dL_law_266 rfl hb hLn (by omega) (fun z266 ez266 rz266 => ?_)
  rw [ez265] at ez266
  refine V_aloadR (q := 268) dL_law_267 rfl rfl rfl ?_
  refine V_iload_n (q := 269) dL_law_268 rfl rfl rfl ?_
  refine V_iconst (q := 270) dL_law_269 rfl (by decide) ?_
  refine V_iadd (q := 271) dL_law_270 rfl (by omega) (fun z270 ez270 => ?_)
  refine V_sld (q := 272) dL_law_271 rfl hb hLn (by omega) (fun z271 ez271 rz271 => ?_)
  rw [ez270] at ez271
  refine V_aloadR (q := 273) dL_law_272 rfl rfl rfl ?_
  refine V_iload_n (q := 274) dL_law_273 rfl rfl rfl ?_
  refine V_iconst (q := 275) dL_law_274 rfl (by decide) ?_
  refine V_iadd (q := 276) dL_law_275 rfl (by omega) (fun z275 ez275 => ?_)
  refine V_sld (q := 277) dL_law_276 rfl hb hLn (by omega) (fun z276 ez276 rz276 => ?_)
  rw [ez275] at ez276
  refine V_if_eq (q := 280) (tgt := 284) dL_law_277 (by decide) rfl (fun c277 => ?_) (fun c277 => ?_)
  · refine V_iconst (q := 285) dL_law_284 rfl (by decide) ?_
    refine V_aloadR (q := 286) dL_law_285 rfl rfl rfl ?_
    refine V_iload_n (q := 287) dL_law_286 rfl rfl rfl ?_
    refine V_iconst (q := 288) dL_law_287 rfl (by decide) ?_
    refine V_iadd (q := 289) dL_law_288 rfl (by omega) (fun z288 ez288 => ?_)
    refine V_sld (q := 290) dL_law_289 rfl hb hLn (by omega) (fun z289 ez289 rz289 => ?_)
    rw [ez288] at ez289
    refine V_rdV (q := 293) (As := [(0, z266), (0, z271), (0, 0), (0, z289)]) (fX6_field N) dL_law_290 rfl mlL_28 mw_X6_field im_X6_field sl_X6_field md_X6_field rfl (by decide) (by decide) (congrArg Prod.fst N.1.1.1.1) rfl rfl (by decide) (by decide) (Nat.le_of_ble_eq_true rfl) (Nat.le_of_ble_eq_true rfl) (Nat.le_of_ble_eq_true rfl) (fun zc rzc hzc => ?_)
    refine V_aload_n (q := 294) dL_law_293 rfl rfl rfl ?_
    refine V_aloadR (q := 295) dL_law_294 rfl rfl rfl ?_
    refine V_iload_n (q := 296) dL_law_295 rfl rfl rfl ?_
    refine V_iconst (q := 297) dL_law_296 rfl (by decide) ?_
    refine V_iadd (q := 298) dL_law_297 rfl (by omega) (fun z297 ez297 => ?_)
    refine V_sld (q := 299) dL_law_298 rfl hb hLn (by omega) (fun z298 ez298 rz298 => ?_)
    rw [ez297] at ez298
    refine V_aloadR (q := 300) dL_law_299 rfl rfl rfl ?_
    refine V_iload_n (q := 301) dL_law_300 rfl rfl rfl ?_
    refine V_iconst (q := 302) dL_law_301 rfl (by decide) ?_
    refine V_iadd (q := 303) dL_law_302 rfl (by omega) (fun z302 ez302 => ?_)
    refine V_sld (q := 304) dL_law_303 rfl hb hLn (by omega) (fun z303 ez303 rz303 => ?_)
    rw [ez302] at ez303
    refine V_aloadR (q := 305) dL_law_304 rfl rfl rfl ?_
    refine V_iload_n (q := 306) dL_law_305 rfl rfl rfl ?_
    refine V_iconst (q := 307) dL_law_306 rfl (by decide) ?_
    refine V_iadd (q := 308) dL_law_307 rfl (by omega) (fun z307 ez307 => ?_)
    refine V_sld (q := 309) dL_law_308 rfl hb hLn (by omega) (fun z308 ez308 rz308 => ?_)
    rw [ez307] at ez308
    refine V_if_eq (q := 312) (tgt := 316) dL_law_309 (by decide) rfl (fun c309 => ?_) (fun c309 => ?_)
    · refine V_iconst (q := 317) dL_law_316 rfl (by decide) ?_
      refine V_aloadR (q := 318) dL_law_317 rfl rfl rfl ?_
      refine V_iload_n (q := 319) dL_law_318 rfl rfl rfl ?_
      refine V_iconst (q := 320) dL_law_319 rfl (by decide) ?_
      refine V_iadd (q := 321) dL_law_320 rfl (by omega) (fun z320 ez320 => ?_)
      refine V_sld (q := 322) dL_law_321 rfl hb hLn (by omega) (fun z321 ez321 rz321 => ?_)
      rw [ez320] at ez321
      refine VL_callI (q := 325) (As := [(0, z298), (0, z303), (0, 0), (0, z321)]) (tX7_field WFD_0 (by decide)) dL_law_322 rfl mlL_32 mw_X7_field im_X7_field sl_X7_field md_X7_field rfl rfl rfl (by decide) (by decide) (Nat.le_of_ble_eq_true rfl) (Nat.le_of_ble_eq_true rfl) (Nat.le_of_ble_eq_true rfl) (fun zm M1 rzm hzm => ?_)
      have ezm := hzm.2
      unfold fldR at ezm
      rw [m00, m17] at ezm
      refine V_icmp_eq (q := 328) (tgt := 1045) dL_law_325 (by decide) rfl (fun c325 => ?_) (fun c325 => ?_)
      · exact p1_tail hb hLn hL (Nat.le_of_ble_eq_true rfl) (Nat.le_of_ble_eq_true rfl)
      · exact absurd (by first | omega | (revert ezm; (repeat' split) <;> intro ezm <;> omega)) c325
    · refine V_iconst (q := 313) dL_law_312 rfl (by decide) ?_
      refine V_goto (tgt := 317) dL_law_313 (by decide) ?_
      refine V_aloadR (q := 318) dL_law_317 rfl rfl rfl ?_
      refine V_iload_n (q := 319) dL_law_318 rfl rfl rfl ?_
      refine V_iconst (q := 320) dL_law_319 rfl (by decide) ?_
      refine V_iadd (q := 321) dL_law_320 rfl (by omega) (fun z320_2 ez320_2 => ?_)
      refine V_sld (q := 322) dL_law_321 rfl hb hLn (by omega) (fun z321_2 ez321_2 rz321_2 => ?_)
      rw [ez320_2] at ez321_2
      refine VL_callI (q := 325) (As := [(0, z298), (0, z303), (0, 1), (0, z321_2)]) (tX7_field WFD_0 (by decide)) dL_law_322 rfl mlL_32 mw_X7_field im_X7_field sl_X7_field md_X7_field rfl rfl rfl (by decide) (by decide) (Nat.le_of_ble_eq_true rfl) (Nat.le_of_ble_eq_true rfl) (Nat.le_of_ble_eq_true rfl) (fun zm_2 M1 rzm_2 hzm_2 => ?_)
      have ezm_2 := hzm_2.2
      unfold fldR at ezm_2
      rw [m00, m17] at ezm_2
      refine V_icmp_eq (q := 328) (tgt := 1045) dL_law_325 (by decide) rfl (fun c325_2 => ?_) (fun c325_2 => ?_)
      · exact p1_tail hb hLn hL (Nat.le_of_ble_eq_true rfl) (Nat.le_of_ble_eq_true rfl)
      · exact absurd (by first | omega | (revert ezm_2; (repeat' split) <;> intro ezm_2 <;> omega)) c325_2
  · refine V_iconst (q := 281) dL_law_280 rfl (by decide) ?_
    refine V_goto (tgt := 285) dL_law_281 (by decide) ?_
    refine V_aloadR (q := 286) dL_law_285 rfl rfl rfl ?_
    refine V_iload_n (q := 287) dL_law_286 rfl rfl rfl ?_
    refine V_iconst (q := 288) dL_law_287 rfl (by decide) ?_
    refine V_iadd (q := 289) dL_law_288 rfl (by omega) (fun z288_2 ez288_2 => ?_)
    refine V_sld (q := 290) dL_law_289 rfl hb hLn (by omega) (fun z289_2 ez289_2 rz289_2 => ?_)
    rw [ez288_2] at ez289_2
    refine V_rdV (q := 293) (As := [(0, z266), (0, z271), (0, 1), (0, z289_2)]) (fX6_field N) dL_law_290 rfl mlL_28 mw_X6_field im_X6_field sl_X6_field md_X6_field rfl (by decide) (by decide) (congrArg Prod.fst N.1.1.1.1) rfl rfl (by decide) (by decide) (Nat.le_of_ble_eq_true rfl) (Nat.le_of_ble_eq_true rfl) (Nat.le_of_ble_eq_true rfl) (fun zc_2 rzc_2 hzc_2 => ?_)
    refine V_aload_n (q := 294) dL_law_293 rfl rfl rfl ?_
    refine V_aloadR (q := 295) dL_law_294 rfl rfl rfl ?_
    refine V_iload_n (q := 296) dL_law_295 rfl rfl rfl ?_
    refine V_iconst (q := 297) dL_law_296 rfl (by decide) ?_
    refine V_iadd (q := 298) dL_law_297 rfl (by omega) (fun z297_2 ez297_2 => ?_)
    refine V_sld (q := 299) dL_law_298 rfl hb hLn (by omega) (fun z298_2 ez298_2 rz298_2 => ?_)
    rw [ez297_2] at ez298_2
    refine V_aloadR (q := 300) dL_law_299 rfl rfl rfl ?_
    refine V_iload_n (q := 301) dL_law_300 rfl rfl rfl ?_
    refine V_iconst (q := 302) dL_law_301 rfl (by decide) ?_
    refine V_iadd (q := 303) dL_law_302 rfl (by omega) (fun z302_2 ez302_2 => ?_)
    refine V_sld (q := 304) dL_law_303 rfl hb hLn (by omega) (fun z303_2 ez303_2 rz303_2 => ?_)
    rw [ez302_2] at ez303_2
    refine V_aloadR (q := 305) dL_law_304 rfl rfl rfl ?_
    refine V_iload_n (q := 306) dL_law_305 rfl rfl rfl ?_
    refine V_iconst (q := 307) dL_law_306 rfl (by decide) ?_
    refine V_iadd (q := 308) dL_law_307 rfl (by omega) (fun z307_2 ez307_2 => ?_)
    refine V_sld (q := 309) dL_law_308 rfl hb hLn (by omega) (fun z308_2 ez308_2 rz308_2 => ?_)
    rw [ez307_2] at ez308_2
    refine V_if_eq (q := 312) (tgt := 316) dL_law_309 (by decide) rfl (fun c309_2 => ?_) (fun c309_2 => ?_)
    · refine V_iconst (q := 317) dL_law_316 rfl (by decide) ?_
      refine V_aloadR (q := 318) dL_law_317 rfl rfl rfl ?_
      refine V_iload_n (q := 319) dL_law_318 rfl rfl rfl ?_
      refine V_iconst (q := 320) dL_law_319 rfl (by decide) ?_
      refine V_iadd (q := 321) dL_law_320 rfl (by omega) (fun z320_3 ez320_3 => ?_)
      refine V_sld (q := 322) dL_law_321 rfl hb hLn (by omega) (fun z321_3 ez321_3 rz321_3 => ?_)
      rw [ez320_3] at ez321_3
      refine VL_callI (q := 325) (As := [(0, z298_2), (0, z303_2), (0, 0), (0, z321_3)]) (tX7_field WFD_0 (by decide)) dL_law_322 rfl mlL_32 mw_X7_field im_X7_field sl_X7_field md_X7_field rfl rfl rfl (by decide) (by decide) (Nat.le_of_ble_eq_true rfl) (Nat.le_of_ble_eq_true rfl) (Nat.le_of_ble_eq_true rfl) (fun zm_3 M1 rzm_3 hzm_3 => ?_)
      have ezm_3 := hzm_3.2
      unfold fldR at ezm_3
      rw [m00, m17] at ezm_3
      refine V_icmp_eq (q := 328) (tgt := 1045) dL_law_325 (by decide) rfl (fun c325_3 => ?_) (fun c325_3 => ?_)
      · exact p1_tail hb hLn hL (Nat.le_of_ble_eq_true rfl) (Nat.le_of_ble_eq_true rfl)
      · exact absurd (by first | omega | (revert ezm_3; (repeat' split) <;> intro ezm_3 <;> omega)) c325_3
    · refine V_iconst (q := 313) dL_law_312 rfl (by decide) ?_
      refine V_goto (tgt := 317) dL_law_313 (by decide) ?_
      refine V_aloadR (q := 318) dL_law_317 rfl rfl rfl ?_
      refine V_iload_n (q := 319) dL_law_318 rfl rfl rfl ?_
      refine V_iconst (q := 320) dL_law_319 rfl (by decide) ?_
      refine V_iadd (q := 321) dL_law_320 rfl (by omega) (fun z320_4 ez320_4 => ?_)
      refine V_sld (q := 322) dL_law_321 rfl hb hLn (by omega) (fun z321_4 ez321_4 rz321_4 => ?_)
      rw [ez320_4] at ez321_4
      refine VL_callI (q := 325) (As := [(0, z298_2), (0, z303_2), (0, 1), (0, z321_4)]) (tX7_field WFD_0 (by decide)) dL_law_322 rfl mlL_32 mw_X7_field im_X7_field sl_X7_field md_X7_field rfl rfl rfl (by decide) (by decide) (Nat.le_of_ble_eq_true rfl) (Nat.le_of_ble_eq_true rfl) (Nat.le_of_ble_eq_true rfl) (fun zm_4 M1 rzm_4 hzm_4 => ?_)
      have ezm_4 := hzm_4.2
      unfold fldR at ezm_4
      rw [m00, m17] at ezm_4
      refine V_icmp_eq (q := 328) (tgt := 1045) dL_law_325 (by decide) rfl (fun c325_4 => ?_) (fun c325_4 => ?_)
      · exact p1_tail hb hLn hL (Nat.le_of_ble_eq_true rfl) (Nat.le_of_ble_eq_true rfl)
      · exact absurd (by first | omega | (revert ezm_4; (repeat' split) <;> intro ezm_4 <;> omega)) c325_4
set_option maxHeartbeats 4000000 in
set_option maxRecDepth 20000 in
theorem p1_method {Γ : GC} {ad0 : Ad} {b L : Nat} {xs : Nat → Int32} (hb : b < g_b Γ) (hLn : L < 2147483648) (hL : L ≤ 7) (hL7 : L = 7) {αC : Sh} {C : Mem} (N : FrN (gα αC) (mm (M0w 12) C)) : V Γ (fun _ => (0, 0)) ad0 (ZX (g_b Γ) b L xs) room_1 RL code 4 (some .boolean) "law" 330 [] [(5, (b : Int)), (3, 100), (3, 0), (0, 0)] (gα αC) (mm (M0w 12) C) 53 23953 := by
  refine V_aload_n (q := 331) dL_law_330 rfl rfl rfl ?_
  refine V_aloadR (q := 332) dL_law_331 rfl rfl rfl ?_
  refine V_iload_n (q := 333) dL_law_332 rfl rfl rfl ?_
  refine V_iconst (q := 334) dL_law_333 rfl (by decide) ?_
  refine V_iadd (q := 335) dL_law_334 rfl (by omega) (fun z334 ez334 => ?_)
  refine V_sld (q := 336) dL_law_335 rfl hb hLn (by omega) (fun z335 ez335 rz335 => ?_)
  rw [ez334] at ez335
  refine V_aloadR (q := 337) dL_law_336 rfl rfl rfl ?_
  refine V_iload_n (q := 338) dL_law_337 rfl rfl rfl ?_
  refine V_iconst (q := 339) dL_law_338 rfl (by decide) ?_
  refine V_iadd (q := 340) dL_law_339 rfl (by omega) (fun z339 ez339 => ?_)
  refine V_sld (q := 341) dL_law_340 rfl hb hLn (by omega) (fun z340 ez340 rz340 => ?_)
  rw [ez339] at ez340
  refine V_rdV (q := 344) (As := [(0, z335), (0, z340)]) (fX6_method N) dL_law_341 rfl mlL_33 mw_X6_method im_X6_method sl_X6_method md_X6_method rfl (by decide) (by decide) (congrArg Prod.fst N.1.1.1.1) rfl rfl (by decide) (by decide) (Nat.le_of_ble_eq_true rfl) (Nat.le_of_ble_eq_true rfl) (Nat.le_of_ble_eq_true rfl) (fun zc rzc hzc => ?_)
  refine V_aload_n (q := 345) dL_law_344 rfl rfl rfl ?_
  refine V_aloadR (q := 346) dL_law_345 rfl rfl rfl ?_
  refine V_iload_n (q := 347) dL_law_346 rfl rfl rfl ?_
  refine V_iconst (q := 348) dL_law_347 rfl (by decide) ?_
  refine V_iadd (q := 349) dL_law_348 rfl (by omega) (fun z348 ez348 => ?_)
  refine V_sld (q := 350) dL_law_349 rfl hb hLn (by omega) (fun z349 ez349 rz349 => ?_)
  rw [ez348] at ez349
  refine V_aloadR (q := 351) dL_law_350 rfl rfl rfl ?_
  refine V_iload_n (q := 352) dL_law_351 rfl rfl rfl ?_
  refine V_iconst (q := 353) dL_law_352 rfl (by decide) ?_
  refine V_iadd (q := 354) dL_law_353 rfl (by omega) (fun z353 ez353 => ?_)
  refine V_sld (q := 355) dL_law_354 rfl hb hLn (by omega) (fun z354 ez354 rz354 => ?_)
  rw [ez353] at ez354
  refine VL_callI (q := 358) (As := [(0, z349), (0, z354)]) (tX7_method WFD_0) dL_law_355 rfl mlL_36 mw_X7_method im_X7_method sl_X7_method md_X7_method rfl rfl rfl (by decide) (by decide) (Nat.le_of_ble_eq_true rfl) (Nat.le_of_ble_eq_true rfl) (Nat.le_of_ble_eq_true rfl) (fun zm M1 rzm hzm => ?_)
  have ezm := hzm.2
  unfold mthR at ezm
  rw [m00, m17] at ezm
  refine V_icmp_eq (q := 361) (tgt := 1045) dL_law_358 (by decide) rfl (fun c358 => ?_) (fun c358 => ?_)
  · exact p1_tail hb hLn hL (Nat.le_of_ble_eq_true rfl) (Nat.le_of_ble_eq_true rfl)
  · exact absurd (by first | omega | (revert ezm; (repeat' split) <;> intro ezm <;> omega)) c358
set_option maxHeartbeats 4000000 in
set_option maxRecDepth 20000 in
theorem p1_act {Γ : GC} {ad0 : Ad} {b L : Nat} {xs : Nat → Int32} (hb : b < g_b Γ) (hLn : L < 2147483648) (hL : L ≤ 7) (hL7 : L = 7) {αC : Sh} {C : Mem} (N : FrN (gα αC) (mm (M0w 12) C)) : V Γ (fun _ => (0, 0)) ad0 (ZX (g_b Γ) b L xs) room_1 RL code 4 (some .boolean) "law" 363 [] [(5, (b : Int)), (3, 100), (3, 0), (0, 0)] (gα αC) (mm (M0w 12) C) 53 23953 := by
  refine V_aload_n (q := 364) dL_law_363 rfl rfl rfl ?_
  refine V_aloadR (q := 365) dL_law_364 rfl rfl rfl ?_
  refine V_iload_n (q := 366) dL_law_365 rfl rfl rfl ?_
  refine V_iconst (q := 367) dL_law_366 rfl (by decide) ?_
  refine V_iadd (q := 368) dL_law_367 rfl (by omega) (fun z367 ez367 => ?_)
  refine V_sld (q := 369) dL_law_368 rfl hb hLn (by omega) (fun z368 ez368 rz368 => ?_)
  rw [ez367] at ez368
  refine V_aloadR (q := 370) dL_law_369 rfl rfl rfl ?_
  refine V_iload_n (q := 371) dL_law_370 rfl rfl rfl ?_
  refine V_iconst (q := 372) dL_law_371 rfl (by decide) ?_
  refine V_iadd (q := 373) dL_law_372 rfl (by omega) (fun z372 ez372 => ?_)
  refine V_sld (q := 374) dL_law_373 rfl hb hLn (by omega) (fun z373 ez373 rz373 => ?_)
  rw [ez372] at ez373
  refine V_aloadR (q := 375) dL_law_374 rfl rfl rfl ?_
  refine V_iload_n (q := 376) dL_law_375 rfl rfl rfl ?_
  refine V_iconst (q := 377) dL_law_376 rfl (by decide) ?_
  refine V_iadd (q := 378) dL_law_377 rfl (by omega) (fun z377 ez377 => ?_)
  refine V_sld (q := 379) dL_law_378 rfl hb hLn (by omega) (fun z378 ez378 rz378 => ?_)
  rw [ez377] at ez378
  refine V_aloadR (q := 380) dL_law_379 rfl rfl rfl ?_
  refine V_iload_n (q := 381) dL_law_380 rfl rfl rfl ?_
  refine V_iconst (q := 382) dL_law_381 rfl (by decide) ?_
  refine V_iadd (q := 383) dL_law_382 rfl (by omega) (fun z382 ez382 => ?_)
  refine V_sld (q := 384) dL_law_383 rfl hb hLn (by omega) (fun z383 ez383 rz383 => ?_)
  rw [ez382] at ez383
  refine V_aloadR (q := 385) dL_law_384 rfl rfl rfl ?_
  refine V_iload_n (q := 386) dL_law_385 rfl rfl rfl ?_
  refine V_iconst (q := 387) dL_law_386 rfl (by decide) ?_
  refine V_iadd (q := 388) dL_law_387 rfl (by omega) (fun z387 ez387 => ?_)
  refine V_sld (q := 389) dL_law_388 rfl hb hLn (by omega) (fun z388 ez388 rz388 => ?_)
  rw [ez387] at ez388
  refine V_aloadR (q := 390) dL_law_389 rfl rfl rfl ?_
  refine V_iload_n (q := 391) dL_law_390 rfl rfl rfl ?_
  refine V_bipush (q := 393) dL_law_391 rfl (by decide) ?_
  refine V_iadd (q := 394) dL_law_393 rfl (by omega) (fun z393 ez393 => ?_)
  refine V_sld (q := 395) dL_law_394 rfl hb hLn (by omega) (fun z394 ez394 rz394 => ?_)
  rw [ez393] at ez394
  refine V_rdV (q := 398) (As := [(0, z368), (0, z373), (0, z378), (0, z383), (0, z388), (0, z394)]) (fX6_act N) dL_law_395 rfl mlL_37 mw_X6_act im_X6_act sl_X6_act md_X6_act rfl (by decide) (by decide) (congrArg Prod.fst N.1.1.1.1) rfl rfl (by decide) (by decide) (Nat.le_of_ble_eq_true rfl) (Nat.le_of_ble_eq_true rfl) (Nat.le_of_ble_eq_true rfl) (fun zc rzc hzc => ?_)
  refine V_aload_n (q := 399) dL_law_398 rfl rfl rfl ?_
  refine V_aloadR (q := 400) dL_law_399 rfl rfl rfl ?_
  refine V_iload_n (q := 401) dL_law_400 rfl rfl rfl ?_
  refine V_iconst (q := 402) dL_law_401 rfl (by decide) ?_
  refine V_iadd (q := 403) dL_law_402 rfl (by omega) (fun z402 ez402 => ?_)
  refine V_sld (q := 404) dL_law_403 rfl hb hLn (by omega) (fun z403 ez403 rz403 => ?_)
  rw [ez402] at ez403
  refine V_aloadR (q := 405) dL_law_404 rfl rfl rfl ?_
  refine V_iload_n (q := 406) dL_law_405 rfl rfl rfl ?_
  refine V_iconst (q := 407) dL_law_406 rfl (by decide) ?_
  refine V_iadd (q := 408) dL_law_407 rfl (by omega) (fun z407 ez407 => ?_)
  refine V_sld (q := 409) dL_law_408 rfl hb hLn (by omega) (fun z408 ez408 rz408 => ?_)
  rw [ez407] at ez408
  refine V_aloadR (q := 410) dL_law_409 rfl rfl rfl ?_
  refine V_iload_n (q := 411) dL_law_410 rfl rfl rfl ?_
  refine V_iconst (q := 412) dL_law_411 rfl (by decide) ?_
  refine V_iadd (q := 413) dL_law_412 rfl (by omega) (fun z412 ez412 => ?_)
  refine V_sld (q := 414) dL_law_413 rfl hb hLn (by omega) (fun z413 ez413 rz413 => ?_)
  rw [ez412] at ez413
  refine V_aloadR (q := 415) dL_law_414 rfl rfl rfl ?_
  refine V_iload_n (q := 416) dL_law_415 rfl rfl rfl ?_
  refine V_iconst (q := 417) dL_law_416 rfl (by decide) ?_
  refine V_iadd (q := 418) dL_law_417 rfl (by omega) (fun z417 ez417 => ?_)
  refine V_sld (q := 419) dL_law_418 rfl hb hLn (by omega) (fun z418 ez418 rz418 => ?_)
  rw [ez417] at ez418
  refine V_aloadR (q := 420) dL_law_419 rfl rfl rfl ?_
  refine V_iload_n (q := 421) dL_law_420 rfl rfl rfl ?_
  refine V_iconst (q := 422) dL_law_421 rfl (by decide) ?_
  refine V_iadd (q := 423) dL_law_422 rfl (by omega) (fun z422 ez422 => ?_)
  refine V_sld (q := 424) dL_law_423 rfl hb hLn (by omega) (fun z423 ez423 rz423 => ?_)
  rw [ez422] at ez423
  refine V_aloadR (q := 425) dL_law_424 rfl rfl rfl ?_
  refine V_iload_n (q := 426) dL_law_425 rfl rfl rfl ?_
  refine V_bipush (q := 428) dL_law_426 rfl (by decide) ?_
  refine V_iadd (q := 429) dL_law_428 rfl (by omega) (fun z428 ez428 => ?_)
  refine V_sld (q := 430) dL_law_429 rfl hb hLn (by omega) (fun z429 ez429 rz429 => ?_)
  rw [ez428] at ez429
  refine VL_callI (q := 433) (As := [(0, z403), (0, z408), (0, z413), (0, z418), (0, z423), (0, z429)]) (tX7_act WFD_0) dL_law_430 rfl mlL_41 mw_X7_act im_X7_act sl_X7_act md_X7_act rfl rfl rfl (by decide) (by decide) (Nat.le_of_ble_eq_true rfl) (Nat.le_of_ble_eq_true rfl) (Nat.le_of_ble_eq_true rfl) (fun zm M1 rzm hzm => ?_)
  have ezm := hzm.2
  unfold actR at ezm
  rw [m00, m17] at ezm
  refine V_icmp_eq (q := 436) (tgt := 1045) dL_law_433 (by decide) rfl (fun c433 => ?_) (fun c433 => ?_)
  · exact p1_tail hb hLn hL (Nat.le_of_ble_eq_true rfl) (Nat.le_of_ble_eq_true rfl)
  · exact absurd (by first | omega | (revert ezm; (repeat' split) <;> intro ezm <;> omega)) c433
set_option maxHeartbeats 4000000 in
set_option maxRecDepth 20000 in
theorem p1_told {Γ : GC} {ad0 : Ad} {b L : Nat} {xs : Nat → Int32} (hb : b < g_b Γ) (hLn : L < 2147483648) (hL : L ≤ 7) (hL7 : L = 7) {αC : Sh} {C : Mem} (N : FrN (gα αC) (mm (M0w 12) C)) : V Γ (fun _ => (0, 0)) ad0 (ZX (g_b Γ) b L xs) room_1 RL code 4 (some .boolean) "law" 438 [] [(5, (b : Int)), (3, 100), (3, 0), (0, 0)] (gα αC) (mm (M0w 12) C) 53 23953 := by
  refine V_aload_n (q := 439) dL_law_438 rfl rfl rfl ?_
  refine V_aloadR (q := 440) dL_law_439 rfl rfl rfl ?_
  refine V_iload_n (q := 441) dL_law_440 rfl rfl rfl ?_
  refine V_iconst (q := 442) dL_law_441 rfl (by decide) ?_
  refine V_iadd (q := 443) dL_law_442 rfl (by omega) (fun z442 ez442 => ?_)
  refine V_sld (q := 444) dL_law_443 rfl hb hLn (by omega) (fun z443 ez443 rz443 => ?_)
  rw [ez442] at ez443
  refine V_aloadR (q := 445) dL_law_444 rfl rfl rfl ?_
  refine V_iload_n (q := 446) dL_law_445 rfl rfl rfl ?_
  refine V_iconst (q := 447) dL_law_446 rfl (by decide) ?_
  refine V_iadd (q := 448) dL_law_447 rfl (by omega) (fun z447 ez447 => ?_)
  refine V_sld (q := 449) dL_law_448 rfl hb hLn (by omega) (fun z448 ez448 rz448 => ?_)
  rw [ez447] at ez448
  refine V_rdV (q := 452) (As := [(0, z443), (0, z448)]) (fX6_told N) dL_law_449 rfl mlL_42 mw_X6_told im_X6_told sl_X6_told md_X6_told rfl (by decide) (by decide) (congrArg Prod.fst N.1.1.1.1) rfl rfl (by decide) (by decide) (Nat.le_of_ble_eq_true rfl) (Nat.le_of_ble_eq_true rfl) (Nat.le_of_ble_eq_true rfl) (fun zc rzc hzc => ?_)
  refine V_aload_n (q := 453) dL_law_452 rfl rfl rfl ?_
  refine V_aloadR (q := 454) dL_law_453 rfl rfl rfl ?_
  refine V_iload_n (q := 455) dL_law_454 rfl rfl rfl ?_
  refine V_iconst (q := 456) dL_law_455 rfl (by decide) ?_
  refine V_iadd (q := 457) dL_law_456 rfl (by omega) (fun z456 ez456 => ?_)
  refine V_sld (q := 458) dL_law_457 rfl hb hLn (by omega) (fun z457 ez457 rz457 => ?_)
  rw [ez456] at ez457
  refine V_aloadR (q := 459) dL_law_458 rfl rfl rfl ?_
  refine V_iload_n (q := 460) dL_law_459 rfl rfl rfl ?_
  refine V_iconst (q := 461) dL_law_460 rfl (by decide) ?_
  refine V_iadd (q := 462) dL_law_461 rfl (by omega) (fun z461 ez461 => ?_)
  refine V_sld (q := 463) dL_law_462 rfl hb hLn (by omega) (fun z462 ez462 rz462 => ?_)
  rw [ez461] at ez462
  refine VL_callI (q := 466) (As := [(0, z457), (0, z462)]) (tX7_told WFD_0) dL_law_463 rfl mlL_45 mw_X7_told im_X7_told sl_X7_told md_X7_told rfl rfl rfl (by decide) (by decide) (Nat.le_of_ble_eq_true rfl) (Nat.le_of_ble_eq_true rfl) (Nat.le_of_ble_eq_true rfl) (fun zm M1 rzm hzm => ?_)
  have ezm := hzm.2
  unfold toldR at ezm
  rw [m00, m17] at ezm
  refine V_icmp_eq (q := 469) (tgt := 1045) dL_law_466 (by decide) rfl (fun c466 => ?_) (fun c466 => ?_)
  · exact p1_tail hb hLn hL (Nat.le_of_ble_eq_true rfl) (Nat.le_of_ble_eq_true rfl)
  · exact absurd (by first | omega | (revert ezm; (repeat' split) <;> intro ezm <;> omega)) c466
set_option maxHeartbeats 4000000 in
set_option maxRecDepth 20000 in
theorem p1_below {Γ : GC} {ad0 : Ad} {b L : Nat} {xs : Nat → Int32} (hb : b < g_b Γ) (hLn : L < 2147483648) (hL : L ≤ 7) (hL7 : L = 7) {αC : Sh} {C : Mem} (N : FrN (gα αC) (mm (M0w 12) C)) : V Γ (fun _ => (0, 0)) ad0 (ZX (g_b Γ) b L xs) room_1 RL code 4 (some .boolean) "law" 471 [] [(5, (b : Int)), (3, 100), (3, 0), (0, 0)] (gα αC) (mm (M0w 12) C) 53 23953 := by
  refine V_aload_n (q := 472) dL_law_471 rfl rfl rfl ?_
  refine V_aloadR (q := 473) dL_law_472 rfl rfl rfl ?_
  refine V_iload_n (q := 474) dL_law_473 rfl rfl rfl ?_
  refine V_iconst (q := 475) dL_law_474 rfl (by decide) ?_
  refine V_iadd (q := 476) dL_law_475 rfl (by omega) (fun z475 ez475 => ?_)
  refine V_sld (q := 477) dL_law_476 rfl hb hLn (by omega) (fun z476 ez476 rz476 => ?_)
  rw [ez475] at ez476
  refine V_aloadR (q := 478) dL_law_477 rfl rfl rfl ?_
  refine V_iload_n (q := 479) dL_law_478 rfl rfl rfl ?_
  refine V_iconst (q := 480) dL_law_479 rfl (by decide) ?_
  refine V_iadd (q := 481) dL_law_480 rfl (by omega) (fun z480 ez480 => ?_)
  refine V_sld (q := 482) dL_law_481 rfl hb hLn (by omega) (fun z481 ez481 rz481 => ?_)
  rw [ez480] at ez481
  refine V_rdV (q := 485) (As := [(0, z476), (0, z481)]) (fX6_below N) dL_law_482 rfl mlL_46 mw_X6_below im_X6_below sl_X6_below md_X6_below rfl (by decide) (by decide) (congrArg Prod.fst N.1.1.1.1) rfl rfl (by decide) (by decide) (Nat.le_of_ble_eq_true rfl) (Nat.le_of_ble_eq_true rfl) (Nat.le_of_ble_eq_true rfl) (fun zc rzc hzc => ?_)
  refine V_aload_n (q := 486) dL_law_485 rfl rfl rfl ?_
  refine V_aloadR (q := 487) dL_law_486 rfl rfl rfl ?_
  refine V_iload_n (q := 488) dL_law_487 rfl rfl rfl ?_
  refine V_iconst (q := 489) dL_law_488 rfl (by decide) ?_
  refine V_iadd (q := 490) dL_law_489 rfl (by omega) (fun z489 ez489 => ?_)
  refine V_sld (q := 491) dL_law_490 rfl hb hLn (by omega) (fun z490 ez490 rz490 => ?_)
  rw [ez489] at ez490
  refine V_aloadR (q := 492) dL_law_491 rfl rfl rfl ?_
  refine V_iload_n (q := 493) dL_law_492 rfl rfl rfl ?_
  refine V_iconst (q := 494) dL_law_493 rfl (by decide) ?_
  refine V_iadd (q := 495) dL_law_494 rfl (by omega) (fun z494 ez494 => ?_)
  refine V_sld (q := 496) dL_law_495 rfl hb hLn (by omega) (fun z495 ez495 rz495 => ?_)
  rw [ez494] at ez495
  refine VL_callI (q := 499) (As := [(0, z490), (0, z495)]) (tX7_below WFD_0) dL_law_496 rfl mlL_49 mw_X7_below im_X7_below sl_X7_below md_X7_below rfl rfl rfl (by decide) (by decide) (Nat.le_of_ble_eq_true rfl) (Nat.le_of_ble_eq_true rfl) (Nat.le_of_ble_eq_true rfl) (fun zm M1 rzm hzm => ?_)
  have ezm := hzm.2
  unfold belowR at ezm
  rw [m00] at ezm
  refine V_icmp_eq (q := 502) (tgt := 1045) dL_law_499 (by decide) rfl (fun c499 => ?_) (fun c499 => ?_)
  · exact p1_tail hb hLn hL (Nat.le_of_ble_eq_true rfl) (Nat.le_of_ble_eq_true rfl)
  · exact absurd (by first | omega | (revert ezm; (repeat' split) <;> intro ezm <;> omega)) c499
set_option maxHeartbeats 4000000 in
set_option maxRecDepth 20000 in
theorem p1_found {Γ : GC} {ad0 : Ad} {b L : Nat} {xs : Nat → Int32} (hb : b < g_b Γ) (hLn : L < 2147483648) (hL : L ≤ 7) (hL7 : L = 7) {αC : Sh} {C : Mem} (N : FrN (gα αC) (mm (M0w 12) C)) : V Γ (fun _ => (0, 0)) ad0 (ZX (g_b Γ) b L xs) room_1 RL code 4 (some .boolean) "law" 504 [] [(5, (b : Int)), (3, 100), (3, 0), (0, 0)] (gα αC) (mm (M0w 12) C) 53 23953 := by
  refine V_aload_n (q := 505) dL_law_504 rfl rfl rfl ?_
  refine V_aloadR (q := 506) dL_law_505 rfl rfl rfl ?_
  refine V_iload_n (q := 507) dL_law_506 rfl rfl rfl ?_
  refine V_iconst (q := 508) dL_law_507 rfl (by decide) ?_
  refine V_iadd (q := 509) dL_law_508 rfl (by omega) (fun z508 ez508 => ?_)
  refine V_sld (q := 510) dL_law_509 rfl hb hLn (by omega) (fun z509 ez509 rz509 => ?_)
  rw [ez508] at ez509
  refine V_aloadR (q := 511) dL_law_510 rfl rfl rfl ?_
  refine V_iload_n (q := 512) dL_law_511 rfl rfl rfl ?_
  refine V_iconst (q := 513) dL_law_512 rfl (by decide) ?_
  refine V_iadd (q := 514) dL_law_513 rfl (by omega) (fun z513 ez513 => ?_)
  refine V_sld (q := 515) dL_law_514 rfl hb hLn (by omega) (fun z514 ez514 rz514 => ?_)
  rw [ez513] at ez514
  refine V_aloadR (q := 516) dL_law_515 rfl rfl rfl ?_
  refine V_iload_n (q := 517) dL_law_516 rfl rfl rfl ?_
  refine V_iconst (q := 518) dL_law_517 rfl (by decide) ?_
  refine V_iadd (q := 519) dL_law_518 rfl (by omega) (fun z518 ez518 => ?_)
  refine V_sld (q := 520) dL_law_519 rfl hb hLn (by omega) (fun z519 ez519 rz519 => ?_)
  rw [ez518] at ez519
  refine V_if_eq (q := 523) (tgt := 527) dL_law_520 (by decide) rfl (fun c520 => ?_) (fun c520 => ?_)
  · refine V_iconst (q := 528) dL_law_527 rfl (by decide) ?_
    refine V_rdV (q := 531) (As := [(0, z509), (0, z514), (0, 0)]) (fX6_found N) dL_law_528 rfl mlL_50 mw_X6_found im_X6_found sl_X6_found md_X6_found rfl (by decide) (by decide) (congrArg Prod.fst N.1.1.1.1) rfl rfl (by decide) (by decide) (Nat.le_of_ble_eq_true rfl) (Nat.le_of_ble_eq_true rfl) (Nat.le_of_ble_eq_true rfl) (fun zc rzc hzc => ?_)
    refine V_aload_n (q := 532) dL_law_531 rfl rfl rfl ?_
    refine V_aloadR (q := 533) dL_law_532 rfl rfl rfl ?_
    refine V_iload_n (q := 534) dL_law_533 rfl rfl rfl ?_
    refine V_iconst (q := 535) dL_law_534 rfl (by decide) ?_
    refine V_iadd (q := 536) dL_law_535 rfl (by omega) (fun z535 ez535 => ?_)
    refine V_sld (q := 537) dL_law_536 rfl hb hLn (by omega) (fun z536 ez536 rz536 => ?_)
    rw [ez535] at ez536
    refine V_aloadR (q := 538) dL_law_537 rfl rfl rfl ?_
    refine V_iload_n (q := 539) dL_law_538 rfl rfl rfl ?_
    refine V_iconst (q := 540) dL_law_539 rfl (by decide) ?_
    refine V_iadd (q := 541) dL_law_540 rfl (by omega) (fun z540 ez540 => ?_)
    refine V_sld (q := 542) dL_law_541 rfl hb hLn (by omega) (fun z541 ez541 rz541 => ?_)
    rw [ez540] at ez541
    refine V_aloadR (q := 543) dL_law_542 rfl rfl rfl ?_
    refine V_iload_n (q := 544) dL_law_543 rfl rfl rfl ?_
    refine V_iconst (q := 545) dL_law_544 rfl (by decide) ?_
    refine V_iadd (q := 546) dL_law_545 rfl (by omega) (fun z545 ez545 => ?_)
    refine V_sld (q := 547) dL_law_546 rfl hb hLn (by omega) (fun z546 ez546 rz546 => ?_)
    rw [ez545] at ez546
    refine V_if_eq (q := 550) (tgt := 554) dL_law_547 (by decide) rfl (fun c547 => ?_) (fun c547 => ?_)
    · refine V_iconst (q := 555) dL_law_554 rfl (by decide) ?_
      refine VL_callI (q := 558) (As := [(0, z536), (0, z541), (0, 0)]) (tX7_found WFD_0) dL_law_555 rfl mlL_54 mw_X7_found im_X7_found sl_X7_found md_X7_found rfl rfl rfl (by decide) (by decide) (Nat.le_of_ble_eq_true rfl) (Nat.le_of_ble_eq_true rfl) (Nat.le_of_ble_eq_true rfl) (fun zm M1 rzm hzm => ?_)
      have ezm := hzm.2
      unfold foundR at ezm
      rw [m00] at ezm
      refine V_icmp_eq (q := 561) (tgt := 1045) dL_law_558 (by decide) rfl (fun c558 => ?_) (fun c558 => ?_)
      · exact p1_tail hb hLn hL (Nat.le_of_ble_eq_true rfl) (Nat.le_of_ble_eq_true rfl)
      · exact absurd (by first | omega | (revert ezm; (repeat' split) <;> intro ezm <;> omega)) c558
    · refine V_iconst (q := 551) dL_law_550 rfl (by decide) ?_
      refine V_goto (tgt := 555) dL_law_551 (by decide) ?_
      refine VL_callI (q := 558) (As := [(0, z536), (0, z541), (0, 1)]) (tX7_found WFD_0) dL_law_555 rfl mlL_54 mw_X7_found im_X7_found sl_X7_found md_X7_found rfl rfl rfl (by decide) (by decide) (Nat.le_of_ble_eq_true rfl) (Nat.le_of_ble_eq_true rfl) (Nat.le_of_ble_eq_true rfl) (fun zm_2 M1 rzm_2 hzm_2 => ?_)
      have ezm_2 := hzm_2.2
      unfold foundR at ezm_2
      rw [m00] at ezm_2
      refine V_icmp_eq (q := 561) (tgt := 1045) dL_law_558 (by decide) rfl (fun c558_2 => ?_) (fun c558_2 => ?_)
      · exact p1_tail hb hLn hL (Nat.le_of_ble_eq_true rfl) (Nat.le_of_ble_eq_true rfl)
      · exact absurd (by first | omega | (revert ezm_2; (repeat' split) <;> intro ezm_2 <;> omega)) c558_2
  · refine V_iconst (q := 524) dL_law_523 rfl (by decide) ?_
    refine V_goto (tgt := 528) dL_law_524 (by decide) ?_
    refine V_rdV (q := 531) (As := [(0, z509), (0, z514), (0, 1)]) (fX6_found N) dL_law_528 rfl mlL_50 mw_X6_found im_X6_found sl_X6_found md_X6_found rfl (by decide) (by decide) (congrArg Prod.fst N.1.1.1.1) rfl rfl (by decide) (by decide) (Nat.le_of_ble_eq_true rfl) (Nat.le_of_ble_eq_true rfl) (Nat.le_of_ble_eq_true rfl) (fun zc_2 rzc_2 hzc_2 => ?_)
    refine V_aload_n (q := 532) dL_law_531 rfl rfl rfl ?_
    refine V_aloadR (q := 533) dL_law_532 rfl rfl rfl ?_
    refine V_iload_n (q := 534) dL_law_533 rfl rfl rfl ?_
    refine V_iconst (q := 535) dL_law_534 rfl (by decide) ?_
    refine V_iadd (q := 536) dL_law_535 rfl (by omega) (fun z535_2 ez535_2 => ?_)
    refine V_sld (q := 537) dL_law_536 rfl hb hLn (by omega) (fun z536_2 ez536_2 rz536_2 => ?_)
    rw [ez535_2] at ez536_2
    refine V_aloadR (q := 538) dL_law_537 rfl rfl rfl ?_
    refine V_iload_n (q := 539) dL_law_538 rfl rfl rfl ?_
    refine V_iconst (q := 540) dL_law_539 rfl (by decide) ?_
    refine V_iadd (q := 541) dL_law_540 rfl (by omega) (fun z540_2 ez540_2 => ?_)
    refine V_sld (q := 542) dL_law_541 rfl hb hLn (by omega) (fun z541_2 ez541_2 rz541_2 => ?_)
    rw [ez540_2] at ez541_2
    refine V_aloadR (q := 543) dL_law_542 rfl rfl rfl ?_
    refine V_iload_n (q := 544) dL_law_543 rfl rfl rfl ?_
    refine V_iconst (q := 545) dL_law_544 rfl (by decide) ?_
    refine V_iadd (q := 546) dL_law_545 rfl (by omega) (fun z545_2 ez545_2 => ?_)
    refine V_sld (q := 547) dL_law_546 rfl hb hLn (by omega) (fun z546_2 ez546_2 rz546_2 => ?_)
    rw [ez545_2] at ez546_2
    refine V_if_eq (q := 550) (tgt := 554) dL_law_547 (by decide) rfl (fun c547_2 => ?_) (fun c547_2 => ?_)
    · refine V_iconst (q := 555) dL_law_554 rfl (by decide) ?_
      refine VL_callI (q := 558) (As := [(0, z536_2), (0, z541_2), (0, 0)]) (tX7_found WFD_0) dL_law_555 rfl mlL_54 mw_X7_found im_X7_found sl_X7_found md_X7_found rfl rfl rfl (by decide) (by decide) (Nat.le_of_ble_eq_true rfl) (Nat.le_of_ble_eq_true rfl) (Nat.le_of_ble_eq_true rfl) (fun zm_3 M1 rzm_3 hzm_3 => ?_)
      have ezm_3 := hzm_3.2
      unfold foundR at ezm_3
      rw [m00] at ezm_3
      refine V_icmp_eq (q := 561) (tgt := 1045) dL_law_558 (by decide) rfl (fun c558_3 => ?_) (fun c558_3 => ?_)
      · exact p1_tail hb hLn hL (Nat.le_of_ble_eq_true rfl) (Nat.le_of_ble_eq_true rfl)
      · exact absurd (by first | omega | (revert ezm_3; (repeat' split) <;> intro ezm_3 <;> omega)) c558_3
    · refine V_iconst (q := 551) dL_law_550 rfl (by decide) ?_
      refine V_goto (tgt := 555) dL_law_551 (by decide) ?_
      refine VL_callI (q := 558) (As := [(0, z536_2), (0, z541_2), (0, 1)]) (tX7_found WFD_0) dL_law_555 rfl mlL_54 mw_X7_found im_X7_found sl_X7_found md_X7_found rfl rfl rfl (by decide) (by decide) (Nat.le_of_ble_eq_true rfl) (Nat.le_of_ble_eq_true rfl) (Nat.le_of_ble_eq_true rfl) (fun zm_4 M1 rzm_4 hzm_4 => ?_)
      have ezm_4 := hzm_4.2
      unfold foundR at ezm_4
      rw [m00] at ezm_4
      refine V_icmp_eq (q := 561) (tgt := 1045) dL_law_558 (by decide) rfl (fun c558_4 => ?_) (fun c558_4 => ?_)
      · exact p1_tail hb hLn hL (Nat.le_of_ble_eq_true rfl) (Nat.le_of_ble_eq_true rfl)
      · exact absurd (by first | omega | (revert ezm_4; (repeat' split) <;> intro ezm_4 <;> omega)) c558_4
set_option maxHeartbeats 4000000 in
set_option maxRecDepth 20000 in
theorem p1_asks {Γ : GC} {ad0 : Ad} {b L : Nat} {xs : Nat → Int32} (hb : b < g_b Γ) (hLn : L < 2147483648) (hL : L ≤ 7) (hL7 : L = 7) {αC : Sh} {C : Mem} (N : FrN (gα αC) (mm (M0w 12) C)) : V Γ (fun _ => (0, 0)) ad0 (ZX (g_b Γ) b L xs) room_1 RL code 4 (some .boolean) "law" 563 [] [(5, (b : Int)), (3, 100), (3, 0), (0, 0)] (gα αC) (mm (M0w 12) C) 53 23953 := by
  refine V_aload_n (q := 564) dL_law_563 rfl rfl rfl ?_
  refine V_aloadR (q := 565) dL_law_564 rfl rfl rfl ?_
  refine V_iload_n (q := 566) dL_law_565 rfl rfl rfl ?_
  refine V_iconst (q := 567) dL_law_566 rfl (by decide) ?_
  refine V_iadd (q := 568) dL_law_567 rfl (by omega) (fun z567 ez567 => ?_)
  refine V_sld (q := 569) dL_law_568 rfl hb hLn (by omega) (fun z568 ez568 rz568 => ?_)
  rw [ez567] at ez568
  refine V_aloadR (q := 570) dL_law_569 rfl rfl rfl ?_
  refine V_iload_n (q := 571) dL_law_570 rfl rfl rfl ?_
  refine V_iconst (q := 572) dL_law_571 rfl (by decide) ?_
  refine V_iadd (q := 573) dL_law_572 rfl (by omega) (fun z572 ez572 => ?_)
  refine V_sld (q := 574) dL_law_573 rfl hb hLn (by omega) (fun z573 ez573 rz573 => ?_)
  rw [ez572] at ez573
  refine V_rdV (q := 577) (As := [(0, z568), (0, z573)]) (fX6_asks N) dL_law_574 rfl mlL_55 mw_X6_asks im_X6_asks sl_X6_asks md_X6_asks rfl (by decide) (by decide) (congrArg Prod.fst N.1.1.1.1) rfl rfl (by decide) (by decide) (Nat.le_of_ble_eq_true rfl) (Nat.le_of_ble_eq_true rfl) (Nat.le_of_ble_eq_true rfl) (fun zc rzc hzc => ?_)
  refine V_aload_n (q := 578) dL_law_577 rfl rfl rfl ?_
  refine V_aloadR (q := 579) dL_law_578 rfl rfl rfl ?_
  refine V_iload_n (q := 580) dL_law_579 rfl rfl rfl ?_
  refine V_iconst (q := 581) dL_law_580 rfl (by decide) ?_
  refine V_iadd (q := 582) dL_law_581 rfl (by omega) (fun z581 ez581 => ?_)
  refine V_sld (q := 583) dL_law_582 rfl hb hLn (by omega) (fun z582 ez582 rz582 => ?_)
  rw [ez581] at ez582
  refine V_aloadR (q := 584) dL_law_583 rfl rfl rfl ?_
  refine V_iload_n (q := 585) dL_law_584 rfl rfl rfl ?_
  refine V_iconst (q := 586) dL_law_585 rfl (by decide) ?_
  refine V_iadd (q := 587) dL_law_586 rfl (by omega) (fun z586 ez586 => ?_)
  refine V_sld (q := 588) dL_law_587 rfl hb hLn (by omega) (fun z587 ez587 rz587 => ?_)
  rw [ez586] at ez587
  refine VL_callI (q := 591) (As := [(0, z582), (0, z587)]) (tX7_asks WFD_0) dL_law_588 rfl mlL_58 mw_X7_asks im_X7_asks sl_X7_asks md_X7_asks rfl rfl rfl (by decide) (by decide) (Nat.le_of_ble_eq_true rfl) (Nat.le_of_ble_eq_true rfl) (Nat.le_of_ble_eq_true rfl) (fun zm M1 rzm hzm => ?_)
  have ezm := hzm.2
  unfold asksS at ezm
  rw [m00] at ezm
  refine V_icmp_eq (q := 594) (tgt := 1045) dL_law_591 (by decide) rfl (fun c591 => ?_) (fun c591 => ?_)
  · exact p1_tail hb hLn hL (Nat.le_of_ble_eq_true rfl) (Nat.le_of_ble_eq_true rfl)
  · exact absurd (by first | omega | (revert ezm; (repeat' split) <;> intro ezm <;> omega)) c591
set_option maxHeartbeats 4000000 in
set_option maxRecDepth 20000 in
theorem p1_round {Γ : GC} {ad0 : Ad} {b L : Nat} {xs : Nat → Int32} (hb : b < g_b Γ) (hLn : L < 2147483648) (hL : L ≤ 7) (hL7 : L = 7) {αC : Sh} {C : Mem} (N : FrN (gα αC) (mm (M0w 12) C)) : V Γ (fun _ => (0, 0)) ad0 (ZX (g_b Γ) b L xs) room_1 RL code 4 (some .boolean) "law" 596 [] [(5, (b : Int)), (3, 100), (3, 0), (0, 0)] (gα αC) (mm (M0w 12) C) 53 23953 := by
  refine V_aload_n (q := 597) dL_law_596 rfl rfl rfl ?_
  refine V_aloadR (q := 598) dL_law_597 rfl rfl rfl ?_
  refine V_iload_n (q := 599) dL_law_598 rfl rfl rfl ?_
  refine V_iconst (q := 600) dL_law_599 rfl (by decide) ?_
  refine V_iadd (q := 601) dL_law_600 rfl (by omega) (fun z600 ez600 => ?_)
  refine V_sld (q := 602) dL_law_601 rfl hb hLn (by omega) (fun z601 ez601 rz601 => ?_)
  rw [ez600] at ez601
  refine V_rdV (q := 605) (As := [(0, z601)]) (fX6_round N) dL_law_602 rfl mlL_59 mw_X6_round im_X6_round sl_X6_round md_X6_round rfl (by decide) (by decide) (congrArg Prod.fst N.1.1.1.1) rfl rfl (by decide) (by decide) (Nat.le_of_ble_eq_true rfl) (Nat.le_of_ble_eq_true rfl) (Nat.le_of_ble_eq_true rfl) (fun zc rzc hzc => ?_)
  refine V_aload_n (q := 606) dL_law_605 rfl rfl rfl ?_
  refine V_aloadR (q := 607) dL_law_606 rfl rfl rfl ?_
  refine V_iload_n (q := 608) dL_law_607 rfl rfl rfl ?_
  refine V_iconst (q := 609) dL_law_608 rfl (by decide) ?_
  refine V_iadd (q := 610) dL_law_609 rfl (by omega) (fun z609 ez609 => ?_)
  refine V_sld (q := 611) dL_law_610 rfl hb hLn (by omega) (fun z610 ez610 rz610 => ?_)
  rw [ez609] at ez610
  refine VL_callI (q := 614) (As := [(0, z610)]) (tX7_round WFD_0) dL_law_611 rfl mlL_63 mw_X7_round im_X7_round sl_X7_round md_X7_round rfl rfl rfl (by decide) (by decide) (Nat.le_of_ble_eq_true rfl) (Nat.le_of_ble_eq_true rfl) (Nat.le_of_ble_eq_true rfl) (fun zm M1 rzm hzm => ?_)
  have ezm : zm = -6 := hzm.2.trans (by { unfold roundS; rw [m00]; rfl })
  refine V_icmp_eq (q := 617) (tgt := 1045) dL_law_614 (by decide) rfl (fun c614 => ?_) (fun c614 => ?_)
  · exact p1_tail hb hLn hL (Nat.le_of_ble_eq_true rfl) (Nat.le_of_ble_eq_true rfl)
  · exact absurd (by first | omega | (revert ezm; (repeat' split) <;> intro ezm <;> omega)) c614
set_option maxHeartbeats 4000000 in
set_option maxRecDepth 20000 in
theorem p1_world {Γ : GC} {ad0 : Ad} {b L : Nat} {xs : Nat → Int32} (hb : b < g_b Γ) (hLn : L < 2147483648) (hL : L ≤ 7) (hL7 : L = 7) {αC : Sh} {C : Mem} (N : FrN (gα αC) (mm (M0w 12) C)) : V Γ (fun _ => (0, 0)) ad0 (ZX (g_b Γ) b L xs) room_1 RL code 4 (some .boolean) "law" 619 [] [(5, (b : Int)), (3, 100), (3, 0), (0, 0)] (gα αC) (mm (M0w 12) C) 53 23953 := by
  refine V_aload_n (q := 620) dL_law_619 rfl rfl rfl ?_
  refine V_rdV (q := 623) (As := []) (fX6_world N) dL_law_620 rfl mlL_64 mw_X6_world im_X6_world sl_X6_world md_X6_world rfl (by decide) (by decide) (congrArg Prod.fst N.1.1.1.1) rfl rfl (by decide) (by decide) (Nat.le_of_ble_eq_true rfl) (Nat.le_of_ble_eq_true rfl) (Nat.le_of_ble_eq_true rfl) (fun zc rzc hzc => ?_)
  refine V_aload_n (q := 624) dL_law_623 rfl rfl rfl ?_
  refine VL_callI (q := 627) (As := []) (tX7_world WFD_0) dL_law_624 rfl mlL_68 mw_X7_world im_X7_world sl_X7_world md_X7_world rfl rfl rfl (by decide) (by decide) (Nat.le_of_ble_eq_true rfl) (Nat.le_of_ble_eq_true rfl) (Nat.le_of_ble_eq_true rfl) (fun zm M1 rzm hzm => ?_)
  have ezm : zm = -5 := hzm.2
  refine V_icmp_eq (q := 630) (tgt := 1045) dL_law_627 (by decide) rfl (fun c627 => ?_) (fun c627 => ?_)
  · exact p1_tail hb hLn hL (Nat.le_of_ble_eq_true rfl) (Nat.le_of_ble_eq_true rfl)
  · exact absurd (by first | omega | (revert ezm; (repeat' split) <;> intro ezm <;> omega)) c627
set_option maxHeartbeats 4000000 in
set_option maxRecDepth 20000 in
theorem p1_gone {Γ : GC} {ad0 : Ad} {b L : Nat} {xs : Nat → Int32} (hb : b < g_b Γ) (hLn : L < 2147483648) (hL : L ≤ 7) (hL7 : L = 7) {αC : Sh} {C : Mem} (N : FrN (gα αC) (mm (M0w 12) C)) : V Γ (fun _ => (0, 0)) ad0 (ZX (g_b Γ) b L xs) room_1 RL code 4 (some .boolean) "law" 632 [] [(5, (b : Int)), (3, 100), (3, 0), (0, 0)] (gα αC) (mm (M0w 12) C) 53 23953 := by
  refine V_aload_n (q := 633) dL_law_632 rfl rfl rfl ?_
  refine V_chVi (q := 636) (As := []) (fX6_gone N) dL_law_633 rfl mlL_69 mw_X6_gone im_X6_gone sl_X6_gone md_X6_gone rfl (by decide) (by decide) (congrArg Prod.fst N.1.1.1.1) rfl rfl (by decide) (by decide) (Nat.le_of_ble_eq_true rfl) (Nat.le_of_ble_eq_true rfl) (Nat.le_of_ble_eq_true rfl) (fun zc rzc A B x h => ?_)
  obtain ⟨lo, hzc⟩ := h
  obtain ⟨αD, D, rfl, rfl⟩ := lo_g lo
  refine V_aload_n (q := 637) dL_law_636 rfl rfl rfl ?_
  refine VL_callI (q := 640) (As := []) (tX7_gone ) dL_law_637 rfl mlL_72 mw_X7_gone im_X7_gone sl_X7_gone md_X7_gone rfl rfl rfl (by decide) (by decide) (Nat.le_of_ble_eq_true rfl) (Nat.le_of_ble_eq_true rfl) (Nat.le_of_ble_eq_true rfl) (fun zm M1 rzm hzm => ?_)
  have ezm : zm = 0 := hzm.2
  refine V_icmp_eq (q := 643) (tgt := 1045) dL_law_640 (by decide) rfl (fun c640 => ?_) (fun c640 => ?_)
  · exact p1_tail hb hLn hL (Nat.le_of_ble_eq_true rfl) (Nat.le_of_ble_eq_true rfl)
  · exact absurd (by first | omega | (revert ezm; (repeat' split) <;> intro ezm <;> omega)) c640
set_option maxHeartbeats 4000000 in
set_option maxRecDepth 20000 in
theorem p1_touch {Γ : GC} {ad0 : Ad} {b L : Nat} {xs : Nat → Int32} (hb : b < g_b Γ) (hLn : L < 2147483648) (hL : L ≤ 7) (hL7 : L = 7) {αC : Sh} {C : Mem} (N : FrN (gα αC) (mm (M0w 12) C)) : V Γ (fun _ => (0, 0)) ad0 (ZX (g_b Γ) b L xs) room_1 RL code 4 (some .boolean) "law" 645 [] [(5, (b : Int)), (3, 100), (3, 0), (0, 0)] (gα αC) (mm (M0w 12) C) 53 23953 := by
  refine V_aload_n (q := 646) dL_law_645 rfl rfl rfl ?_
  refine V_aloadR (q := 647) dL_law_646 rfl rfl rfl ?_
  refine V_iload_n (q := 648) dL_law_647 rfl rfl rfl ?_
  refine V_iconst (q := 649) dL_law_648 rfl (by decide) ?_
  refine V_iadd (q := 650) dL_law_649 rfl (by omega) (fun z649 ez649 => ?_)
  refine V_sld (q := 651) dL_law_650 rfl hb hLn (by omega) (fun z650 ez650 rz650 => ?_)
  rw [ez649] at ez650
  refine V_aloadR (q := 652) dL_law_651 rfl rfl rfl ?_
  refine V_iload_n (q := 653) dL_law_652 rfl rfl rfl ?_
  refine V_iconst (q := 654) dL_law_653 rfl (by decide) ?_
  refine V_iadd (q := 655) dL_law_654 rfl (by omega) (fun z654 ez654 => ?_)
  refine V_sld (q := 656) dL_law_655 rfl hb hLn (by omega) (fun z655 ez655 rz655 => ?_)
  rw [ez654] at ez655
  refine V_aloadR (q := 657) dL_law_656 rfl rfl rfl ?_
  refine V_iload_n (q := 658) dL_law_657 rfl rfl rfl ?_
  refine V_iconst (q := 659) dL_law_658 rfl (by decide) ?_
  refine V_iadd (q := 660) dL_law_659 rfl (by omega) (fun z659 ez659 => ?_)
  refine V_sld (q := 661) dL_law_660 rfl hb hLn (by omega) (fun z660 ez660 rz660 => ?_)
  rw [ez659] at ez660
  refine V_aloadR (q := 662) dL_law_661 rfl rfl rfl ?_
  refine V_iload_n (q := 663) dL_law_662 rfl rfl rfl ?_
  refine V_iconst (q := 664) dL_law_663 rfl (by decide) ?_
  refine V_iadd (q := 665) dL_law_664 rfl (by omega) (fun z664 ez664 => ?_)
  refine V_sld (q := 666) dL_law_665 rfl hb hLn (by omega) (fun z665 ez665 rz665 => ?_)
  rw [ez664] at ez665
  refine V_aloadR (q := 667) dL_law_666 rfl rfl rfl ?_
  refine V_iload_n (q := 668) dL_law_667 rfl rfl rfl ?_
  refine V_iconst (q := 669) dL_law_668 rfl (by decide) ?_
  refine V_iadd (q := 670) dL_law_669 rfl (by omega) (fun z669 ez669 => ?_)
  refine V_sld (q := 671) dL_law_670 rfl hb hLn (by omega) (fun z670 ez670 rz670 => ?_)
  rw [ez669] at ez670
  refine V_rdV (q := 674) (As := [(0, z650), (0, z655), (0, z660), (0, z665), (0, z670)]) (fX6_touch N) dL_law_671 rfl mlL_73 mw_X6_touch im_X6_touch sl_X6_touch md_X6_touch rfl (by decide) (by decide) (congrArg Prod.fst N.1.1.1.1) rfl rfl (by decide) (by decide) (Nat.le_of_ble_eq_true rfl) (Nat.le_of_ble_eq_true rfl) (Nat.le_of_ble_eq_true rfl) (fun zc rzc hzc => ?_)
  refine V_aload_n (q := 675) dL_law_674 rfl rfl rfl ?_
  refine V_aloadR (q := 676) dL_law_675 rfl rfl rfl ?_
  refine V_iload_n (q := 677) dL_law_676 rfl rfl rfl ?_
  refine V_iconst (q := 678) dL_law_677 rfl (by decide) ?_
  refine V_iadd (q := 679) dL_law_678 rfl (by omega) (fun z678 ez678 => ?_)
  refine V_sld (q := 680) dL_law_679 rfl hb hLn (by omega) (fun z679 ez679 rz679 => ?_)
  rw [ez678] at ez679
  refine V_aloadR (q := 681) dL_law_680 rfl rfl rfl ?_
  refine V_iload_n (q := 682) dL_law_681 rfl rfl rfl ?_
  refine V_iconst (q := 683) dL_law_682 rfl (by decide) ?_
  refine V_iadd (q := 684) dL_law_683 rfl (by omega) (fun z683 ez683 => ?_)
  refine V_sld (q := 685) dL_law_684 rfl hb hLn (by omega) (fun z684 ez684 rz684 => ?_)
  rw [ez683] at ez684
  refine V_aloadR (q := 686) dL_law_685 rfl rfl rfl ?_
  refine V_iload_n (q := 687) dL_law_686 rfl rfl rfl ?_
  refine V_iconst (q := 688) dL_law_687 rfl (by decide) ?_
  refine V_iadd (q := 689) dL_law_688 rfl (by omega) (fun z688 ez688 => ?_)
  refine V_sld (q := 690) dL_law_689 rfl hb hLn (by omega) (fun z689 ez689 rz689 => ?_)
  rw [ez688] at ez689
  refine V_aloadR (q := 691) dL_law_690 rfl rfl rfl ?_
  refine V_iload_n (q := 692) dL_law_691 rfl rfl rfl ?_
  refine V_iconst (q := 693) dL_law_692 rfl (by decide) ?_
  refine V_iadd (q := 694) dL_law_693 rfl (by omega) (fun z693 ez693 => ?_)
  refine V_sld (q := 695) dL_law_694 rfl hb hLn (by omega) (fun z694 ez694 rz694 => ?_)
  rw [ez693] at ez694
  refine V_aloadR (q := 696) dL_law_695 rfl rfl rfl ?_
  refine V_iload_n (q := 697) dL_law_696 rfl rfl rfl ?_
  refine V_iconst (q := 698) dL_law_697 rfl (by decide) ?_
  refine V_iadd (q := 699) dL_law_698 rfl (by omega) (fun z698 ez698 => ?_)
  refine V_sld (q := 700) dL_law_699 rfl hb hLn (by omega) (fun z699 ez699 rz699 => ?_)
  rw [ez698] at ez699
  refine VL_callI (q := 703) (As := [(0, z679), (0, z684), (0, z689), (0, z694), (0, z699)]) (fX7_touch WFD_0 m17) dL_law_700 rfl mlL_77 mw_X7_touch im_X7_touch sl_X7_touch md_X7_touch rfl rfl rfl (by decide) (by decide) (Nat.le_of_ble_eq_true rfl) (Nat.le_of_ble_eq_true rfl) (Nat.le_of_ble_eq_true rfl) (fun zm M1 rzm hzm => ?_)
  have ezm : zm = -1 := hzm.2
  refine V_icmp_eq (q := 706) (tgt := 1045) dL_law_703 (by decide) rfl (fun c703 => ?_) (fun c703 => ?_)
  · exact p1_tail hb hLn hL (Nat.le_of_ble_eq_true rfl) (Nat.le_of_ble_eq_true rfl)
  · exact absurd (by first | omega | (revert ezm; (repeat' split) <;> intro ezm <;> omega)) c703
set_option maxHeartbeats 4000000 in
set_option maxRecDepth 20000 in
theorem p1_foretell {Γ : GC} {ad0 : Ad} {b L : Nat} {xs : Nat → Int32} (hb : b < g_b Γ) (hLn : L < 2147483648) (hL : L ≤ 7) (hL7 : L = 7) {αC : Sh} {C : Mem} (N : FrN (gα αC) (mm (M0w 12) C)) : V Γ (fun _ => (0, 0)) ad0 (ZX (g_b Γ) b L xs) room_1 RL code 4 (some .boolean) "law" 708 [] [(5, (b : Int)), (3, 100), (3, 0), (0, 0)] (gα αC) (mm (M0w 12) C) 53 23953 := by
  refine V_aload_n (q := 709) dL_law_708 rfl rfl rfl ?_
  refine V_aloadR (q := 710) dL_law_709 rfl rfl rfl ?_
  refine V_iload_n (q := 711) dL_law_710 rfl rfl rfl ?_
  refine V_iconst (q := 712) dL_law_711 rfl (by decide) ?_
  refine V_iadd (q := 713) dL_law_712 rfl (by omega) (fun z712 ez712 => ?_)
  refine V_sld (q := 714) dL_law_713 rfl hb hLn (by omega) (fun z713 ez713 rz713 => ?_)
  rw [ez712] at ez713
  refine V_aloadR (q := 715) dL_law_714 rfl rfl rfl ?_
  refine V_iload_n (q := 716) dL_law_715 rfl rfl rfl ?_
  refine V_iconst (q := 717) dL_law_716 rfl (by decide) ?_
  refine V_iadd (q := 718) dL_law_717 rfl (by omega) (fun z717 ez717 => ?_)
  refine V_sld (q := 719) dL_law_718 rfl hb hLn (by omega) (fun z718 ez718 rz718 => ?_)
  rw [ez717] at ez718
  refine V_aloadR (q := 720) dL_law_719 rfl rfl rfl ?_
  refine V_iload_n (q := 721) dL_law_720 rfl rfl rfl ?_
  refine V_iconst (q := 722) dL_law_721 rfl (by decide) ?_
  refine V_iadd (q := 723) dL_law_722 rfl (by omega) (fun z722 ez722 => ?_)
  refine V_sld (q := 724) dL_law_723 rfl hb hLn (by omega) (fun z723 ez723 rz723 => ?_)
  rw [ez722] at ez723
  refine V_aloadR (q := 725) dL_law_724 rfl rfl rfl ?_
  refine V_iload_n (q := 726) dL_law_725 rfl rfl rfl ?_
  refine V_iconst (q := 727) dL_law_726 rfl (by decide) ?_
  refine V_iadd (q := 728) dL_law_727 rfl (by omega) (fun z727 ez727 => ?_)
  refine V_sld (q := 729) dL_law_728 rfl hb hLn (by omega) (fun z728 ez728 rz728 => ?_)
  rw [ez727] at ez728
  refine V_aloadR (q := 730) dL_law_729 rfl rfl rfl ?_
  refine V_iload_n (q := 731) dL_law_730 rfl rfl rfl ?_
  refine V_iconst (q := 732) dL_law_731 rfl (by decide) ?_
  refine V_iadd (q := 733) dL_law_732 rfl (by omega) (fun z732 ez732 => ?_)
  refine V_sld (q := 734) dL_law_733 rfl hb hLn (by omega) (fun z733 ez733 rz733 => ?_)
  rw [ez732] at ez733
  refine V_rdV (q := 737) (As := [(0, z713), (0, z718), (0, z723), (0, z728), (0, z733)]) (fX6_foretell N) dL_law_734 rfl mlL_78 mw_X6_foretell im_X6_foretell sl_X6_foretell md_X6_foretell rfl (by decide) (by decide) (congrArg Prod.fst N.1.1.1.1) rfl rfl (by decide) (by decide) (Nat.le_of_ble_eq_true rfl) (Nat.le_of_ble_eq_true rfl) (Nat.le_of_ble_eq_true rfl) (fun zc rzc hzc => ?_)
  refine V_aload_n (q := 738) dL_law_737 rfl rfl rfl ?_
  refine V_aloadR (q := 739) dL_law_738 rfl rfl rfl ?_
  refine V_iload_n (q := 740) dL_law_739 rfl rfl rfl ?_
  refine V_iconst (q := 741) dL_law_740 rfl (by decide) ?_
  refine V_iadd (q := 742) dL_law_741 rfl (by omega) (fun z741 ez741 => ?_)
  refine V_sld (q := 743) dL_law_742 rfl hb hLn (by omega) (fun z742 ez742 rz742 => ?_)
  rw [ez741] at ez742
  refine V_aloadR (q := 744) dL_law_743 rfl rfl rfl ?_
  refine V_iload_n (q := 745) dL_law_744 rfl rfl rfl ?_
  refine V_iconst (q := 746) dL_law_745 rfl (by decide) ?_
  refine V_iadd (q := 747) dL_law_746 rfl (by omega) (fun z746 ez746 => ?_)
  refine V_sld (q := 748) dL_law_747 rfl hb hLn (by omega) (fun z747 ez747 rz747 => ?_)
  rw [ez746] at ez747
  refine V_aloadR (q := 749) dL_law_748 rfl rfl rfl ?_
  refine V_iload_n (q := 750) dL_law_749 rfl rfl rfl ?_
  refine V_iconst (q := 751) dL_law_750 rfl (by decide) ?_
  refine V_iadd (q := 752) dL_law_751 rfl (by omega) (fun z751 ez751 => ?_)
  refine V_sld (q := 753) dL_law_752 rfl hb hLn (by omega) (fun z752 ez752 rz752 => ?_)
  rw [ez751] at ez752
  refine V_aloadR (q := 754) dL_law_753 rfl rfl rfl ?_
  refine V_iload_n (q := 755) dL_law_754 rfl rfl rfl ?_
  refine V_iconst (q := 756) dL_law_755 rfl (by decide) ?_
  refine V_iadd (q := 757) dL_law_756 rfl (by omega) (fun z756 ez756 => ?_)
  refine V_sld (q := 758) dL_law_757 rfl hb hLn (by omega) (fun z757 ez757 rz757 => ?_)
  rw [ez756] at ez757
  refine V_aloadR (q := 759) dL_law_758 rfl rfl rfl ?_
  refine V_iload_n (q := 760) dL_law_759 rfl rfl rfl ?_
  refine V_iconst (q := 761) dL_law_760 rfl (by decide) ?_
  refine V_iadd (q := 762) dL_law_761 rfl (by omega) (fun z761 ez761 => ?_)
  refine V_sld (q := 763) dL_law_762 rfl hb hLn (by omega) (fun z762 ez762 rz762 => ?_)
  rw [ez761] at ez762
  refine VL_callI (q := 766) (As := [(0, z742), (0, z747), (0, z752), (0, z757), (0, z762)]) (fX7_foretell WFD_0 m17) dL_law_763 rfl mlL_81 mw_X7_foretell im_X7_foretell sl_X7_foretell md_X7_foretell rfl rfl rfl (by decide) (by decide) (Nat.le_of_ble_eq_true rfl) (Nat.le_of_ble_eq_true rfl) (Nat.le_of_ble_eq_true rfl) (fun zm M1 rzm hzm => ?_)
  have ezm : zm = -1 := hzm.2
  refine V_icmp_eq (q := 769) (tgt := 1045) dL_law_766 (by decide) rfl (fun c766 => ?_) (fun c766 => ?_)
  · exact p1_tail hb hLn hL (Nat.le_of_ble_eq_true rfl) (Nat.le_of_ble_eq_true rfl)
  · exact absurd (by first | omega | (revert ezm; (repeat' split) <;> intro ezm <;> omega)) c766
set_option maxHeartbeats 4000000 in
set_option maxRecDepth 20000 in
theorem p1_state {Γ : GC} {ad0 : Ad} {b L : Nat} {xs : Nat → Int32} (hb : b < g_b Γ) (hLn : L < 2147483648) (hL : L ≤ 7) (hL7 : L = 7) {αC : Sh} {C : Mem} (N : FrN (gα αC) (mm (M0w 12) C)) : V Γ (fun _ => (0, 0)) ad0 (ZX (g_b Γ) b L xs) room_1 RL code 4 (some .boolean) "law" 771 [] [(5, (b : Int)), (3, 100), (3, 0), (0, 0)] (gα αC) (mm (M0w 12) C) 53 23953 := by
  refine V_aload_n (q := 772) dL_law_771 rfl rfl rfl ?_
  refine V_aloadR (q := 773) dL_law_772 rfl rfl rfl ?_
  refine V_iload_n (q := 774) dL_law_773 rfl rfl rfl ?_
  refine V_iconst (q := 775) dL_law_774 rfl (by decide) ?_
  refine V_iadd (q := 776) dL_law_775 rfl (by omega) (fun z775 ez775 => ?_)
  refine V_sld (q := 777) dL_law_776 rfl hb hLn (by omega) (fun z776 ez776 rz776 => ?_)
  rw [ez775] at ez776
  refine V_aloadR (q := 778) dL_law_777 rfl rfl rfl ?_
  refine V_iload_n (q := 779) dL_law_778 rfl rfl rfl ?_
  refine V_iconst (q := 780) dL_law_779 rfl (by decide) ?_
  refine V_iadd (q := 781) dL_law_780 rfl (by omega) (fun z780 ez780 => ?_)
  refine V_sld (q := 782) dL_law_781 rfl hb hLn (by omega) (fun z781 ez781 rz781 => ?_)
  rw [ez780] at ez781
  refine V_rdV (q := 785) (As := [(0, z776), (0, z781)]) (fX6_state N) dL_law_782 rfl mlL_82 mw_X6_state im_X6_state sl_X6_state md_X6_state rfl (by decide) (by decide) (congrArg Prod.fst N.1.1.1.1) rfl rfl (by decide) (by decide) (Nat.le_of_ble_eq_true rfl) (Nat.le_of_ble_eq_true rfl) (Nat.le_of_ble_eq_true rfl) (fun zc rzc hzc => ?_)
  refine V_aload_n (q := 786) dL_law_785 rfl rfl rfl ?_
  refine V_aloadR (q := 787) dL_law_786 rfl rfl rfl ?_
  refine V_iload_n (q := 788) dL_law_787 rfl rfl rfl ?_
  refine V_iconst (q := 789) dL_law_788 rfl (by decide) ?_
  refine V_iadd (q := 790) dL_law_789 rfl (by omega) (fun z789 ez789 => ?_)
  refine V_sld (q := 791) dL_law_790 rfl hb hLn (by omega) (fun z790 ez790 rz790 => ?_)
  rw [ez789] at ez790
  refine V_aloadR (q := 792) dL_law_791 rfl rfl rfl ?_
  refine V_iload_n (q := 793) dL_law_792 rfl rfl rfl ?_
  refine V_iconst (q := 794) dL_law_793 rfl (by decide) ?_
  refine V_iadd (q := 795) dL_law_794 rfl (by omega) (fun z794 ez794 => ?_)
  refine V_sld (q := 796) dL_law_795 rfl hb hLn (by omega) (fun z795 ez795 rz795 => ?_)
  rw [ez794] at ez795
  refine VL_callI (q := 799) (As := [(0, z790), (0, z795)]) (tX7_state WFD_0) dL_law_796 rfl mlL_85 mw_X7_state im_X7_state sl_X7_state md_X7_state rfl rfl rfl (by decide) (by decide) (Nat.le_of_ble_eq_true rfl) (Nat.le_of_ble_eq_true rfl) (Nat.le_of_ble_eq_true rfl) (fun zm M1 rzm hzm => ?_)
  have ezm := hzm.2
  unfold stateR isW at ezm
  rw [m17] at ezm
  refine V_icmp_eq (q := 802) (tgt := 1045) dL_law_799 (by decide) rfl (fun c799 => ?_) (fun c799 => ?_)
  · exact p1_tail hb hLn hL (Nat.le_of_ble_eq_true rfl) (Nat.le_of_ble_eq_true rfl)
  · exact absurd (by first | omega | (revert ezm; (repeat' split) <;> intro ezm <;> omega)) c799
set_option maxHeartbeats 4000000 in
set_option maxRecDepth 20000 in
theorem p1_began {Γ : GC} {ad0 : Ad} {b L : Nat} {xs : Nat → Int32} (hb : b < g_b Γ) (hLn : L < 2147483648) (hL : L ≤ 7) (hL7 : L = 7) {αC : Sh} {C : Mem} (N : FrN (gα αC) (mm (M0w 12) C)) : V Γ (fun _ => (0, 0)) ad0 (ZX (g_b Γ) b L xs) room_1 RL code 4 (some .boolean) "law" 804 [] [(5, (b : Int)), (3, 100), (3, 0), (0, 0)] (gα αC) (mm (M0w 12) C) 53 23953 := by
  refine V_aload_n (q := 805) dL_law_804 rfl rfl rfl ?_
  refine V_aloadR (q := 806) dL_law_805 rfl rfl rfl ?_
  refine V_iload_n (q := 807) dL_law_806 rfl rfl rfl ?_
  refine V_iconst (q := 808) dL_law_807 rfl (by decide) ?_
  refine V_iadd (q := 809) dL_law_808 rfl (by omega) (fun z808 ez808 => ?_)
  refine V_sld (q := 810) dL_law_809 rfl hb hLn (by omega) (fun z809 ez809 rz809 => ?_)
  rw [ez808] at ez809
  refine V_aloadR (q := 811) dL_law_810 rfl rfl rfl ?_
  refine V_iload_n (q := 812) dL_law_811 rfl rfl rfl ?_
  refine V_iconst (q := 813) dL_law_812 rfl (by decide) ?_
  refine V_iadd (q := 814) dL_law_813 rfl (by omega) (fun z813 ez813 => ?_)
  refine V_sld (q := 815) dL_law_814 rfl hb hLn (by omega) (fun z814 ez814 rz814 => ?_)
  rw [ez813] at ez814
  refine V_rdV (q := 818) (As := [(0, z809), (0, z814)]) (fX6_began N) dL_law_815 rfl mlL_86 mw_X6_began im_X6_began sl_X6_began md_X6_began rfl (by decide) (by decide) (congrArg Prod.fst N.1.1.1.1) rfl rfl (by decide) (by decide) (Nat.le_of_ble_eq_true rfl) (Nat.le_of_ble_eq_true rfl) (Nat.le_of_ble_eq_true rfl) (fun zc rzc hzc => ?_)
  refine V_aload_n (q := 819) dL_law_818 rfl rfl rfl ?_
  refine V_aloadR (q := 820) dL_law_819 rfl rfl rfl ?_
  refine V_iload_n (q := 821) dL_law_820 rfl rfl rfl ?_
  refine V_iconst (q := 822) dL_law_821 rfl (by decide) ?_
  refine V_iadd (q := 823) dL_law_822 rfl (by omega) (fun z822 ez822 => ?_)
  refine V_sld (q := 824) dL_law_823 rfl hb hLn (by omega) (fun z823 ez823 rz823 => ?_)
  rw [ez822] at ez823
  refine V_aloadR (q := 825) dL_law_824 rfl rfl rfl ?_
  refine V_iload_n (q := 826) dL_law_825 rfl rfl rfl ?_
  refine V_iconst (q := 827) dL_law_826 rfl (by decide) ?_
  refine V_iadd (q := 828) dL_law_827 rfl (by omega) (fun z827 ez827 => ?_)
  refine V_sld (q := 829) dL_law_828 rfl hb hLn (by omega) (fun z828 ez828 rz828 => ?_)
  rw [ez827] at ez828
  refine VL_callI (q := 832) (As := [(0, z823), (0, z828)]) (tX7_began WFD_0 WFW_0) dL_law_829 rfl mlL_89 mw_X7_began im_X7_began sl_X7_began md_X7_began rfl rfl rfl (by decide) (by decide) (Nat.le_of_ble_eq_true rfl) (Nat.le_of_ble_eq_true rfl) (Nat.le_of_ble_eq_true rfl) (fun zm M1 rzm hzm => ?_)
  have ezm := hzm.2
  unfold beganR isW at ezm
  rw [m17] at ezm
  refine V_icmp_eq (q := 835) (tgt := 1045) dL_law_832 (by decide) rfl (fun c832 => ?_) (fun c832 => ?_)
  · exact p1_tail hb hLn hL (Nat.le_of_ble_eq_true rfl) (Nat.le_of_ble_eq_true rfl)
  · exact absurd (by first | omega | (revert ezm; (repeat' split) <;> intro ezm <;> omega)) c832
set_option maxHeartbeats 4000000 in
set_option maxRecDepth 20000 in
theorem p1_tape {Γ : GC} {ad0 : Ad} {b L : Nat} {xs : Nat → Int32} (hb : b < g_b Γ) (hLn : L < 2147483648) (hL : L ≤ 7) (hL7 : L = 7) {αC : Sh} {C : Mem} (N : FrN (gα αC) (mm (M0w 12) C)) : V Γ (fun _ => (0, 0)) ad0 (ZX (g_b Γ) b L xs) room_1 RL code 4 (some .boolean) "law" 837 [] [(5, (b : Int)), (3, 100), (3, 0), (0, 0)] (gα αC) (mm (M0w 12) C) 53 23953 := by
  refine V_aload_n (q := 838) dL_law_837 rfl rfl rfl ?_
  refine V_aloadR (q := 839) dL_law_838 rfl rfl rfl ?_
  refine V_iload_n (q := 840) dL_law_839 rfl rfl rfl ?_
  refine V_iconst (q := 841) dL_law_840 rfl (by decide) ?_
  refine V_iadd (q := 842) dL_law_841 rfl (by omega) (fun z841 ez841 => ?_)
  refine V_sld (q := 843) dL_law_842 rfl hb hLn (by omega) (fun z842 ez842 rz842 => ?_)
  rw [ez841] at ez842
  refine V_aloadR (q := 844) dL_law_843 rfl rfl rfl ?_
  refine V_iload_n (q := 845) dL_law_844 rfl rfl rfl ?_
  refine V_iconst (q := 846) dL_law_845 rfl (by decide) ?_
  refine V_iadd (q := 847) dL_law_846 rfl (by omega) (fun z846 ez846 => ?_)
  refine V_sld (q := 848) dL_law_847 rfl hb hLn (by omega) (fun z847 ez847 rz847 => ?_)
  rw [ez846] at ez847
  refine V_rdV (q := 851) (As := [(0, z842), (0, z847)]) (fX6_tape N) dL_law_848 rfl mlL_90 mw_X6_tape im_X6_tape sl_X6_tape md_X6_tape rfl (by decide) (by decide) (congrArg Prod.fst N.1.1.1.1) rfl rfl (by decide) (by decide) (Nat.le_of_ble_eq_true rfl) (Nat.le_of_ble_eq_true rfl) (Nat.le_of_ble_eq_true rfl) (fun zc rzc hzc => ?_)
  refine V_aload_n (q := 852) dL_law_851 rfl rfl rfl ?_
  refine V_aloadR (q := 853) dL_law_852 rfl rfl rfl ?_
  refine V_iload_n (q := 854) dL_law_853 rfl rfl rfl ?_
  refine V_iconst (q := 855) dL_law_854 rfl (by decide) ?_
  refine V_iadd (q := 856) dL_law_855 rfl (by omega) (fun z855 ez855 => ?_)
  refine V_sld (q := 857) dL_law_856 rfl hb hLn (by omega) (fun z856 ez856 rz856 => ?_)
  rw [ez855] at ez856
  refine V_aloadR (q := 858) dL_law_857 rfl rfl rfl ?_
  refine V_iload_n (q := 859) dL_law_858 rfl rfl rfl ?_
  refine V_iconst (q := 860) dL_law_859 rfl (by decide) ?_
  refine V_iadd (q := 861) dL_law_860 rfl (by omega) (fun z860 ez860 => ?_)
  refine V_sld (q := 862) dL_law_861 rfl hb hLn (by omega) (fun z861 ez861 rz861 => ?_)
  rw [ez860] at ez861
  refine VL_callI (q := 865) (As := [(0, z856), (0, z861)]) (tX7_tape WFD_0 WFW_0) dL_law_862 rfl mlL_93 mw_X7_tape im_X7_tape sl_X7_tape md_X7_tape rfl rfl rfl (by decide) (by decide) (Nat.le_of_ble_eq_true rfl) (Nat.le_of_ble_eq_true rfl) (Nat.le_of_ble_eq_true rfl) (fun zm M1 rzm hzm => ?_)
  have ezm := hzm.2
  unfold tapeR isW at ezm
  rw [m17] at ezm
  refine V_icmp_eq (q := 868) (tgt := 1045) dL_law_865 (by decide) rfl (fun c865 => ?_) (fun c865 => ?_)
  · exact p1_tail hb hLn hL (Nat.le_of_ble_eq_true rfl) (Nat.le_of_ble_eq_true rfl)
  · exact absurd (by first | omega | (revert ezm; (repeat' split) <;> intro ezm <;> omega)) c865
set_option maxHeartbeats 4000000 in
set_option maxRecDepth 20000 in
theorem p1_value {Γ : GC} {ad0 : Ad} {b L : Nat} {xs : Nat → Int32} (hb : b < g_b Γ) (hLn : L < 2147483648) (hL : L ≤ 7) (hL7 : L = 7) {αC : Sh} {C : Mem} (N : FrN (gα αC) (mm (M0w 12) C)) : V Γ (fun _ => (0, 0)) ad0 (ZX (g_b Γ) b L xs) room_1 RL code 4 (some .boolean) "law" 870 [] [(5, (b : Int)), (3, 100), (3, 0), (0, 0)] (gα αC) (mm (M0w 12) C) 53 23953 := by
  refine V_aload_n (q := 871) dL_law_870 rfl rfl rfl ?_
  refine V_aloadR (q := 872) dL_law_871 rfl rfl rfl ?_
  refine V_iload_n (q := 873) dL_law_872 rfl rfl rfl ?_
  refine V_iconst (q := 874) dL_law_873 rfl (by decide) ?_
  refine V_iadd (q := 875) dL_law_874 rfl (by omega) (fun z874 ez874 => ?_)
  refine V_sld (q := 876) dL_law_875 rfl hb hLn (by omega) (fun z875 ez875 rz875 => ?_)
  rw [ez874] at ez875
  refine V_aloadR (q := 877) dL_law_876 rfl rfl rfl ?_
  refine V_iload_n (q := 878) dL_law_877 rfl rfl rfl ?_
  refine V_iconst (q := 879) dL_law_878 rfl (by decide) ?_
  refine V_iadd (q := 880) dL_law_879 rfl (by omega) (fun z879 ez879 => ?_)
  refine V_sld (q := 881) dL_law_880 rfl hb hLn (by omega) (fun z880 ez880 rz880 => ?_)
  rw [ez879] at ez880
  refine V_aloadR (q := 882) dL_law_881 rfl rfl rfl ?_
  refine V_iload_n (q := 883) dL_law_882 rfl rfl rfl ?_
  refine V_iconst (q := 884) dL_law_883 rfl (by decide) ?_
  refine V_iadd (q := 885) dL_law_884 rfl (by omega) (fun z884 ez884 => ?_)
  refine V_sld (q := 886) dL_law_885 rfl hb hLn (by omega) (fun z885 ez885 rz885 => ?_)
  rw [ez884] at ez885
  refine V_rdV (q := 889) (As := [(0, z875), (0, z880), (0, z885)]) (fX6_value N) dL_law_886 rfl mlL_94 mw_X6_value im_X6_value sl_X6_value md_X6_value rfl (by decide) (by decide) (congrArg Prod.fst N.1.1.1.1) rfl rfl (by decide) (by decide) (Nat.le_of_ble_eq_true rfl) (Nat.le_of_ble_eq_true rfl) (Nat.le_of_ble_eq_true rfl) (fun zc rzc hzc => ?_)
  refine V_aload_n (q := 890) dL_law_889 rfl rfl rfl ?_
  refine V_aloadR (q := 891) dL_law_890 rfl rfl rfl ?_
  refine V_iload_n (q := 892) dL_law_891 rfl rfl rfl ?_
  refine V_iconst (q := 893) dL_law_892 rfl (by decide) ?_
  refine V_iadd (q := 894) dL_law_893 rfl (by omega) (fun z893 ez893 => ?_)
  refine V_sld (q := 895) dL_law_894 rfl hb hLn (by omega) (fun z894 ez894 rz894 => ?_)
  rw [ez893] at ez894
  refine V_aloadR (q := 896) dL_law_895 rfl rfl rfl ?_
  refine V_iload_n (q := 897) dL_law_896 rfl rfl rfl ?_
  refine V_iconst (q := 898) dL_law_897 rfl (by decide) ?_
  refine V_iadd (q := 899) dL_law_898 rfl (by omega) (fun z898 ez898 => ?_)
  refine V_sld (q := 900) dL_law_899 rfl hb hLn (by omega) (fun z899 ez899 rz899 => ?_)
  rw [ez898] at ez899
  refine V_aloadR (q := 901) dL_law_900 rfl rfl rfl ?_
  refine V_iload_n (q := 902) dL_law_901 rfl rfl rfl ?_
  refine V_iconst (q := 903) dL_law_902 rfl (by decide) ?_
  refine V_iadd (q := 904) dL_law_903 rfl (by omega) (fun z903 ez903 => ?_)
  refine V_sld (q := 905) dL_law_904 rfl hb hLn (by omega) (fun z904 ez904 rz904 => ?_)
  rw [ez903] at ez904
  refine VL_callI (q := 908) (As := [(0, z894), (0, z899), (0, z904)]) (tX7_value WFD_0) dL_law_905 rfl mlL_98 mw_X7_value im_X7_value sl_X7_value md_X7_value rfl rfl rfl (by decide) (by decide) (Nat.le_of_ble_eq_true rfl) (Nat.le_of_ble_eq_true rfl) (Nat.le_of_ble_eq_true rfl) (fun zm M1 rzm hzm => ?_)
  have ezm := hzm.2
  unfold valueR isW at ezm
  rw [m17] at ezm
  refine V_icmp_eq (q := 911) (tgt := 1045) dL_law_908 (by decide) rfl (fun c908 => ?_) (fun c908 => ?_)
  · exact p1_tail hb hLn hL (Nat.le_of_ble_eq_true rfl) (Nat.le_of_ble_eq_true rfl)
  · exact absurd (by first | omega | (revert ezm; (repeat' split) <;> intro ezm <;> omega)) c908
set_option maxHeartbeats 4000000 in
set_option maxRecDepth 20000 in
theorem p1_failed {Γ : GC} {ad0 : Ad} {b L : Nat} {xs : Nat → Int32} (hb : b < g_b Γ) (hLn : L < 2147483648) (hL : L ≤ 7) (hL7 : L = 7) {αC : Sh} {C : Mem} (N : FrN (gα αC) (mm (M0w 12) C)) : V Γ (fun _ => (0, 0)) ad0 (ZX (g_b Γ) b L xs) room_1 RL code 4 (some .boolean) "law" 913 [] [(5, (b : Int)), (3, 100), (3, 0), (0, 0)] (gα αC) (mm (M0w 12) C) 53 23953 := by
  refine V_aload_n (q := 914) dL_law_913 rfl rfl rfl ?_
  refine V_aloadR (q := 915) dL_law_914 rfl rfl rfl ?_
  refine V_iload_n (q := 916) dL_law_915 rfl rfl rfl ?_
  refine V_iconst (q := 917) dL_law_916 rfl (by decide) ?_
  refine V_iadd (q := 918) dL_law_917 rfl (by omega) (fun z917 ez917 => ?_)
  refine V_sld (q := 919) dL_law_918 rfl hb hLn (by omega) (fun z918 ez918 rz918 => ?_)
  rw [ez917] at ez918
  refine V_aloadR (q := 920) dL_law_919 rfl rfl rfl ?_
  refine V_iload_n (q := 921) dL_law_920 rfl rfl rfl ?_
  refine V_iconst (q := 922) dL_law_921 rfl (by decide) ?_
  refine V_iadd (q := 923) dL_law_922 rfl (by omega) (fun z922 ez922 => ?_)
  refine V_sld (q := 924) dL_law_923 rfl hb hLn (by omega) (fun z923 ez923 rz923 => ?_)
  rw [ez922] at ez923
  refine V_rdV (q := 927) (As := [(0, z918), (0, z923)]) (fX6_failed N) dL_law_924 rfl mlL_99 mw_X6_failed im_X6_failed sl_X6_failed md_X6_failed rfl (by decide) (by decide) (congrArg Prod.fst N.1.1.1.1) rfl rfl (by decide) (by decide) (Nat.le_of_ble_eq_true rfl) (Nat.le_of_ble_eq_true rfl) (Nat.le_of_ble_eq_true rfl) (fun zc rzc hzc => ?_)
  refine V_aload_n (q := 928) dL_law_927 rfl rfl rfl ?_
  refine V_aloadR (q := 929) dL_law_928 rfl rfl rfl ?_
  refine V_iload_n (q := 930) dL_law_929 rfl rfl rfl ?_
  refine V_iconst (q := 931) dL_law_930 rfl (by decide) ?_
  refine V_iadd (q := 932) dL_law_931 rfl (by omega) (fun z931 ez931 => ?_)
  refine V_sld (q := 933) dL_law_932 rfl hb hLn (by omega) (fun z932 ez932 rz932 => ?_)
  rw [ez931] at ez932
  refine V_aloadR (q := 934) dL_law_933 rfl rfl rfl ?_
  refine V_iload_n (q := 935) dL_law_934 rfl rfl rfl ?_
  refine V_iconst (q := 936) dL_law_935 rfl (by decide) ?_
  refine V_iadd (q := 937) dL_law_936 rfl (by omega) (fun z936 ez936 => ?_)
  refine V_sld (q := 938) dL_law_937 rfl hb hLn (by omega) (fun z937 ez937 rz937 => ?_)
  rw [ez936] at ez937
  refine VL_callI (q := 941) (As := [(0, z932), (0, z937)]) (tX7_failed WFD_0) dL_law_938 rfl mlL_102 mw_X7_failed im_X7_failed sl_X7_failed md_X7_failed rfl rfl rfl (by decide) (by decide) (Nat.le_of_ble_eq_true rfl) (Nat.le_of_ble_eq_true rfl) (Nat.le_of_ble_eq_true rfl) (fun zm M1 rzm hzm => ?_)
  have ezm := hzm.2
  unfold failedR isW at ezm
  rw [m17] at ezm
  refine V_icmp_eq (q := 944) (tgt := 1045) dL_law_941 (by decide) rfl (fun c941 => ?_) (fun c941 => ?_)
  · exact p1_tail hb hLn hL (Nat.le_of_ble_eq_true rfl) (Nat.le_of_ble_eq_true rfl)
  · exact absurd (by first | omega | (revert ezm; (repeat' split) <;> intro ezm <;> omega)) c941
set_option maxHeartbeats 4000000 in
set_option maxRecDepth 20000 in
theorem p1_spent {Γ : GC} {ad0 : Ad} {b L : Nat} {xs : Nat → Int32} (hb : b < g_b Γ) (hLn : L < 2147483648) (hL : L ≤ 7) (hL7 : L = 7) {αC : Sh} {C : Mem} (N : FrN (gα αC) (mm (M0w 12) C)) : V Γ (fun _ => (0, 0)) ad0 (ZX (g_b Γ) b L xs) room_1 RL code 4 (some .boolean) "law" 946 [] [(5, (b : Int)), (3, 100), (3, 0), (0, 0)] (gα αC) (mm (M0w 12) C) 53 23953 := by
  refine V_aload_n (q := 947) dL_law_946 rfl rfl rfl ?_
  refine V_aloadR (q := 948) dL_law_947 rfl rfl rfl ?_
  refine V_iload_n (q := 949) dL_law_948 rfl rfl rfl ?_
  refine V_iconst (q := 950) dL_law_949 rfl (by decide) ?_
  refine V_iadd (q := 951) dL_law_950 rfl (by omega) (fun z950 ez950 => ?_)
  refine V_sld (q := 952) dL_law_951 rfl hb hLn (by omega) (fun z951 ez951 rz951 => ?_)
  rw [ez950] at ez951
  refine V_aloadR (q := 953) dL_law_952 rfl rfl rfl ?_
  refine V_iload_n (q := 954) dL_law_953 rfl rfl rfl ?_
  refine V_iconst (q := 955) dL_law_954 rfl (by decide) ?_
  refine V_iadd (q := 956) dL_law_955 rfl (by omega) (fun z955 ez955 => ?_)
  refine V_sld (q := 957) dL_law_956 rfl hb hLn (by omega) (fun z956 ez956 rz956 => ?_)
  rw [ez955] at ez956
  refine V_rdV (q := 960) (As := [(0, z951), (0, z956)]) (fX6_spent N) dL_law_957 rfl mlL_103 mw_X6_spent im_X6_spent sl_X6_spent md_X6_spent rfl (by decide) (by decide) (congrArg Prod.fst N.1.1.1.1) rfl rfl (by decide) (by decide) (Nat.le_of_ble_eq_true rfl) (Nat.le_of_ble_eq_true rfl) (Nat.le_of_ble_eq_true rfl) (fun zc rzc hzc => ?_)
  refine V_aload_n (q := 961) dL_law_960 rfl rfl rfl ?_
  refine V_aloadR (q := 962) dL_law_961 rfl rfl rfl ?_
  refine V_iload_n (q := 963) dL_law_962 rfl rfl rfl ?_
  refine V_iconst (q := 964) dL_law_963 rfl (by decide) ?_
  refine V_iadd (q := 965) dL_law_964 rfl (by omega) (fun z964 ez964 => ?_)
  refine V_sld (q := 966) dL_law_965 rfl hb hLn (by omega) (fun z965 ez965 rz965 => ?_)
  rw [ez964] at ez965
  refine V_aloadR (q := 967) dL_law_966 rfl rfl rfl ?_
  refine V_iload_n (q := 968) dL_law_967 rfl rfl rfl ?_
  refine V_iconst (q := 969) dL_law_968 rfl (by decide) ?_
  refine V_iadd (q := 970) dL_law_969 rfl (by omega) (fun z969 ez969 => ?_)
  refine V_sld (q := 971) dL_law_970 rfl hb hLn (by omega) (fun z970 ez970 rz970 => ?_)
  rw [ez969] at ez970
  refine VL_callI (q := 974) (As := [(0, z965), (0, z970)]) (tX7_spent WFD_0) dL_law_971 rfl mlL_106 mw_X7_spent im_X7_spent sl_X7_spent md_X7_spent rfl rfl rfl (by decide) (by decide) (Nat.le_of_ble_eq_true rfl) (Nat.le_of_ble_eq_true rfl) (Nat.le_of_ble_eq_true rfl) (fun zm M1 rzm hzm => ?_)
  have ezm := hzm.2
  unfold spentR isW at ezm
  rw [m17] at ezm
  refine V_icmp_eq (q := 977) (tgt := 1045) dL_law_974 (by decide) rfl (fun c974 => ?_) (fun c974 => ?_)
  · exact p1_tail hb hLn hL (Nat.le_of_ble_eq_true rfl) (Nat.le_of_ble_eq_true rfl)
  · exact absurd (by first | omega | (revert ezm; (repeat' split) <;> intro ezm <;> omega)) c974
set_option maxHeartbeats 4000000 in
set_option maxRecDepth 20000 in
theorem p1_many {Γ : GC} {ad0 : Ad} {b L : Nat} {xs : Nat → Int32} (hb : b < g_b Γ) (hLn : L < 2147483648) (hL : L ≤ 7) (hL7 : L = 7) {αC : Sh} {C : Mem} (N : FrN (gα αC) (mm (M0w 12) C)) : V Γ (fun _ => (0, 0)) ad0 (ZX (g_b Γ) b L xs) room_1 RL code 4 (some .boolean) "law" 979 [] [(5, (b : Int)), (3, 100), (3, 0), (0, 0)] (gα αC) (mm (M0w 12) C) 53 23953 := by
  refine V_aload_n (q := 980) dL_law_979 rfl rfl rfl ?_
  refine V_aloadR (q := 981) dL_law_980 rfl rfl rfl ?_
  refine V_iload_n (q := 982) dL_law_981 rfl rfl rfl ?_
  refine V_iconst (q := 983) dL_law_982 rfl (by decide) ?_
  refine V_iadd (q := 984) dL_law_983 rfl (by omega) (fun z983 ez983 => ?_)
  refine V_sld (q := 985) dL_law_984 rfl hb hLn (by omega) (fun z984 ez984 rz984 => ?_)
  rw [ez983] at ez984
  refine V_aloadR (q := 986) dL_law_985 rfl rfl rfl ?_
  refine V_iload_n (q := 987) dL_law_986 rfl rfl rfl ?_
  refine V_iconst (q := 988) dL_law_987 rfl (by decide) ?_
  refine V_iadd (q := 989) dL_law_988 rfl (by omega) (fun z988 ez988 => ?_)
  refine V_sld (q := 990) dL_law_989 rfl hb hLn (by omega) (fun z989 ez989 rz989 => ?_)
  rw [ez988] at ez989
  refine V_rdV (q := 993) (As := [(0, z984), (0, z989)]) (fX6_many N) dL_law_990 rfl mlL_107 mw_X6_many im_X6_many sl_X6_many md_X6_many rfl (by decide) (by decide) (congrArg Prod.fst N.1.1.1.1) rfl rfl (by decide) (by decide) (Nat.le_of_ble_eq_true rfl) (Nat.le_of_ble_eq_true rfl) (Nat.le_of_ble_eq_true rfl) (fun zc rzc hzc => ?_)
  refine V_aload_n (q := 994) dL_law_993 rfl rfl rfl ?_
  refine V_aloadR (q := 995) dL_law_994 rfl rfl rfl ?_
  refine V_iload_n (q := 996) dL_law_995 rfl rfl rfl ?_
  refine V_iconst (q := 997) dL_law_996 rfl (by decide) ?_
  refine V_iadd (q := 998) dL_law_997 rfl (by omega) (fun z997 ez997 => ?_)
  refine V_sld (q := 999) dL_law_998 rfl hb hLn (by omega) (fun z998 ez998 rz998 => ?_)
  rw [ez997] at ez998
  refine V_aloadR (q := 1000) dL_law_999 rfl rfl rfl ?_
  refine V_iload_n (q := 1001) dL_law_1000 rfl rfl rfl ?_
  refine V_iconst (q := 1002) dL_law_1001 rfl (by decide) ?_
  refine V_iadd (q := 1003) dL_law_1002 rfl (by omega) (fun z1002 ez1002 => ?_)
  refine V_sld (q := 1004) dL_law_1003 rfl hb hLn (by omega) (fun z1003 ez1003 rz1003 => ?_)
  rw [ez1002] at ez1003
  refine VL_callI (q := 1007) (As := [(0, z998), (0, z1003)]) (tX7_many WFD_0) dL_law_1004 rfl mlL_110 mw_X7_many im_X7_many sl_X7_many md_X7_many rfl rfl rfl (by decide) (by decide) (Nat.le_of_ble_eq_true rfl) (Nat.le_of_ble_eq_true rfl) (Nat.le_of_ble_eq_true rfl) (fun zm M1 rzm hzm => ?_)
  have ezm := hzm.2
  unfold manyR isW at ezm
  rw [m17] at ezm
  refine V_icmp_eq (q := 1010) (tgt := 1045) dL_law_1007 (by decide) rfl (fun c1007 => ?_) (fun c1007 => ?_)
  · exact p1_tail hb hLn hL (Nat.le_of_ble_eq_true rfl) (Nat.le_of_ble_eq_true rfl)
  · exact absurd (by first | omega | (revert ezm; (repeat' split) <;> intro ezm <;> omega)) c1007
set_option maxHeartbeats 4000000 in
set_option maxRecDepth 20000 in
theorem p1_differs {Γ : GC} {ad0 : Ad} {b L : Nat} {xs : Nat → Int32} (hb : b < g_b Γ) (hLn : L < 2147483648) (hL : L ≤ 7) (hL7 : L = 7) {αC : Sh} {C : Mem} (N : FrN (gα αC) (mm (M0w 12) C)) : V Γ (fun _ => (0, 0)) ad0 (ZX (g_b Γ) b L xs) room_1 RL code 4 (some .boolean) "law" 1012 [] [(5, (b : Int)), (3, 100), (3, 0), (0, 0)] (gα αC) (mm (M0w 12) C) 53 23953 := by
  refine V_aload_n (q := 1013) dL_law_1012 rfl rfl rfl ?_
  refine V_aloadR (q := 1014) dL_law_1013 rfl rfl rfl ?_
  refine V_iload_n (q := 1015) dL_law_1014 rfl rfl rfl ?_
  refine V_iconst (q := 1016) dL_law_1015 rfl (by decide) ?_
  refine V_iadd (q := 1017) dL_law_1016 rfl (by omega) (fun z1016 ez1016 => ?_)
  refine V_sld (q := 1018) dL_law_1017 rfl hb hLn (by omega) (fun z1017 ez1017 rz1017 => ?_)
  rw [ez1016] at ez1017
  refine V_aloadR (q := 1019) dL_law_1018 rfl rfl rfl ?_
  refine V_iload_n (q := 1020) dL_law_1019 rfl rfl rfl ?_
  refine V_iconst (q := 1021) dL_law_1020 rfl (by decide) ?_
  refine V_iadd (q := 1022) dL_law_1021 rfl (by omega) (fun z1021 ez1021 => ?_)
  refine V_sld (q := 1023) dL_law_1022 rfl hb hLn (by omega) (fun z1022 ez1022 rz1022 => ?_)
  rw [ez1021] at ez1022
  refine V_rdV (q := 1026) (As := [(0, z1017), (0, z1022)]) (fX6_differs N) dL_law_1023 rfl mlL_111 mw_X6_differs im_X6_differs sl_X6_differs md_X6_differs rfl (by decide) (by decide) (congrArg Prod.fst N.1.1.1.1) rfl rfl (by decide) (by decide) (Nat.le_of_ble_eq_true rfl) (Nat.le_of_ble_eq_true rfl) (Nat.le_of_ble_eq_true rfl) (fun zc rzc hzc => ?_)
  refine V_aload_n (q := 1027) dL_law_1026 rfl rfl rfl ?_
  refine V_aloadR (q := 1028) dL_law_1027 rfl rfl rfl ?_
  refine V_iload_n (q := 1029) dL_law_1028 rfl rfl rfl ?_
  refine V_iconst (q := 1030) dL_law_1029 rfl (by decide) ?_
  refine V_iadd (q := 1031) dL_law_1030 rfl (by omega) (fun z1030 ez1030 => ?_)
  refine V_sld (q := 1032) dL_law_1031 rfl hb hLn (by omega) (fun z1031 ez1031 rz1031 => ?_)
  rw [ez1030] at ez1031
  refine V_aloadR (q := 1033) dL_law_1032 rfl rfl rfl ?_
  refine V_iload_n (q := 1034) dL_law_1033 rfl rfl rfl ?_
  refine V_iconst (q := 1035) dL_law_1034 rfl (by decide) ?_
  refine V_iadd (q := 1036) dL_law_1035 rfl (by omega) (fun z1035 ez1035 => ?_)
  refine V_sld (q := 1037) dL_law_1036 rfl hb hLn (by omega) (fun z1036 ez1036 rz1036 => ?_)
  rw [ez1035] at ez1036
  refine VL_callI (q := 1040) (As := [(0, z1031), (0, z1036)]) (tX7_differs WFD_0) dL_law_1037 rfl mlL_114 mw_X7_differs im_X7_differs sl_X7_differs md_X7_differs rfl rfl rfl (by decide) (by decide) (Nat.le_of_ble_eq_true rfl) (Nat.le_of_ble_eq_true rfl) (Nat.le_of_ble_eq_true rfl) (fun zm M1 rzm hzm => ?_)
  have ezm : zm = -1 := hzm.2.elim (fun h9 => h9.2) (fun h9 => by { have h8 := h9.1.1; unfold isW at h8; rw [m17] at h8; omega })
  refine V_icmp_eq (q := 1043) (tgt := 1045) dL_law_1040 (by decide) rfl (fun c1040 => ?_) (fun c1040 => ?_)
  · exact p1_tail hb hLn hL (Nat.le_of_ble_eq_true rfl) (Nat.le_of_ble_eq_true rfl)
  · exact absurd (by first | omega | (revert ezm; (repeat' split) <;> intro ezm <;> omega)) c1040
set_option maxHeartbeats 4000000 in
set_option maxRecDepth 20000 in
theorem p1_law {Γ : GC} {ad0 : Ad} {b L : Nat} {xs : Nat → Int32} (hb : b < g_b Γ) (hLn : L < 2147483648) (hL : L ≤ 7) : V Γ (fun _ => (0, 0)) ad0 (ZX (g_b Γ) b L xs) room_1 RL code 4 (some .boolean) "law" 0 [] [(5, (b : Int)), (9, 0), (9, 0), (9, 0)] (fun _ => (0, 0)) (fun _ _ => 0) 0 0 := by
  refine V_new (q := 3) (ci := 6) 100 dL_law_0 rfl ckL_7 rfl (by decide) (Nat.le_of_ble_eq_true rfl) (Nat.le_of_ble_eq_true rfl) (fun A0 M0 eA0 eM0 => ?_)
  refine V_dup (q := 4) dL_law_3 rfl (show (3 : Nat) ≠ 2 by decide) ?_
  refine V_chI (q := 7) (As := []) (tX6_init (show _ = (7, 0) by rw [eA0, sa_s]) (fun t h1 h2 => by rw [eA0, sa_t _ _ _ (by omega)])) dL_law_4 rfl mlL_9 mw_X6_init im_X6_init rfl md_X6_init (by decide) rfl rfl (by decide) (by decide) (Nat.le_of_ble_eq_true rfl) (Nat.le_of_ble_eq_true rfl) (Nat.le_of_ble_eq_true rfl) (fun A4 B4 x4 h4 => ?_)
  obtain ⟨n1, n2, n3, n4, n5, f4⟩ := h4
  refine V_astore_n (q := 8) (lv1 := [(5, (b : Int)), (3, 100), (9, 0), (9, 0)]) dL_law_7 rfl rfl (by decide) rfl rfl ?_
  refine V_new (q := 11) (ci := 7) 0 dL_law_8 rfl ckL_10 (by (rw [(f4 0 (by omega)).1, eA0, sa_t _ _ _ (by omega)]) <;> exact rfl) (by decide) (Nat.le_of_ble_eq_true rfl) (Nat.le_of_ble_eq_true rfl) (fun A8 M8 eA8 eM8 => ?_)
  refine V_dup (q := 12) dL_law_11 rfl (show (3 : Nat) ≠ 2 by decide) ?_
  rw [eA8, eM8]
  have hz : ∀ t : Int, 0 ≤ t → t ≤ 58 → A4 t = (0, 0) := fun t h1 h2 => by rw [(f4 t (by omega)).1, eA0, sa_t _ _ _ (by omega)]
  refine V_chI (q := 15) (As := []) (tX7_init hz) dL_law_12 rfl mlL_12 mw_X7_init im_X7_init rfl md_X7_init (by decide) rfl rfl (by decide) (by decide) (Nat.le_of_ble_eq_true rfl) (Nat.le_of_ble_eq_true rfl) (Nat.le_of_ble_eq_true rfl) (fun A12 B12 x12 h12 => ?_)
  obtain ⟨rfl, rfl⟩ := h12
  have cg : ∀ t : Int, 59 ≤ t → gα A4 t = A4 t ∧ mm (M0w 12) B4 t = B4 t := fun t h => ⟨gα_c (Or.inr h), funext fun i => mm_c (Or.inr h) i⟩
  have N : FrN (gα A4) (mm (M0w 12) B4) := by
    refine ⟨⟨?_, ?_, DeN_c (fun t h1 h2 => cg t (by omega)) n3, WoN_c (fun t h1 h2 => cg t (by omega)) n4, ?_⟩, fun t ht => ?_⟩
    · unfold SbS; rw [(cg 100 (by decide)).1, (cg 101 (by decide)).1, (cg 100 (by decide)).2]; exact n1
    · rw [(cg 100 (by decide)).2]; exact n2
    · intro i; rw [(cg 101 (by decide)).2]; exact n5 i
    · rw [(cg t (by omega)).1, (f4 t (by omega)).1, eA0, sa_t _ _ _ (by omega)]
  have cg : ∀ t : Int, 59 ≤ t → gα A4 t = A4 t ∧ mm (M0w 12) B4 t = B4 t := fun t h => ⟨gα_c (Or.inr h), funext fun i => mm_c (Or.inr h) i⟩
  have N : FrN (gα A4) (mm (M0w 12) B4) := by
    refine ⟨⟨?_, ?_, DeN_c (fun t h1 h2 => cg t (by omega)) n3, WoN_c (fun t h1 h2 => cg t (by omega)) n4, ?_⟩, fun t ht => ?_⟩
    · unfold SbS; rw [(cg 100 (by decide)).1, (cg 101 (by decide)).1, (cg 100 (by decide)).2]; exact n1
    · rw [(cg 100 (by decide)).2]; exact n2
    · intro i; rw [(cg 101 (by decide)).2]; exact n5 i
    · rw [(cg t (by omega)).1, (f4 t (by omega)).1, eA0, sa_t _ _ _ (by omega)]
  refine V_astore_n (q := 16) (lv1 := [(5, (b : Int)), (3, 100), (3, 0), (9, 0)]) dL_law_15 rfl rfl (by decide) rfl rfl ?_
  refine V_iconst (q := 17) dL_law_16 rfl (by decide) ?_
  refine V_istore_n (q := 18) (lv1 := [(5, (b : Int)), (3, 100), (3, 0), (0, 0)]) dL_law_17 rfl rfl (by decide) rfl rfl ?_
  refine V_cs (c1 := 53) (l1 := 23953) rfl rfl ?_
  refine V_iload_n (q := 19) dL_law_18 rfl rfl rfl ?_
  refine V_aloadR (q := 20) dL_law_19 rfl rfl rfl ?_
  refine V_slen (q := 21) dL_law_20 rfl hb hLn ?_
  refine V_bipush (q := 23) dL_law_21 rfl (by decide) ?_
  refine V_isub (q := 24) dL_law_23 rfl (by omega) (fun z23 ez23 => ?_)
  refine V_icmp_gt (q := 27) (tgt := 1051) dL_law_24 (by decide) rfl (fun c24 => ?_) (fun c24 => ?_)
  · refine V_iconst (q := 1052) dL_law_1051 rfl (by decide) ?_
    exact V_lawret dL_law_1052 (Nat.le_of_ble_eq_true rfl) (Nat.le_of_ble_eq_true rfl)
  · refine V_aloadR (q := 28) dL_law_27 rfl rfl rfl ?_
    refine V_iload_n (q := 29) dL_law_28 rfl rfl rfl ?_
    refine V_sld (q := 30) dL_law_29 rfl hb hLn (by omega) (fun z29 ez29 rz29 => ?_)
    refine V_bipush (q := 32) dL_law_30 rfl (by decide) ?_
    refine V_iand (q := 33) dL_law_32 rfl (fun z32 rz32 => ?_)
    rcases (show z32 = 0 ∨ z32 = 1 ∨ z32 = 2 ∨ z32 = 3 ∨ z32 = 4 ∨ z32 = 5 ∨ z32 = 6 ∨ z32 = 7 ∨ z32 = 8 ∨ z32 = 9 ∨ z32 = 10 ∨ z32 = 11 ∨ z32 = 12 ∨ z32 = 13 ∨ z32 = 14 ∨ z32 = 15 ∨ z32 = 16 ∨ z32 = 17 ∨ z32 = 18 ∨ z32 = 19 ∨ z32 = 20 ∨ z32 = 21 ∨ z32 = 22 ∨ (z32 ≠ 0 ∧ z32 ≠ 1 ∧ z32 ≠ 2 ∧ z32 ≠ 3 ∧ z32 ≠ 4 ∧ z32 ≠ 5 ∧ z32 ≠ 6 ∧ z32 ≠ 7 ∧ z32 ≠ 8 ∧ z32 ≠ 9 ∧ z32 ≠ 10 ∧ z32 ≠ 11 ∧ z32 ≠ 12 ∧ z32 ≠ 13 ∧ z32 ≠ 14 ∧ z32 ≠ 15 ∧ z32 ≠ 16 ∧ z32 ≠ 17 ∧ z32 ≠ 18 ∧ z32 ≠ 19 ∧ z32 ≠ 20 ∧ z32 ≠ 21 ∧ z32 ≠ 22) by omega) with c33 | c33 | c33 | c33 | c33 | c33 | c33 | c33 | c33 | c33 | c33 | c33 | c33 | c33 | c33 | c33 | c33 | c33 | c33 | c33 | c33 | c33 | c33 | c33
    · subst c33
      refine V_tswIn (tgt := 140) (off := 107) dL_law_33 (by decide) (by decide) rfl (by decide) ?_
      exact p1_cls hb hLn hL (by omega) N
    · subst c33
      refine V_tswIn (tgt := 189) (off := 156) dL_law_33 (by decide) (by decide) rfl (by decide) ?_
      exact p1_face hb hLn hL (by omega) N
    · subst c33
      refine V_tswIn (tgt := 228) (off := 195) dL_law_33 (by decide) (by decide) rfl (by decide) ?_
      exact p1_under hb hLn hL (by omega) N
    · subst c33
      refine V_tswIn (tgt := 261) (off := 228) dL_law_33 (by decide) (by decide) rfl (by decide) ?_
      exact p1_field hb hLn hL (by omega) N
    · subst c33
      refine V_tswIn (tgt := 330) (off := 297) dL_law_33 (by decide) (by decide) rfl (by decide) ?_
      exact p1_method hb hLn hL (by omega) N
    · subst c33
      refine V_tswIn (tgt := 363) (off := 330) dL_law_33 (by decide) (by decide) rfl (by decide) ?_
      exact p1_act hb hLn hL (by omega) N
    · subst c33
      refine V_tswIn (tgt := 438) (off := 405) dL_law_33 (by decide) (by decide) rfl (by decide) ?_
      exact p1_told hb hLn hL (by omega) N
    · subst c33
      refine V_tswIn (tgt := 471) (off := 438) dL_law_33 (by decide) (by decide) rfl (by decide) ?_
      exact p1_below hb hLn hL (by omega) N
    · subst c33
      refine V_tswIn (tgt := 504) (off := 471) dL_law_33 (by decide) (by decide) rfl (by decide) ?_
      exact p1_found hb hLn hL (by omega) N
    · subst c33
      refine V_tswIn (tgt := 563) (off := 530) dL_law_33 (by decide) (by decide) rfl (by decide) ?_
      exact p1_asks hb hLn hL (by omega) N
    · subst c33
      refine V_tswIn (tgt := 596) (off := 563) dL_law_33 (by decide) (by decide) rfl (by decide) ?_
      exact p1_round hb hLn hL (by omega) N
    · subst c33
      refine V_tswIn (tgt := 619) (off := 586) dL_law_33 (by decide) (by decide) rfl (by decide) ?_
      exact p1_world hb hLn hL (by omega) N
    · subst c33
      refine V_tswIn (tgt := 632) (off := 599) dL_law_33 (by decide) (by decide) rfl (by decide) ?_
      exact p1_gone hb hLn hL (by omega) N
    · subst c33
      refine V_tswIn (tgt := 645) (off := 612) dL_law_33 (by decide) (by decide) rfl (by decide) ?_
      exact p1_touch hb hLn hL (by omega) N
    · subst c33
      refine V_tswIn (tgt := 708) (off := 675) dL_law_33 (by decide) (by decide) rfl (by decide) ?_
      exact p1_foretell hb hLn hL (by omega) N
    · subst c33
      refine V_tswIn (tgt := 771) (off := 738) dL_law_33 (by decide) (by decide) rfl (by decide) ?_
      exact p1_state hb hLn hL (by omega) N
    · subst c33
      refine V_tswIn (tgt := 804) (off := 771) dL_law_33 (by decide) (by decide) rfl (by decide) ?_
      exact p1_began hb hLn hL (by omega) N
    · subst c33
      refine V_tswIn (tgt := 837) (off := 804) dL_law_33 (by decide) (by decide) rfl (by decide) ?_
      exact p1_tape hb hLn hL (by omega) N
    · subst c33
      refine V_tswIn (tgt := 870) (off := 837) dL_law_33 (by decide) (by decide) rfl (by decide) ?_
      exact p1_value hb hLn hL (by omega) N
    · subst c33
      refine V_tswIn (tgt := 913) (off := 880) dL_law_33 (by decide) (by decide) rfl (by decide) ?_
      exact p1_failed hb hLn hL (by omega) N
    · subst c33
      refine V_tswIn (tgt := 946) (off := 913) dL_law_33 (by decide) (by decide) rfl (by decide) ?_
      exact p1_spent hb hLn hL (by omega) N
    · subst c33
      refine V_tswIn (tgt := 979) (off := 946) dL_law_33 (by decide) (by decide) rfl (by decide) ?_
      exact p1_many hb hLn hL (by omega) N
    · subst c33
      refine V_tswIn (tgt := 1012) (off := 979) dL_law_33 (by decide) (by decide) rfl (by decide) ?_
      exact p1_differs hb hLn hL (by omega) N
    · refine V_tswOut (tgt := 1045) dL_law_33 (by omega) (by decide) ?_
      exact p1_tail hb hLn hL (Nat.le_of_ble_eq_true rfl) (Nat.le_of_ble_eq_true rfl)
