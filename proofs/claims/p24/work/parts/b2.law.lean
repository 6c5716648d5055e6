/-! THE LAW: call by call -/
theorem m00 : M0w 12 0 0 = 0 := rfl
theorem m17 : M0w 12 17 0 = 0 := rfl
theorem M0_z {k i : Int} (h : k ≠ 34) (h1 : k ≠ 35) : M0w 12 k i = 0 := if_neg (fun q => by omega)
theorem WFD_0 : WFD (M0w 12) := by
  have z : ∀ k i : Int, k ≠ 34 → k ≠ 35 → M0w 12 k i = 0 := fun k i h h1 => M0_z h h1
  unfold WFD
  rw [m00, m17]
  refine ⟨⟨by decide, by decide⟩, fun t h0 h1 => ?_, fun t h0 h1 => by omega, fun t k h0 h1 => by omega, fun t k h0 h1 => by omega, fun t k l h0 h1 => by omega, fun t k h0 h1 => by omega, fun t k l h0 h1 => by omega, fun b h0 h1 => ?_, fun b j h0 h1 h2 h3 => ?_, fun t h0 h1 => ?_, fun t m h0 h1 h2 h3 => ?_, fun t h0 h1 => by omega, ⟨by decide, by decide⟩, fun t h => ?_⟩
  · rw [z 4 t (by decide) (by decide), z 6 t (by decide) (by decide), z 10 t (by decide) (by decide)]; decide
  · rw [z 12 b (by decide) (by decide)]; decide
  · rw [z 12 b (by decide) (by decide)] at h3; omega
  · rw [z 4 t (by decide) (by decide), z 6 t (by decide) (by decide), z 10 t (by decide) (by decide), z 12 _ (by decide) (by decide)]; decide
  · exact z 12 _ (by decide) (by decide)
  · obtain ⟨c, e, -⟩ := RT.head h
    have := e.1
    have h2 := e.2.1
    rw [m00] at h2
    omega
theorem WFW_0 : WFW (M0w 12) := by
  intro w h0 h1
  rw [M0_z (by decide) (by decide), M0_z (by decide) (by decide)]
  decide
theorem INVL_0 {A A1 : Sh} {B B1 : Mem} (n1 : SbS A B) (n2 : B 100 2 = 0) (n3 : DeN A B) (n4 : WoN 320 A B) (n5 : ∀ i, B 101 i = -1) (hf : ∀ t : Int, (150 ≤ t ∧ t < 320) ∨ 1000 ≤ t → (A t).1 = 0) (hc : ∀ t : Int, 100 ≤ t → A1 t = A t ∧ B1 t = B t) : INVL (1041 * (0 : Nat)) (M0w 12) A1 B1 := by
  have hD : DesR (M0w 12) A B := ⟨n3.1, by rw [m00]; exact n3.2.1.1, fun i a b => by rw [m00] at b; omega, fun i j a b => by rw [m00] at b; omega, fun t nm t0 t1 n0 n1 => Or.inl (n3.2.2.2.1 _ (by omega) (by omega)), fun t ht => hf t (by unfold tk at ht; rw [m00] at ht; omega)⟩
  have hW : WosR (M0w 12) A B := ⟨n4.1, fun t a b => hf t (by omega), 0, by rw [m17]; decide, by decide, fun w a b => by omega, fun w a b => ⟨n5 w, fun t t0 t1 => hf t (by omega)⟩, fun w a b => by rw [m17] at b; omega⟩
  refine ⟨REL_lo WFD_0 WFW_0 hc ⟨hD, ⟨n1, by rw [m17]; exact n2⟩, hW⟩, ⟨WFD_0, WFW_0, fun x a b => by rw [m17] at b; omega, fun x a b => by rw [m17] at b; omega⟩, by omega, by omega⟩
section VLM
variable {Γ : GC} {α0 αC : Sh} {C M : Mem} {ad0 : Ad} {Z : ZT} {R : Room} {own : String} {cc : ByteArray} {nL : Nat} {ret : Option FieldType} {nm : String} {pc q : Nat} {st lv : List AV} {α : Sh} {μ : Mem} {cs sl : Nat}
/-- the law calls the reference -/
theorem VL_callI {idx n d1 mL : Nat} {y : MethodName} {cy : ByteArray} {ry : Option FieldType} {As stk : List AV} {P : Int → Mem → Prop} (hM : MM Γ y cy mL ry d1 As αC C M (mI P)) (hd : decode cc pc = .ok (.invokevirtual idx, 3)) (hp : pc + 3 = q) (ml : MLk own idx y) (mw : MWk y cy mL ry) (im : IMk y) (sk : SLk y) (md : MDk y n) (hci : RX7 = y.cls) (hn : As.length = n) (hstk : stk = As.reverse ++ (3, 0) :: st) (hf : d1 + 1 ≤ R.frames) (hlo : 8 + (mL + 11) + 64 * d1 ≤ R.locals) (hcs : cs ≤ R.cells) (hsl : sl ≤ R.slots) (hcat : catL st ≤ 8)
    (kk : ∀ v M1, inI v → P v M1 → V Γ α0 ad0 Z R own cc nL ret nm q ((0, v) :: st) lv (gα αC) (mm M1 C) cs sl) : V Γ α0 ad0 Z R own cc nL ret nm pc stk lv (gα αC) (mm M C) cs sl := by
  refine V_invV hM hd hp ml mw im sk md (ci := 7) hci (by decide) (by decide) rfl hn hstk hf hlo hcs hsl hcat ?_
  rintro r α1 μ1 he hr ⟨rfl, M1, rfl, v, rfl, hP⟩
  exact kk v M1 (hr _ rfl) hP
/-- a truth out of the script's int -/
theorem V_b01 {x : Int} {p1 p2 p3 : Nat} (h0 : decode cc pc = .ok (.ifCond .eq 7, 3)) (h1 : decode cc p1 = .ok (.iconst 1, 1)) (h2 : decode cc p2 = .ok (.goto 4, 3)) (h3 : decode cc p3 = .ok (.iconst 0, 1)) (e1 : p1 = pc + 3) (e2 : p2 = pc + 4) (e3 : p3 = pc + 7) (eq : q = pc + 8) (k : ∀ b : Int, (0 ≤ b ∧ b ≤ 1) → (b = 1 ↔ x ≠ 0) → V Γ α0 ad0 Z R own cc nL ret nm q ((0, b) :: st) lv α μ cs sl) : V Γ α0 ad0 Z R own cc nL ret nm pc ((0, x) :: st) lv α μ cs sl := by
  refine V_if_eq (q := p1) (tgt := p3) h0 (by omega) (by omega) (fun c => ?_) (fun c => ?_)
  · exact V_iconst (q := q) h3 (by omega) (by decide) (k 0 (by decide) ⟨fun h => absurd h (by decide), fun h => absurd c h⟩)
  · exact V_iconst (q := p2) h1 (by omega) (by decide) (V_goto (tgt := q) h2 (by omega) (k 1 (by decide) ⟨fun _ => c, fun _ => rfl⟩))
end VLM
set_option maxHeartbeats 4000000 in
set_option maxRecDepth 20000 in
theorem law_cls {Γ : GC} {ad0 : Ad} {b L : Nat} {xs : Nat → Int32} (hb : b < g_b Γ) (hLn : L < 2147483648) {i : Int} {n : Nat} (hi : 0 ≤ i ∧ i + 7 ≤ L) (hn : n < 512) {αC : Sh} {C M : Mem} (I : INVL (1041 * n) M (gα αC) (mm M C)) (K : ∀ (αC : Sh) (C M : Mem), INVL (1041 * n + 1041) M (gα αC) (mm M C) → V Γ (fun _ => (0, 0)) ad0 (ZX (g_b Γ) b L xs) room_1 RL code 4 (some .boolean) "law" 1045 [] [(5, (b : Int)), (3, 100), (3, 0), (0, i)] (gα αC) (mm M C) (53 + 8 * n + 8) (23953 + 793 * n + 793)) : V Γ (fun _ => (0, 0)) ad0 (ZX (g_b Γ) b L xs) room_1 RL code 4 (some .boolean) "law" 140 [] [(5, (b : Int)), (3, 100), (3, 0), (0, i)] (gα αC) (mm M C) (53 + 8 * n) (23953 + 793 * n) := by
  refine V_aload_n (q := 141) dL_law_140 rfl rfl rfl ?_
  refine V_aloadR (q := 142) dL_law_141 rfl rfl rfl ?_
  refine V_iload_n (q := 143) dL_law_142 rfl rfl rfl ?_
  refine V_iconst (q := 144) dL_law_143 rfl (by decide) ?_
  refine V_iadd (q := 145) dL_law_144 rfl (by omega) (fun z144 ez144 => ?_)
  refine V_sld (q := 146) dL_law_145 rfl hb hLn (by omega) (fun z145 ez145 rz145 => ?_)
  rw [ez144] at ez145
  refine V_aloadR (q := 147) dL_law_146 rfl rfl rfl ?_
  refine V_iload_n (q := 148) dL_law_147 rfl rfl rfl ?_
  refine V_iconst (q := 149) dL_law_148 rfl (by decide) ?_
  refine V_iadd (q := 150) dL_law_149 rfl (by omega) (fun z149 ez149 => ?_)
  refine V_sld (q := 151) dL_law_150 rfl hb hLn (by omega) (fun z150 ez150 rz150 => ?_)
  rw [ez149] at ez150
  refine V_b01 (q := 159) dL_law_151 dL_law_154 dL_law_155 dL_law_158 rfl rfl rfl rfl (fun b151 rb151 hb151 => ?_)
  refine V_chVi (q := 162) (As := [(0, z145), (0, b151)]) (tX6_cls I.2.1.1 I.1.1 I.1.2.1 rb151) dL_law_159 rfl mlL_13 mw_X6_cls im_X6_cls sl_X6_cls md_X6_cls rfl (by decide) (by decide) (congrArg Prod.fst I.1.2.1.1.1.1) rfl rfl (by decide) (by decide) (show _ ≤ 600000 by omega) (show _ ≤ 7302250 by omega) (Nat.le_of_ble_eq_true rfl) (fun zc rzc A B x h => ?_)
  obtain ⟨lo, hX⟩ := X_cls I h
  obtain ⟨αD, D, rfl, rfl⟩ := lo_g lo
  clear h lo
  refine V_pop (q := 163) dL_law_162 rfl (show (0 : Nat) ≠ 2 by decide) ?_
  refine V_aload_n (q := 164) dL_law_163 rfl rfl rfl ?_
  refine V_aloadR (q := 165) dL_law_164 rfl rfl rfl ?_
  refine V_iload_n (q := 166) dL_law_165 rfl rfl rfl ?_
  refine V_iconst (q := 167) dL_law_166 rfl (by decide) ?_
  refine V_iadd (q := 168) dL_law_167 rfl (by omega) (fun z167 ez167 => ?_)
  refine V_sld (q := 169) dL_law_168 rfl hb hLn (by omega) (fun z168 ez168 rz168 => ?_)
  rw [ez167] at ez168
  refine V_aloadR (q := 170) dL_law_169 rfl rfl rfl ?_
  refine V_iload_n (q := 171) dL_law_170 rfl rfl rfl ?_
  refine V_iconst (q := 172) dL_law_171 rfl (by decide) ?_
  refine V_iadd (q := 173) dL_law_172 rfl (by omega) (fun z172 ez172 => ?_)
  refine V_sld (q := 174) dL_law_173 rfl hb hLn (by omega) (fun z173 ez173 rz173 => ?_)
  rw [ez172] at ez173
  refine V_b01 (q := 182) dL_law_174 dL_law_177 dL_law_178 dL_law_181 rfl rfl rfl rfl (fun b174 rb174 hb174 => ?_)
  obtain rfl : z145 = z168 := by omega
  obtain rfl : b151 = b174 := by omega
  refine VL_callI (q := 185) (As := [(0, z145), (0, b151)]) (tX7_cls I.2.1.1 rb174) dL_law_182 rfl mlL_17 mw_X7_cls im_X7_cls sl_X7_cls md_X7_cls rfl rfl rfl (by decide) (by decide) (show _ ≤ 600000 by omega) (show _ ≤ 7302250 by omega) (Nat.le_of_ble_eq_true rfl) (fun zm M1 rzm hzm => ?_)
  obtain ⟨nx, hE⟩ := hX zm M1 hzm
  have J := nx.iv I.2.2.1 (by omega)
  refine V_pop (q := 186) dL_law_185 rfl (show (0 : Nat) ≠ 2 by decide) ?_
  refine V_goto (tgt := 1045) dL_law_186 (by decide) ?_
  exact V_widen (by omega) (by omega) (K _ _ _ J)
set_option maxHeartbeats 4000000 in
set_option maxRecDepth 20000 in
theorem law_face {Γ : GC} {ad0 : Ad} {b L : Nat} {xs : Nat → Int32} (hb : b < g_b Γ) (hLn : L < 2147483648) {i : Int} {n : Nat} (hi : 0 ≤ i ∧ i + 7 ≤ L) (hn : n < 512) {αC : Sh} {C M : Mem} (I : INVL (1041 * n) M (gα αC) (mm M C)) (K : ∀ (αC : Sh) (C M : Mem), INVL (1041 * n + 1041) M (gα αC) (mm M C) → V Γ (fun _ => (0, 0)) ad0 (ZX (g_b Γ) b L xs) room_1 RL code 4 (some .boolean) "law" 1045 [] [(5, (b : Int)), (3, 100), (3, 0), (0, i)] (gα αC) (mm M C) (53 + 8 * n + 8) (23953 + 793 * n + 793)) : V Γ (fun _ => (0, 0)) ad0 (ZX (g_b Γ) b L xs) room_1 RL code 4 (some .boolean) "law" 189 [] [(5, (b : Int)), (3, 100), (3, 0), (0, i)] (gα αC) (mm M C) (53 + 8 * n) (23953 + 793 * n) := by
  refine V_aload_n (q := 190) dL_law_189 rfl rfl rfl ?_
  refine V_aloadR (q := 191) dL_law_190 rfl rfl rfl ?_
  refine V_iload_n (q := 192) dL_law_191 rfl rfl rfl ?_
  refine V_iconst (q := 193) dL_law_192 rfl (by decide) ?_
  refine V_iadd (q := 194) dL_law_193 rfl (by omega) (fun z193 ez193 => ?_)
  refine V_sld (q := 195) dL_law_194 rfl hb hLn (by omega) (fun z194 ez194 rz194 => ?_)
  rw [ez193] at ez194
  refine V_b01 (q := 203) dL_law_195 dL_law_198 dL_law_199 dL_law_202 rfl rfl rfl rfl (fun b195 rb195 hb195 => ?_)
  refine V_chVi (q := 206) (As := [(0, b195)]) (tX6_face I.2.1.1 I.1.1 I.1.2.1 rb195) dL_law_203 rfl mlL_18 mw_X6_face im_X6_face sl_X6_face md_X6_face rfl (by decide) (by decide) (congrArg Prod.fst I.1.2.1.1.1.1) rfl rfl (by decide) (by decide) (show _ ≤ 600000 by omega) (show _ ≤ 7302250 by omega) (Nat.le_of_ble_eq_true rfl) (fun zc rzc A B x h => ?_)
  obtain ⟨lo, hX⟩ := X_face I h
  obtain ⟨αD, D, rfl, rfl⟩ := lo_g lo
  clear h lo
  refine V_pop (q := 207) dL_law_206 rfl (show (0 : Nat) ≠ 2 by decide) ?_
  refine V_aload_n (q := 208) dL_law_207 rfl rfl rfl ?_
  refine V_aloadR (q := 209) dL_law_208 rfl rfl rfl ?_
  refine V_iload_n (q := 210) dL_law_209 rfl rfl rfl ?_
  refine V_iconst (q := 211) dL_law_210 rfl (by decide) ?_
  refine V_iadd (q := 212) dL_law_211 rfl (by omega) (fun z211 ez211 => ?_)
  refine V_sld (q := 213) dL_law_212 rfl hb hLn (by omega) (fun z212 ez212 rz212 => ?_)
  rw [ez211] at ez212
  refine V_b01 (q := 221) dL_law_213 dL_law_216 dL_law_217 dL_law_220 rfl rfl rfl rfl (fun b213 rb213 hb213 => ?_)
  obtain rfl : b195 = b213 := by omega
  refine VL_callI (q := 224) (As := [(0, b195)]) (tX7_face I.2.1.1 rb213) dL_law_221 rfl mlL_22 mw_X7_face im_X7_face sl_X7_face md_X7_face rfl rfl rfl (by decide) (by decide) (show _ ≤ 600000 by omega) (show _ ≤ 7302250 by omega) (Nat.le_of_ble_eq_true rfl) (fun zm M1 rzm hzm => ?_)
  obtain ⟨nx, hE⟩ := hX zm M1 hzm
  have J := nx.iv I.2.2.1 (by omega)
  refine V_pop (q := 225) dL_law_224 rfl (show (0 : Nat) ≠ 2 by decide) ?_
  refine V_goto (tgt := 1045) dL_law_225 (by decide) ?_
  exact V_widen (by omega) (by omega) (K _ _ _ J)
set_option maxHeartbeats 4000000 in
set_option maxRecDepth 20000 in
theorem law_under {Γ : GC} {ad0 : Ad} {b L : Nat} {xs : Nat → Int32} (hb : b < g_b Γ) (hLn : L < 2147483648) {i : Int} {n : Nat} (hi : 0 ≤ i ∧ i + 7 ≤ L) (hn : n < 512) {αC : Sh} {C M : Mem} (I : INVL (1041 * n) M (gα αC) (mm M C)) (K : ∀ (αC : Sh) (C M : Mem), INVL (1041 * n + 1041) M (gα αC) (mm M C) → V Γ (fun _ => (0, 0)) ad0 (ZX (g_b Γ) b L xs) room_1 RL code 4 (some .boolean) "law" 1045 [] [(5, (b : Int)), (3, 100), (3, 0), (0, i)] (gα αC) (mm M C) (53 + 8 * n + 8) (23953 + 793 * n + 793)) : V Γ (fun _ => (0, 0)) ad0 (ZX (g_b Γ) b L xs) room_1 RL code 4 (some .boolean) "law" 228 [] [(5, (b : Int)), (3, 100), (3, 0), (0, i)] (gα αC) (mm M C) (53 + 8 * n) (23953 + 793 * n) := by
  refine V_aload_n (q := 229) dL_law_228 rfl rfl rfl ?_
  refine V_aloadR (q := 230) dL_law_229 rfl rfl rfl ?_
  refine V_iload_n (q := 231) dL_law_230 rfl rfl rfl ?_
  refine V_iconst (q := 232) dL_law_231 rfl (by decide) ?_
  refine V_iadd (q := 233) dL_law_232 rfl (by omega) (fun z232 ez232 => ?_)
  refine V_sld (q := 234) dL_law_233 rfl hb hLn (by omega) (fun z233 ez233 rz233 => ?_)
  rw [ez232] at ez233
  refine V_aloadR (q := 235) dL_law_234 rfl rfl rfl ?_
  refine V_iload_n (q := 236) dL_law_235 rfl rfl rfl ?_
  refine V_iconst (q := 237) dL_law_236 rfl (by decide) ?_
  refine V_iadd (q := 238) dL_law_237 rfl (by omega) (fun z237 ez237 => ?_)
  refine V_sld (q := 239) dL_law_238 rfl hb hLn (by omega) (fun z238 ez238 rz238 => ?_)
  rw [ez237] at ez238
  refine V_chVi (q := 242) (As := [(0, z233), (0, z238)]) (tX6_under I.2.1.1 I.1.1 I.1.2.1) dL_law_239 rfl mlL_23 mw_X6_under im_X6_under sl_X6_under md_X6_under rfl (by decide) (by decide) (congrArg Prod.fst I.1.2.1.1.1.1) rfl rfl (by decide) (by decide) (show _ ≤ 600000 by omega) (show _ ≤ 7302250 by omega) (Nat.le_of_ble_eq_true rfl) (fun zc rzc A B x h => ?_)
  obtain ⟨lo, hX⟩ := X_under I h
  obtain ⟨αD, D, rfl, rfl⟩ := lo_g lo
  clear h lo
  refine V_pop (q := 243) dL_law_242 rfl (show (0 : Nat) ≠ 2 by decide) ?_
  refine V_aload_n (q := 244) dL_law_243 rfl rfl rfl ?_
  refine V_aloadR (q := 245) dL_law_244 rfl rfl rfl ?_
  refine V_iload_n (q := 246) dL_law_245 rfl rfl rfl ?_
  refine V_iconst (q := 247) dL_law_246 rfl (by decide) ?_
  refine V_iadd (q := 248) dL_law_247 rfl (by omega) (fun z247 ez247 => ?_)
  refine V_sld (q := 249) dL_law_248 rfl hb hLn (by omega) (fun z248 ez248 rz248 => ?_)
  rw [ez247] at ez248
  refine V_aloadR (q := 250) dL_law_249 rfl rfl rfl ?_
  refine V_iload_n (q := 251) dL_law_250 rfl rfl rfl ?_
  refine V_iconst (q := 252) dL_law_251 rfl (by decide) ?_
  refine V_iadd (q := 253) dL_law_252 rfl (by omega) (fun z252 ez252 => ?_)
  refine V_sld (q := 254) dL_law_253 rfl hb hLn (by omega) (fun z253 ez253 rz253 => ?_)
  rw [ez252] at ez253
  obtain rfl : z233 = z248 := by omega
  obtain rfl : z238 = z253 := by omega
  refine VL_callI (q := 257) (As := [(0, z233), (0, z238)]) (tX7_under I.2.1.1) dL_law_254 rfl mlL_27 mw_X7_under im_X7_under sl_X7_under md_X7_under rfl rfl rfl (by decide) (by decide) (show _ ≤ 600000 by omega) (show _ ≤ 7302250 by omega) (Nat.le_of_ble_eq_true rfl) (fun zm M1 rzm hzm => ?_)
  obtain ⟨nx, hE⟩ := hX zm M1 hzm
  have J := nx.iv I.2.2.1 (by omega)
  refine V_pop (q := 258) dL_law_257 rfl (show (0 : Nat) ≠ 2 by decide) ?_
  refine V_goto (tgt := 1045) dL_law_258 (by decide) ?_
  exact V_widen (by omega) (by omega) (K _ _ _ J)
set_option maxHeartbeats 4000000 in
set_option maxRecDepth 20000 in
theorem law_field {Γ : GC} {ad0 : Ad} {b L : Nat} {xs : Nat → Int32} (hb : b < g_b Γ) (hLn : L < 2147483648) {i : Int} {n : Nat} (hi : 0 ≤ i ∧ i + 7 ≤ L) (hn : n < 512) {αC : Sh} {C M : Mem} (I : INVL (1041 * n) M (gα αC) (mm M C)) (K : ∀ (αC : Sh) (C M : Mem), INVL (1041 * n + 1041) M (gα αC) (mm M C) → V Γ (fun _ => (0, 0)) ad0 (ZX (g_b Γ) b L xs) room_1 RL code 4 (some .boolean) "law" 1045 [] [(5, (b : Int)), (3, 100), (3, 0), (0, i)] (gα αC) (mm M C) (53 + 8 * n + 8) (23953 + 793 * n + 793)) : V Γ (fun _ => (0, 0)) ad0 (ZX (g_b Γ) b L xs) room_1 RL code 4 (some .boolean) "law" 261 [] [(5, (b : Int)), (3, 100), (3, 0), (0, i)] (gα αC) (mm M C) (53 + 8 * n) (23953 + 793 * n) := by
  refine V_aload_n (q := 262) dL_law_261 rfl rfl rfl ?_
  refine V_aloadR (q := 263) dL_law_262 rfl rfl rfl ?_
  refine V_iload_n (q := 264) dL_law_263 rfl rfl rfl ?_
  refine V_iconst (q := 265) dL_law_264 rfl (by decide) ?_
  refine V_iadd (q := 266) dL_law_265 rfl (by omega) (fun z265 ez265 => ?_)
  refine V_sld (q := 267) dL_law_266 rfl hb hLn (by omega) (fun z266 ez266 rz266 => ?_)
  rw [ez265] at ez266
  refine V_aloadR (q := 268) dL_law_267 rfl rfl rfl ?_
  refine V_iload_n (q := 269) dL_law_268 rfl rfl rfl ?_
  refine V_iconst (q := 270) dL_law_269 rfl (by decide) ?_
  refine V_iadd (q := 271) dL_law_270 rfl (by omega) (fun z270 ez270 => ?_)
  refine V_sld (q := 272) dL_law_271 rfl hb hLn (by omega) (fun z271 ez271 rz271 => ?_)
  rw [ez270] at ez271
  refine V_aloadR (q := 273) dL_law_272 rfl rfl rfl ?_
  refine V_iload_n (q := 274) dL_law_273 rfl rfl rfl ?_
  refine V_iconst (q := 275) dL_law_274 rfl (by decide) ?_
  refine V_iadd (q := 276) dL_law_275 rfl (by omega) (fun z275 ez275 => ?_)
  refine V_sld (q := 277) dL_law_276 rfl hb hLn (by omega) (fun z276 ez276 rz276 => ?_)
  rw [ez275] at ez276
  refine V_b01 (q := 285) dL_law_277 dL_law_280 dL_law_281 dL_law_284 rfl rfl rfl rfl (fun b277 rb277 hb277 => ?_)
  refine V_aloadR (q := 286) dL_law_285 rfl rfl rfl ?_
  refine V_iload_n (q := 287) dL_law_286 rfl rfl rfl ?_
  refine V_iconst (q := 288) dL_law_287 rfl (by decide) ?_
  refine V_iadd (q := 289) dL_law_288 rfl (by omega) (fun z288 ez288 => ?_)
  refine V_sld (q := 290) dL_law_289 rfl hb hLn (by omega) (fun z289 ez289 rz289 => ?_)
  rw [ez288] at ez289
  refine V_chVi (q := 293) (As := [(0, z266), (0, z271), (0, b277), (0, z289)]) (tX6_field I.2.1.1 I.1.1 I.1.2.1 rb277) dL_law_290 rfl mlL_28 mw_X6_field im_X6_field sl_X6_field md_X6_field rfl (by decide) (by decide) (congrArg Prod.fst I.1.2.1.1.1.1) rfl rfl (by decide) (by decide) (show _ ≤ 600000 by omega) (show _ ≤ 7302250 by omega) (Nat.le_of_ble_eq_true rfl) (fun zc rzc A B x h => ?_)
  obtain ⟨lo, hX⟩ := X_field I h
  obtain ⟨αD, D, rfl, rfl⟩ := lo_g lo
  clear h lo
  refine V_pop (q := 294) dL_law_293 rfl (show (0 : Nat) ≠ 2 by decide) ?_
  refine V_aload_n (q := 295) dL_law_294 rfl rfl rfl ?_
  refine V_aloadR (q := 296) dL_law_295 rfl rfl rfl ?_
  refine V_iload_n (q := 297) dL_law_296 rfl rfl rfl ?_
  refine V_iconst (q := 298) dL_law_297 rfl (by decide) ?_
  refine V_iadd (q := 299) dL_law_298 rfl (by omega) (fun z298 ez298 => ?_)
  refine V_sld (q := 300) dL_law_299 rfl hb hLn (by omega) (fun z299 ez299 rz299 => ?_)
  rw [ez298] at ez299
  refine V_aloadR (q := 301) dL_law_300 rfl rfl rfl ?_
  refine V_iload_n (q := 302) dL_law_301 rfl rfl rfl ?_
  refine V_iconst (q := 303) dL_law_302 rfl (by decide) ?_
  refine V_iadd (q := 304) dL_law_303 rfl (by omega) (fun z303 ez303 => ?_)
  refine V_sld (q := 305) dL_law_304 rfl hb hLn (by omega) (fun z304 ez304 rz304 => ?_)
  rw [ez303] at ez304
  refine V_aloadR (q := 306) dL_law_305 rfl rfl rfl ?_
  refine V_iload_n (q := 307) dL_law_306 rfl rfl rfl ?_
  refine V_iconst (q := 308) dL_law_307 rfl (by decide) ?_
  refine V_iadd (q := 309) dL_law_308 rfl (by omega) (fun z308 ez308 => ?_)
  refine V_sld (q := 310) dL_law_309 rfl hb hLn (by omega) (fun z309 ez309 rz309 => ?_)
  rw [ez308] at ez309
  refine V_b01 (q := 318) dL_law_310 dL_law_313 dL_law_314 dL_law_317 rfl rfl rfl rfl (fun b310 rb310 hb310 => ?_)
  refine V_aloadR (q := 319) dL_law_318 rfl rfl rfl ?_
  refine V_iload_n (q := 320) dL_law_319 rfl rfl rfl ?_
  refine V_iconst (q := 321) dL_law_320 rfl (by decide) ?_
  refine V_iadd (q := 322) dL_law_321 rfl (by omega) (fun z321 ez321 => ?_)
  refine V_sld (q := 323) dL_law_322 rfl hb hLn (by omega) (fun z322 ez322 rz322 => ?_)
  rw [ez321] at ez322
  obtain rfl : z266 = z299 := by omega
  obtain rfl : z271 = z304 := by omega
  obtain rfl : b277 = b310 := by omega
  obtain rfl : z289 = z322 := by omega
  refine VL_callI (q := 326) (As := [(0, z266), (0, z271), (0, b277), (0, z289)]) (tX7_field I.2.1.1 rb310) dL_law_323 rfl mlL_32 mw_X7_field im_X7_field sl_X7_field md_X7_field rfl rfl rfl (by decide) (by decide) (show _ ≤ 600000 by omega) (show _ ≤ 7302250 by omega) (Nat.le_of_ble_eq_true rfl) (fun zm M1 rzm hzm => ?_)
  obtain ⟨nx, hE⟩ := hX zm M1 hzm
  have J := nx.iv I.2.2.1 (by omega)
  refine V_pop (q := 327) dL_law_326 rfl (show (0 : Nat) ≠ 2 by decide) ?_
  refine V_goto (tgt := 1045) dL_law_327 (by decide) ?_
  exact V_widen (by omega) (by omega) (K _ _ _ J)
set_option maxHeartbeats 4000000 in
set_option maxRecDepth 20000 in
theorem law_method {Γ : GC} {ad0 : Ad} {b L : Nat} {xs : Nat → Int32} (hb : b < g_b Γ) (hLn : L < 2147483648) {i : Int} {n : Nat} (hi : 0 ≤ i ∧ i + 7 ≤ L) (hn : n < 512) {αC : Sh} {C M : Mem} (I : INVL (1041 * n) M (gα αC) (mm M C)) (K : ∀ (αC : Sh) (C M : Mem), INVL (1041 * n + 1041) M (gα αC) (mm M C) → V Γ (fun _ => (0, 0)) ad0 (ZX (g_b Γ) b L xs) room_1 RL code 4 (some .boolean) "law" 1045 [] [(5, (b : Int)), (3, 100), (3, 0), (0, i)] (gα αC) (mm M C) (53 + 8 * n + 8) (23953 + 793 * n + 793)) : V Γ (fun _ => (0, 0)) ad0 (ZX (g_b Γ) b L xs) room_1 RL code 4 (some .boolean) "law" 330 [] [(5, (b : Int)), (3, 100), (3, 0), (0, i)] (gα αC) (mm M C) (53 + 8 * n) (23953 + 793 * n) := by
  refine V_aload_n (q := 331) dL_law_330 rfl rfl rfl ?_
  refine V_aloadR (q := 332) dL_law_331 rfl rfl rfl ?_
  refine V_iload_n (q := 333) dL_law_332 rfl rfl rfl ?_
  refine V_iconst (q := 334) dL_law_333 rfl (by decide) ?_
  refine V_iadd (q := 335) dL_law_334 rfl (by omega) (fun z334 ez334 => ?_)
  refine V_sld (q := 336) dL_law_335 rfl hb hLn (by omega) (fun z335 ez335 rz335 => ?_)
  rw [ez334] at ez335
  refine V_aloadR (q := 337) dL_law_336 rfl rfl rfl ?_
  refine V_iload_n (q := 338) dL_law_337 rfl rfl rfl ?_
  refine V_iconst (q := 339) dL_law_338 rfl (by decide) ?_
  refine V_iadd (q := 340) dL_law_339 rfl (by omega) (fun z339 ez339 => ?_)
  refine V_sld (q := 341) dL_law_340 rfl hb hLn (by omega) (fun z340 ez340 rz340 => ?_)
  rw [ez339] at ez340
  refine V_chVi (q := 344) (As := [(0, z335), (0, z340)]) (tX6_method I.2.1.1 I.1.1 I.1.2.1) dL_law_341 rfl mlL_33 mw_X6_method im_X6_method sl_X6_method md_X6_method rfl (by decide) (by decide) (congrArg Prod.fst I.1.2.1.1.1.1) rfl rfl (by decide) (by decide) (show _ ≤ 600000 by omega) (show _ ≤ 7302250 by omega) (Nat.le_of_ble_eq_true rfl) (fun zc rzc A B x h => ?_)
  obtain ⟨lo, hX⟩ := X_method I h
  obtain ⟨αD, D, rfl, rfl⟩ := lo_g lo
  clear h lo
  refine V_pop (q := 345) dL_law_344 rfl (show (0 : Nat) ≠ 2 by decide) ?_
  refine V_aload_n (q := 346) dL_law_345 rfl rfl rfl ?_
  refine V_aloadR (q := 347) dL_law_346 rfl rfl rfl ?_
  refine V_iload_n (q := 348) dL_law_347 rfl rfl rfl ?_
  refine V_iconst (q := 349) dL_law_348 rfl (by decide) ?_
  refine V_iadd (q := 350) dL_law_349 rfl (by omega) (fun z349 ez349 => ?_)
  refine V_sld (q := 351) dL_law_350 rfl hb hLn (by omega) (fun z350 ez350 rz350 => ?_)
  rw [ez349] at ez350
  refine V_aloadR (q := 352) dL_law_351 rfl rfl rfl ?_
  refine V_iload_n (q := 353) dL_law_352 rfl rfl rfl ?_
  refine V_iconst (q := 354) dL_law_353 rfl (by decide) ?_
  refine V_iadd (q := 355) dL_law_354 rfl (by omega) (fun z354 ez354 => ?_)
  refine V_sld (q := 356) dL_law_355 rfl hb hLn (by omega) (fun z355 ez355 rz355 => ?_)
  rw [ez354] at ez355
  obtain rfl : z335 = z350 := by omega
  obtain rfl : z340 = z355 := by omega
  refine VL_callI (q := 359) (As := [(0, z335), (0, z340)]) (tX7_method I.2.1.1) dL_law_356 rfl mlL_36 mw_X7_method im_X7_method sl_X7_method md_X7_method rfl rfl rfl (by decide) (by decide) (show _ ≤ 600000 by omega) (show _ ≤ 7302250 by omega) (Nat.le_of_ble_eq_true rfl) (fun zm M1 rzm hzm => ?_)
  obtain ⟨nx, hE⟩ := hX zm M1 hzm
  have J := nx.iv I.2.2.1 (by omega)
  refine V_pop (q := 360) dL_law_359 rfl (show (0 : Nat) ≠ 2 by decide) ?_
  refine V_goto (tgt := 1045) dL_law_360 (by decide) ?_
  exact V_widen (by omega) (by omega) (K _ _ _ J)
set_option maxHeartbeats 4000000 in
set_option maxRecDepth 20000 in
theorem law_act {Γ : GC} {ad0 : Ad} {b L : Nat} {xs : Nat → Int32} (hb : b < g_b Γ) (hLn : L < 2147483648) {i : Int} {n : Nat} (hi : 0 ≤ i ∧ i + 7 ≤ L) (hn : n < 512) {αC : Sh} {C M : Mem} (I : INVL (1041 * n) M (gα αC) (mm M C)) (K : ∀ (αC : Sh) (C M : Mem), INVL (1041 * n + 1041) M (gα αC) (mm M C) → V Γ (fun _ => (0, 0)) ad0 (ZX (g_b Γ) b L xs) room_1 RL code 4 (some .boolean) "law" 1045 [] [(5, (b : Int)), (3, 100), (3, 0), (0, i)] (gα αC) (mm M C) (53 + 8 * n + 8) (23953 + 793 * n + 793)) : V Γ (fun _ => (0, 0)) ad0 (ZX (g_b Γ) b L xs) room_1 RL code 4 (some .boolean) "law" 363 [] [(5, (b : Int)), (3, 100), (3, 0), (0, i)] (gα αC) (mm M C) (53 + 8 * n) (23953 + 793 * n) := by
  refine V_aload_n (q := 364) dL_law_363 rfl rfl rfl ?_
  refine V_aloadR (q := 365) dL_law_364 rfl rfl rfl ?_
  refine V_iload_n (q := 366) dL_law_365 rfl rfl rfl ?_
  refine V_iconst (q := 367) dL_law_366 rfl (by decide) ?_
  refine V_iadd (q := 368) dL_law_367 rfl (by omega) (fun z367 ez367 => ?_)
  refine V_sld (q := 369) dL_law_368 rfl hb hLn (by omega) (fun z368 ez368 rz368 => ?_)
  rw [ez367] at ez368
  refine V_aloadR (q := 370) dL_law_369 rfl rfl rfl ?_
  refine V_iload_n (q := 371) dL_law_370 rfl rfl rfl ?_
  refine V_iconst (q := 372) dL_law_371 rfl (by decide) ?_
  refine V_iadd (q := 373) dL_law_372 rfl (by omega) (fun z372 ez372 => ?_)
  refine V_sld (q := 374) dL_law_373 rfl hb hLn (by omega) (fun z373 ez373 rz373 => ?_)
  rw [ez372] at ez373
  refine V_aloadR (q := 375) dL_law_374 rfl rfl rfl ?_
  refine V_iload_n (q := 376) dL_law_375 rfl rfl rfl ?_
  refine V_iconst (q := 377) dL_law_376 rfl (by decide) ?_
  refine V_iadd (q := 378) dL_law_377 rfl (by omega) (fun z377 ez377 => ?_)
  refine V_sld (q := 379) dL_law_378 rfl hb hLn (by omega) (fun z378 ez378 rz378 => ?_)
  rw [ez377] at ez378
  refine V_aloadR (q := 380) dL_law_379 rfl rfl rfl ?_
  refine V_iload_n (q := 381) dL_law_380 rfl rfl rfl ?_
  refine V_iconst (q := 382) dL_law_381 rfl (by decide) ?_
  refine V_iadd (q := 383) dL_law_382 rfl (by omega) (fun z382 ez382 => ?_)
  refine V_sld (q := 384) dL_law_383 rfl hb hLn (by omega) (fun z383 ez383 rz383 => ?_)
  rw [ez382] at ez383
  refine V_aloadR (q := 385) dL_law_384 rfl rfl rfl ?_
  refine V_iload_n (q := 386) dL_law_385 rfl rfl rfl ?_
  refine V_iconst (q := 387) dL_law_386 rfl (by decide) ?_
  refine V_iadd (q := 388) dL_law_387 rfl (by omega) (fun z387 ez387 => ?_)
  refine V_sld (q := 389) dL_law_388 rfl hb hLn (by omega) (fun z388 ez388 rz388 => ?_)
  rw [ez387] at ez388
  refine V_aloadR (q := 390) dL_law_389 rfl rfl rfl ?_
  refine V_iload_n (q := 391) dL_law_390 rfl rfl rfl ?_
  refine V_bipush (q := 393) dL_law_391 rfl (by decide) ?_
  refine V_iadd (q := 394) dL_law_393 rfl (by omega) (fun z393 ez393 => ?_)
  refine V_sld (q := 395) dL_law_394 rfl hb hLn (by omega) (fun z394 ez394 rz394 => ?_)
  rw [ez393] at ez394
  refine V_chVi (q := 398) (As := [(0, z368), (0, z373), (0, z378), (0, z383), (0, z388), (0, z394)]) (tX6_act I.2.1.1 I.1.1 I.1.2.1) dL_law_395 rfl mlL_37 mw_X6_act im_X6_act sl_X6_act md_X6_act rfl (by decide) (by decide) (congrArg Prod.fst I.1.2.1.1.1.1) rfl rfl (by decide) (by decide) (show _ ≤ 600000 by omega) (show _ ≤ 7302250 by omega) (Nat.le_of_ble_eq_true rfl) (fun zc rzc A B x h => ?_)
  obtain ⟨lo, hX⟩ := X_act I h
  obtain ⟨αD, D, rfl, rfl⟩ := lo_g lo
  clear h lo
  refine V_pop (q := 399) dL_law_398 rfl (show (0 : Nat) ≠ 2 by decide) ?_
  refine V_aload_n (q := 400) dL_law_399 rfl rfl rfl ?_
  refine V_aloadR (q := 401) dL_law_400 rfl rfl rfl ?_
  refine V_iload_n (q := 402) dL_law_401 rfl rfl rfl ?_
  refine V_iconst (q := 403) dL_law_402 rfl (by decide) ?_
  refine V_iadd (q := 404) dL_law_403 rfl (by omega) (fun z403 ez403 => ?_)
  refine V_sld (q := 405) dL_law_404 rfl hb hLn (by omega) (fun z404 ez404 rz404 => ?_)
  rw [ez403] at ez404
  refine V_aloadR (q := 406) dL_law_405 rfl rfl rfl ?_
  refine V_iload_n (q := 407) dL_law_406 rfl rfl rfl ?_
  refine V_iconst (q := 408) dL_law_407 rfl (by decide) ?_
  refine V_iadd (q := 409) dL_law_408 rfl (by omega) (fun z408 ez408 => ?_)
  refine V_sld (q := 410) dL_law_409 rfl hb hLn (by omega) (fun z409 ez409 rz409 => ?_)
  rw [ez408] at ez409
  refine V_aloadR (q := 411) dL_law_410 rfl rfl rfl ?_
  refine V_iload_n (q := 412) dL_law_411 rfl rfl rfl ?_
  refine V_iconst (q := 413) dL_law_412 rfl (by decide) ?_
  refine V_iadd (q := 414) dL_law_413 rfl (by omega) (fun z413 ez413 => ?_)
  refine V_sld (q := 415) dL_law_414 rfl hb hLn (by omega) (fun z414 ez414 rz414 => ?_)
  rw [ez413] at ez414
  refine V_aloadR (q := 416) dL_law_415 rfl rfl rfl ?_
  refine V_iload_n (q := 417) dL_law_416 rfl rfl rfl ?_
  refine V_iconst (q := 418) dL_law_417 rfl (by decide) ?_
  refine V_iadd (q := 419) dL_law_418 rfl (by omega) (fun z418 ez418 => ?_)
  refine V_sld (q := 420) dL_law_419 rfl hb hLn (by omega) (fun z419 ez419 rz419 => ?_)
  rw [ez418] at ez419
  refine V_aloadR (q := 421) dL_law_420 rfl rfl rfl ?_
  refine V_iload_n (q := 422) dL_law_421 rfl rfl rfl ?_
  refine V_iconst (q := 423) dL_law_422 rfl (by decide) ?_
  refine V_iadd (q := 424) dL_law_423 rfl (by omega) (fun z423 ez423 => ?_)
  refine V_sld (q := 425) dL_law_424 rfl hb hLn (by omega) (fun z424 ez424 rz424 => ?_)
  rw [ez423] at ez424
  refine V_aloadR (q := 426) dL_law_425 rfl rfl rfl ?_
  refine V_iload_n (q := 427) dL_law_426 rfl rfl rfl ?_
  refine V_bipush (q := 429) dL_law_427 rfl (by decide) ?_
  refine V_iadd (q := 430) dL_law_429 rfl (by omega) (fun z429 ez429 => ?_)
  refine V_sld (q := 431) dL_law_430 rfl hb hLn (by omega) (fun z430 ez430 rz430 => ?_)
  rw [ez429] at ez430
  obtain rfl : z368 = z404 := by omega
  obtain rfl : z373 = z409 := by omega
  obtain rfl : z378 = z414 := by omega
  obtain rfl : z383 = z419 := by omega
  obtain rfl : z388 = z424 := by omega
  obtain rfl : z394 = z430 := by omega
  refine VL_callI (q := 434) (As := [(0, z368), (0, z373), (0, z378), (0, z383), (0, z388), (0, z394)]) (tX7_act I.2.1.1) dL_law_431 rfl mlL_41 mw_X7_act im_X7_act sl_X7_act md_X7_act rfl rfl rfl (by decide) (by decide) (show _ ≤ 600000 by omega) (show _ ≤ 7302250 by omega) (Nat.le_of_ble_eq_true rfl) (fun zm M1 rzm hzm => ?_)
  obtain ⟨nx, hE⟩ := hX zm M1 hzm
  have J := nx.iv I.2.2.1 (by omega)
  refine V_pop (q := 435) dL_law_434 rfl (show (0 : Nat) ≠ 2 by decide) ?_
  refine V_goto (tgt := 1045) dL_law_435 (by decide) ?_
  exact V_widen (by omega) (by omega) (K _ _ _ J)
set_option maxHeartbeats 4000000 in
set_option maxRecDepth 20000 in
theorem law_told {Γ : GC} {ad0 : Ad} {b L : Nat} {xs : Nat → Int32} (hb : b < g_b Γ) (hLn : L < 2147483648) {i : Int} {n : Nat} (hi : 0 ≤ i ∧ i + 7 ≤ L) (hn : n < 512) {αC : Sh} {C M : Mem} (I : INVL (1041 * n) M (gα αC) (mm M C)) (K : ∀ (αC : Sh) (C M : Mem), INVL (1041 * n + 1041) M (gα αC) (mm M C) → V Γ (fun _ => (0, 0)) ad0 (ZX (g_b Γ) b L xs) room_1 RL code 4 (some .boolean) "law" 1045 [] [(5, (b : Int)), (3, 100), (3, 0), (0, i)] (gα αC) (mm M C) (53 + 8 * n + 8) (23953 + 793 * n + 793)) : V Γ (fun _ => (0, 0)) ad0 (ZX (g_b Γ) b L xs) room_1 RL code 4 (some .boolean) "law" 438 [] [(5, (b : Int)), (3, 100), (3, 0), (0, i)] (gα αC) (mm M C) (53 + 8 * n) (23953 + 793 * n) := by
  refine V_aload_n (q := 439) dL_law_438 rfl rfl rfl ?_
  refine V_aloadR (q := 440) dL_law_439 rfl rfl rfl ?_
  refine V_iload_n (q := 441) dL_law_440 rfl rfl rfl ?_
  refine V_iconst (q := 442) dL_law_441 rfl (by decide) ?_
  refine V_iadd (q := 443) dL_law_442 rfl (by omega) (fun z442 ez442 => ?_)
  refine V_sld (q := 444) dL_law_443 rfl hb hLn (by omega) (fun z443 ez443 rz443 => ?_)
  rw [ez442] at ez443
  refine V_aloadR (q := 445) dL_law_444 rfl rfl rfl ?_
  refine V_iload_n (q := 446) dL_law_445 rfl rfl rfl ?_
  refine V_iconst (q := 447) dL_law_446 rfl (by decide) ?_
  refine V_iadd (q := 448) dL_law_447 rfl (by omega) (fun z447 ez447 => ?_)
  refine V_sld (q := 449) dL_law_448 rfl hb hLn (by omega) (fun z448 ez448 rz448 => ?_)
  rw [ez447] at ez448
  refine V_chVi (q := 452) (As := [(0, z443), (0, z448)]) (tX6_told I.2.1.1 I.1.1 I.1.2.1) dL_law_449 rfl mlL_42 mw_X6_told im_X6_told sl_X6_told md_X6_told rfl (by decide) (by decide) (congrArg Prod.fst I.1.2.1.1.1.1) rfl rfl (by decide) (by decide) (show _ ≤ 600000 by omega) (show _ ≤ 7302250 by omega) (Nat.le_of_ble_eq_true rfl) (fun zc rzc A B x h => ?_)
  obtain ⟨lo, hX⟩ := X_told I h
  obtain ⟨αD, D, rfl, rfl⟩ := lo_g lo
  clear h lo
  refine V_pop (q := 453) dL_law_452 rfl (show (0 : Nat) ≠ 2 by decide) ?_
  refine V_aload_n (q := 454) dL_law_453 rfl rfl rfl ?_
  refine V_aloadR (q := 455) dL_law_454 rfl rfl rfl ?_
  refine V_iload_n (q := 456) dL_law_455 rfl rfl rfl ?_
  refine V_iconst (q := 457) dL_law_456 rfl (by decide) ?_
  refine V_iadd (q := 458) dL_law_457 rfl (by omega) (fun z457 ez457 => ?_)
  refine V_sld (q := 459) dL_law_458 rfl hb hLn (by omega) (fun z458 ez458 rz458 => ?_)
  rw [ez457] at ez458
  refine V_aloadR (q := 460) dL_law_459 rfl rfl rfl ?_
  refine V_iload_n (q := 461) dL_law_460 rfl rfl rfl ?_
  refine V_iconst (q := 462) dL_law_461 rfl (by decide) ?_
  refine V_iadd (q := 463) dL_law_462 rfl (by omega) (fun z462 ez462 => ?_)
  refine V_sld (q := 464) dL_law_463 rfl hb hLn (by omega) (fun z463 ez463 rz463 => ?_)
  rw [ez462] at ez463
  obtain rfl : z443 = z458 := by omega
  obtain rfl : z448 = z463 := by omega
  refine VL_callI (q := 467) (As := [(0, z443), (0, z448)]) (tX7_told I.2.1.1) dL_law_464 rfl mlL_45 mw_X7_told im_X7_told sl_X7_told md_X7_told rfl rfl rfl (by decide) (by decide) (show _ ≤ 600000 by omega) (show _ ≤ 7302250 by omega) (Nat.le_of_ble_eq_true rfl) (fun zm M1 rzm hzm => ?_)
  obtain ⟨nx, hE⟩ := hX zm M1 hzm
  have J := nx.iv I.2.2.1 (by omega)
  refine V_pop (q := 468) dL_law_467 rfl (show (0 : Nat) ≠ 2 by decide) ?_
  refine V_goto (tgt := 1045) dL_law_468 (by decide) ?_
  exact V_widen (by omega) (by omega) (K _ _ _ J)
set_option maxHeartbeats 4000000 in
set_option maxRecDepth 20000 in
theorem law_below {Γ : GC} {ad0 : Ad} {b L : Nat} {xs : Nat → Int32} (hb : b < g_b Γ) (hLn : L < 2147483648) {i : Int} {n : Nat} (hi : 0 ≤ i ∧ i + 7 ≤ L) (hn : n < 512) {αC : Sh} {C M : Mem} (I : INVL (1041 * n) M (gα αC) (mm M C)) (K : ∀ (αC : Sh) (C M : Mem), INVL (1041 * n + 1041) M (gα αC) (mm M C) → V Γ (fun _ => (0, 0)) ad0 (ZX (g_b Γ) b L xs) room_1 RL code 4 (some .boolean) "law" 1045 [] [(5, (b : Int)), (3, 100), (3, 0), (0, i)] (gα αC) (mm M C) (53 + 8 * n + 8) (23953 + 793 * n + 793)) : V Γ (fun _ => (0, 0)) ad0 (ZX (g_b Γ) b L xs) room_1 RL code 4 (some .boolean) "law" 471 [] [(5, (b : Int)), (3, 100), (3, 0), (0, i)] (gα αC) (mm M C) (53 + 8 * n) (23953 + 793 * n) := by
  refine V_aload_n (q := 472) dL_law_471 rfl rfl rfl ?_
  refine V_aloadR (q := 473) dL_law_472 rfl rfl rfl ?_
  refine V_iload_n (q := 474) dL_law_473 rfl rfl rfl ?_
  refine V_iconst (q := 475) dL_law_474 rfl (by decide) ?_
  refine V_iadd (q := 476) dL_law_475 rfl (by omega) (fun z475 ez475 => ?_)
  refine V_sld (q := 477) dL_law_476 rfl hb hLn (by omega) (fun z476 ez476 rz476 => ?_)
  rw [ez475] at ez476
  refine V_aloadR (q := 478) dL_law_477 rfl rfl rfl ?_
  refine V_iload_n (q := 479) dL_law_478 rfl rfl rfl ?_
  refine V_iconst (q := 480) dL_law_479 rfl (by decide) ?_
  refine V_iadd (q := 481) dL_law_480 rfl (by omega) (fun z480 ez480 => ?_)
  refine V_sld (q := 482) dL_law_481 rfl hb hLn (by omega) (fun z481 ez481 rz481 => ?_)
  rw [ez480] at ez481
  refine V_chVi (q := 485) (As := [(0, z476), (0, z481)]) (tX6_below I.2.1.1 I.1.1 I.1.2.1) dL_law_482 rfl mlL_46 mw_X6_below im_X6_below sl_X6_below md_X6_below rfl (by decide) (by decide) (congrArg Prod.fst I.1.2.1.1.1.1) rfl rfl (by decide) (by decide) (show _ ≤ 600000 by omega) (show _ ≤ 7302250 by omega) (Nat.le_of_ble_eq_true rfl) (fun zc rzc A B x h => ?_)
  obtain ⟨lo, hX⟩ := X_below I h
  obtain ⟨αD, D, rfl, rfl⟩ := lo_g lo
  clear h lo
  refine V_pop (q := 486) dL_law_485 rfl (show (0 : Nat) ≠ 2 by decide) ?_
  refine V_aload_n (q := 487) dL_law_486 rfl rfl rfl ?_
  refine V_aloadR (q := 488) dL_law_487 rfl rfl rfl ?_
  refine V_iload_n (q := 489) dL_law_488 rfl rfl rfl ?_
  refine V_iconst (q := 490) dL_law_489 rfl (by decide) ?_
  refine V_iadd (q := 491) dL_law_490 rfl (by omega) (fun z490 ez490 => ?_)
  refine V_sld (q := 492) dL_law_491 rfl hb hLn (by omega) (fun z491 ez491 rz491 => ?_)
  rw [ez490] at ez491
  refine V_aloadR (q := 493) dL_law_492 rfl rfl rfl ?_
  refine V_iload_n (q := 494) dL_law_493 rfl rfl rfl ?_
  refine V_iconst (q := 495) dL_law_494 rfl (by decide) ?_
  refine V_iadd (q := 496) dL_law_495 rfl (by omega) (fun z495 ez495 => ?_)
  refine V_sld (q := 497) dL_law_496 rfl hb hLn (by omega) (fun z496 ez496 rz496 => ?_)
  rw [ez495] at ez496
  obtain rfl : z476 = z491 := by omega
  obtain rfl : z481 = z496 := by omega
  refine VL_callI (q := 500) (As := [(0, z476), (0, z481)]) (tX7_below I.2.1.1) dL_law_497 rfl mlL_49 mw_X7_below im_X7_below sl_X7_below md_X7_below rfl rfl rfl (by decide) (by decide) (show _ ≤ 600000 by omega) (show _ ≤ 7302250 by omega) (Nat.le_of_ble_eq_true rfl) (fun zm M1 rzm hzm => ?_)
  obtain ⟨nx, hE⟩ := hX zm M1 hzm
  have J := nx.iv I.2.2.1 (by omega)
  refine V_pop (q := 501) dL_law_500 rfl (show (0 : Nat) ≠ 2 by decide) ?_
  refine V_goto (tgt := 1045) dL_law_501 (by decide) ?_
  exact V_widen (by omega) (by omega) (K _ _ _ J)
set_option maxHeartbeats 4000000 in
set_option maxRecDepth 20000 in
theorem law_found {Γ : GC} {ad0 : Ad} {b L : Nat} {xs : Nat → Int32} (hb : b < g_b Γ) (hLn : L < 2147483648) {i : Int} {n : Nat} (hi : 0 ≤ i ∧ i + 7 ≤ L) (hn : n < 512) {αC : Sh} {C M : Mem} (I : INVL (1041 * n) M (gα αC) (mm M C)) (K : ∀ (αC : Sh) (C M : Mem), INVL (1041 * n + 1041) M (gα αC) (mm M C) → V Γ (fun _ => (0, 0)) ad0 (ZX (g_b Γ) b L xs) room_1 RL code 4 (some .boolean) "law" 1045 [] [(5, (b : Int)), (3, 100), (3, 0), (0, i)] (gα αC) (mm M C) (53 + 8 * n + 8) (23953 + 793 * n + 793)) : V Γ (fun _ => (0, 0)) ad0 (ZX (g_b Γ) b L xs) room_1 RL code 4 (some .boolean) "law" 504 [] [(5, (b : Int)), (3, 100), (3, 0), (0, i)] (gα αC) (mm M C) (53 + 8 * n) (23953 + 793 * n) := by
  refine V_aload_n (q := 505) dL_law_504 rfl rfl rfl ?_
  refine V_aloadR (q := 506) dL_law_505 rfl rfl rfl ?_
  refine V_iload_n (q := 507) dL_law_506 rfl rfl rfl ?_
  refine V_iconst (q := 508) dL_law_507 rfl (by decide) ?_
  refine V_iadd (q := 509) dL_law_508 rfl (by omega) (fun z508 ez508 => ?_)
  refine V_sld (q := 510) dL_law_509 rfl hb hLn (by omega) (fun z509 ez509 rz509 => ?_)
  rw [ez508] at ez509
  refine V_aloadR (q := 511) dL_law_510 rfl rfl rfl ?_
  refine V_iload_n (q := 512) dL_law_511 rfl rfl rfl ?_
  refine V_iconst (q := 513) dL_law_512 rfl (by decide) ?_
  refine V_iadd (q := 514) dL_law_513 rfl (by omega) (fun z513 ez513 => ?_)
  refine V_sld (q := 515) dL_law_514 rfl hb hLn (by omega) (fun z514 ez514 rz514 => ?_)
  rw [ez513] at ez514
  refine V_aloadR (q := 516) dL_law_515 rfl rfl rfl ?_
  refine V_iload_n (q := 517) dL_law_516 rfl rfl rfl ?_
  refine V_iconst (q := 518) dL_law_517 rfl (by decide) ?_
  refine V_iadd (q := 519) dL_law_518 rfl (by omega) (fun z518 ez518 => ?_)
  refine V_sld (q := 520) dL_law_519 rfl hb hLn (by omega) (fun z519 ez519 rz519 => ?_)
  rw [ez518] at ez519
  refine V_b01 (q := 528) dL_law_520 dL_law_523 dL_law_524 dL_law_527 rfl rfl rfl rfl (fun b520 rb520 hb520 => ?_)
  refine V_chVi (q := 531) (As := [(0, z509), (0, z514), (0, b520)]) (tX6_found I.2.1.1 I.1.1 I.1.2.1) dL_law_528 rfl mlL_50 mw_X6_found im_X6_found sl_X6_found md_X6_found rfl (by decide) (by decide) (congrArg Prod.fst I.1.2.1.1.1.1) rfl rfl (by decide) (by decide) (show _ ≤ 600000 by omega) (show _ ≤ 7302250 by omega) (Nat.le_of_ble_eq_true rfl) (fun zc rzc A B x h => ?_)
  obtain ⟨lo, hX⟩ := X_found I h
  obtain ⟨αD, D, rfl, rfl⟩ := lo_g lo
  clear h lo
  refine V_pop (q := 532) dL_law_531 rfl (show (0 : Nat) ≠ 2 by decide) ?_
  refine V_aload_n (q := 533) dL_law_532 rfl rfl rfl ?_
  refine V_aloadR (q := 534) dL_law_533 rfl rfl rfl ?_
  refine V_iload_n (q := 535) dL_law_534 rfl rfl rfl ?_
  refine V_iconst (q := 536) dL_law_535 rfl (by decide) ?_
  refine V_iadd (q := 537) dL_law_536 rfl (by omega) (fun z536 ez536 => ?_)
  refine V_sld (q := 538) dL_law_537 rfl hb hLn (by omega) (fun z537 ez537 rz537 => ?_)
  rw [ez536] at ez537
  refine V_aloadR (q := 539) dL_law_538 rfl rfl rfl ?_
  refine V_iload_n (q := 540) dL_law_539 rfl rfl rfl ?_
  refine V_iconst (q := 541) dL_law_540 rfl (by decide) ?_
  refine V_iadd (q := 542) dL_law_541 rfl (by omega) (fun z541 ez541 => ?_)
  refine V_sld (q := 543) dL_law_542 rfl hb hLn (by omega) (fun z542 ez542 rz542 => ?_)
  rw [ez541] at ez542
  refine V_aloadR (q := 544) dL_law_543 rfl rfl rfl ?_
  refine V_iload_n (q := 545) dL_law_544 rfl rfl rfl ?_
  refine V_iconst (q := 546) dL_law_545 rfl (by decide) ?_
  refine V_iadd (q := 547) dL_law_546 rfl (by omega) (fun z546 ez546 => ?_)
  refine V_sld (q := 548) dL_law_547 rfl hb hLn (by omega) (fun z547 ez547 rz547 => ?_)
  rw [ez546] at ez547
  refine V_b01 (q := 556) dL_law_548 dL_law_551 dL_law_552 dL_law_555 rfl rfl rfl rfl (fun b548 rb548 hb548 => ?_)
  obtain rfl : z509 = z537 := by omega
  obtain rfl : z514 = z542 := by omega
  obtain rfl : b520 = b548 := by omega
  refine VL_callI (q := 559) (As := [(0, z509), (0, z514), (0, b520)]) (tX7_found I.2.1.1) dL_law_556 rfl mlL_54 mw_X7_found im_X7_found sl_X7_found md_X7_found rfl rfl rfl (by decide) (by decide) (show _ ≤ 600000 by omega) (show _ ≤ 7302250 by omega) (Nat.le_of_ble_eq_true rfl) (fun zm M1 rzm hzm => ?_)
  obtain ⟨nx, hE⟩ := hX zm M1 hzm
  have J := nx.iv I.2.2.1 (by omega)
  refine V_pop (q := 560) dL_law_559 rfl (show (0 : Nat) ≠ 2 by decide) ?_
  refine V_goto (tgt := 1045) dL_law_560 (by decide) ?_
  exact V_widen (by omega) (by omega) (K _ _ _ J)
set_option maxHeartbeats 4000000 in
set_option maxRecDepth 20000 in
theorem law_asks {Γ : GC} {ad0 : Ad} {b L : Nat} {xs : Nat → Int32} (hb : b < g_b Γ) (hLn : L < 2147483648) {i : Int} {n : Nat} (hi : 0 ≤ i ∧ i + 7 ≤ L) (hn : n < 512) {αC : Sh} {C M : Mem} (I : INVL (1041 * n) M (gα αC) (mm M C)) (K : ∀ (αC : Sh) (C M : Mem), INVL (1041 * n + 1041) M (gα αC) (mm M C) → V Γ (fun _ => (0, 0)) ad0 (ZX (g_b Γ) b L xs) room_1 RL code 4 (some .boolean) "law" 1045 [] [(5, (b : Int)), (3, 100), (3, 0), (0, i)] (gα αC) (mm M C) (53 + 8 * n + 8) (23953 + 793 * n + 793)) : V Γ (fun _ => (0, 0)) ad0 (ZX (g_b Γ) b L xs) room_1 RL code 4 (some .boolean) "law" 563 [] [(5, (b : Int)), (3, 100), (3, 0), (0, i)] (gα αC) (mm M C) (53 + 8 * n) (23953 + 793 * n) := by
  refine V_aload_n (q := 564) dL_law_563 rfl rfl rfl ?_
  refine V_aloadR (q := 565) dL_law_564 rfl rfl rfl ?_
  refine V_iload_n (q := 566) dL_law_565 rfl rfl rfl ?_
  refine V_iconst (q := 567) dL_law_566 rfl (by decide) ?_
  refine V_iadd (q := 568) dL_law_567 rfl (by omega) (fun z567 ez567 => ?_)
  refine V_sld (q := 569) dL_law_568 rfl hb hLn (by omega) (fun z568 ez568 rz568 => ?_)
  rw [ez567] at ez568
  refine V_aloadR (q := 570) dL_law_569 rfl rfl rfl ?_
  refine V_iload_n (q := 571) dL_law_570 rfl rfl rfl ?_
  refine V_iconst (q := 572) dL_law_571 rfl (by decide) ?_
  refine V_iadd (q := 573) dL_law_572 rfl (by omega) (fun z572 ez572 => ?_)
  refine V_sld (q := 574) dL_law_573 rfl hb hLn (by omega) (fun z573 ez573 rz573 => ?_)
  rw [ez572] at ez573
  refine V_chVi (q := 577) (As := [(0, z568), (0, z573)]) (tX6_asks I.2.1.1 I.1.1 I.1.2.1) dL_law_574 rfl mlL_55 mw_X6_asks im_X6_asks sl_X6_asks md_X6_asks rfl (by decide) (by decide) (congrArg Prod.fst I.1.2.1.1.1.1) rfl rfl (by decide) (by decide) (show _ ≤ 600000 by omega) (show _ ≤ 7302250 by omega) (Nat.le_of_ble_eq_true rfl) (fun zc rzc A B x h => ?_)
  obtain ⟨lo, hX⟩ := X_asks I h
  obtain ⟨αD, D, rfl, rfl⟩ := lo_g lo
  clear h lo
  refine V_pop (q := 578) dL_law_577 rfl (show (0 : Nat) ≠ 2 by decide) ?_
  refine V_aload_n (q := 579) dL_law_578 rfl rfl rfl ?_
  refine V_aloadR (q := 580) dL_law_579 rfl rfl rfl ?_
  refine V_iload_n (q := 581) dL_law_580 rfl rfl rfl ?_
  refine V_iconst (q := 582) dL_law_581 rfl (by decide) ?_
  refine V_iadd (q := 583) dL_law_582 rfl (by omega) (fun z582 ez582 => ?_)
  refine V_sld (q := 584) dL_law_583 rfl hb hLn (by omega) (fun z583 ez583 rz583 => ?_)
  rw [ez582] at ez583
  refine V_aloadR (q := 585) dL_law_584 rfl rfl rfl ?_
  refine V_iload_n (q := 586) dL_law_585 rfl rfl rfl ?_
  refine V_iconst (q := 587) dL_law_586 rfl (by decide) ?_
  refine V_iadd (q := 588) dL_law_587 rfl (by omega) (fun z587 ez587 => ?_)
  refine V_sld (q := 589) dL_law_588 rfl hb hLn (by omega) (fun z588 ez588 rz588 => ?_)
  rw [ez587] at ez588
  obtain rfl : z568 = z583 := by omega
  obtain rfl : z573 = z588 := by omega
  refine VL_callI (q := 592) (As := [(0, z568), (0, z573)]) (tX7_asks I.2.1.1) dL_law_589 rfl mlL_58 mw_X7_asks im_X7_asks sl_X7_asks md_X7_asks rfl rfl rfl (by decide) (by decide) (show _ ≤ 600000 by omega) (show _ ≤ 7302250 by omega) (Nat.le_of_ble_eq_true rfl) (fun zm M1 rzm hzm => ?_)
  obtain ⟨nx, hE⟩ := hX zm M1 hzm
  have J := nx.iv I.2.2.1 (by omega)
  refine V_pop (q := 593) dL_law_592 rfl (show (0 : Nat) ≠ 2 by decide) ?_
  refine V_goto (tgt := 1045) dL_law_593 (by decide) ?_
  exact V_widen (by omega) (by omega) (K _ _ _ J)
set_option maxHeartbeats 4000000 in
set_option maxRecDepth 20000 in
theorem law_round {Γ : GC} {ad0 : Ad} {b L : Nat} {xs : Nat → Int32} (hb : b < g_b Γ) (hLn : L < 2147483648) {i : Int} {n : Nat} (hi : 0 ≤ i ∧ i + 7 ≤ L) (hn : n < 512) {αC : Sh} {C M : Mem} (I : INVL (1041 * n) M (gα αC) (mm M C)) (K : ∀ (αC : Sh) (C M : Mem), INVL (1041 * n + 1041) M (gα αC) (mm M C) → V Γ (fun _ => (0, 0)) ad0 (ZX (g_b Γ) b L xs) room_1 RL code 4 (some .boolean) "law" 1045 [] [(5, (b : Int)), (3, 100), (3, 0), (0, i)] (gα αC) (mm M C) (53 + 8 * n + 8) (23953 + 793 * n + 793)) : V Γ (fun _ => (0, 0)) ad0 (ZX (g_b Γ) b L xs) room_1 RL code 4 (some .boolean) "law" 596 [] [(5, (b : Int)), (3, 100), (3, 0), (0, i)] (gα αC) (mm M C) (53 + 8 * n) (23953 + 793 * n) := by
  refine V_aload_n (q := 597) dL_law_596 rfl rfl rfl ?_
  refine V_aloadR (q := 598) dL_law_597 rfl rfl rfl ?_
  refine V_iload_n (q := 599) dL_law_598 rfl rfl rfl ?_
  refine V_iconst (q := 600) dL_law_599 rfl (by decide) ?_
  refine V_iadd (q := 601) dL_law_600 rfl (by omega) (fun z600 ez600 => ?_)
  refine V_sld (q := 602) dL_law_601 rfl hb hLn (by omega) (fun z601 ez601 rz601 => ?_)
  rw [ez600] at ez601
  refine V_chVi (q := 605) (As := [(0, z601)]) (tX6_round I.2.1.1 I.1.1 I.1.2.1) dL_law_602 rfl mlL_59 mw_X6_round im_X6_round sl_X6_round md_X6_round rfl (by decide) (by decide) (congrArg Prod.fst I.1.2.1.1.1.1) rfl rfl (by decide) (by decide) (show _ ≤ 600000 by omega) (show _ ≤ 7302250 by omega) (Nat.le_of_ble_eq_true rfl) (fun zc rzc A B x h => ?_)
  obtain ⟨lo, hX⟩ := X_round I h
  obtain ⟨αD, D, rfl, rfl⟩ := lo_g lo
  clear h lo
  refine V_pop (q := 606) dL_law_605 rfl (show (0 : Nat) ≠ 2 by decide) ?_
  refine V_aload_n (q := 607) dL_law_606 rfl rfl rfl ?_
  refine V_aloadR (q := 608) dL_law_607 rfl rfl rfl ?_
  refine V_iload_n (q := 609) dL_law_608 rfl rfl rfl ?_
  refine V_iconst (q := 610) dL_law_609 rfl (by decide) ?_
  refine V_iadd (q := 611) dL_law_610 rfl (by omega) (fun z610 ez610 => ?_)
  refine V_sld (q := 612) dL_law_611 rfl hb hLn (by omega) (fun z611 ez611 rz611 => ?_)
  rw [ez610] at ez611
  obtain rfl : z601 = z611 := by omega
  refine VL_callI (q := 615) (As := [(0, z601)]) (tX7_round I.2.1.1) dL_law_612 rfl mlL_63 mw_X7_round im_X7_round sl_X7_round md_X7_round rfl rfl rfl (by decide) (by decide) (show _ ≤ 600000 by omega) (show _ ≤ 7302250 by omega) (Nat.le_of_ble_eq_true rfl) (fun zm M1 rzm hzm => ?_)
  obtain ⟨nx, hE⟩ := hX zm M1 hzm
  have J := nx.iv I.2.2.1 (by omega)
  refine V_pop (q := 616) dL_law_615 rfl (show (0 : Nat) ≠ 2 by decide) ?_
  refine V_goto (tgt := 1045) dL_law_616 (by decide) ?_
  exact V_widen (by omega) (by omega) (K _ _ _ J)
set_option maxHeartbeats 4000000 in
set_option maxRecDepth 20000 in
theorem law_world {Γ : GC} {ad0 : Ad} {b L : Nat} {xs : Nat → Int32} (hb : b < g_b Γ) (hLn : L < 2147483648) {i : Int} {n : Nat} (hi : 0 ≤ i ∧ i + 7 ≤ L) (hn : n < 512) {αC : Sh} {C M : Mem} (I : INVL (1041 * n) M (gα αC) (mm M C)) (K : ∀ (αC : Sh) (C M : Mem), INVL (1041 * n + 1041) M (gα αC) (mm M C) → V Γ (fun _ => (0, 0)) ad0 (ZX (g_b Γ) b L xs) room_1 RL code 4 (some .boolean) "law" 1045 [] [(5, (b : Int)), (3, 100), (3, 0), (0, i)] (gα αC) (mm M C) (53 + 8 * n + 8) (23953 + 793 * n + 793)) : V Γ (fun _ => (0, 0)) ad0 (ZX (g_b Γ) b L xs) room_1 RL code 4 (some .boolean) "law" 619 [] [(5, (b : Int)), (3, 100), (3, 0), (0, i)] (gα αC) (mm M C) (53 + 8 * n) (23953 + 793 * n) := by
  refine V_aload_n (q := 620) dL_law_619 rfl rfl rfl ?_
  refine V_chVi (q := 623) (As := []) (tX6_world I.2.1.1 I.1.1 I.1.2.1 I.1.2.2 I.2.1.2.1) dL_law_620 rfl mlL_64 mw_X6_world im_X6_world sl_X6_world md_X6_world rfl (by decide) (by decide) (congrArg Prod.fst I.1.2.1.1.1.1) rfl rfl (by decide) (by decide) (show _ ≤ 600000 by omega) (show _ ≤ 7302250 by omega) (Nat.le_of_ble_eq_true rfl) (fun zc rzc A B x h => ?_)
  obtain ⟨lo, hX⟩ := X_world I h
  obtain ⟨αD, D, rfl, rfl⟩ := lo_g lo
  clear h lo
  refine V_pop (q := 624) dL_law_623 rfl (show (0 : Nat) ≠ 2 by decide) ?_
  refine V_aload_n (q := 625) dL_law_624 rfl rfl rfl ?_
  refine VL_callI (q := 628) (As := []) (tX7_world I.2.1.1) dL_law_625 rfl mlL_68 mw_X7_world im_X7_world sl_X7_world md_X7_world rfl rfl rfl (by decide) (by decide) (show _ ≤ 600000 by omega) (show _ ≤ 7302250 by omega) (Nat.le_of_ble_eq_true rfl) (fun zm M1 rzm hzm => ?_)
  obtain ⟨nx, hE⟩ := hX zm M1 hzm
  have J := nx.iv I.2.2.1 (by omega)
  refine V_pop (q := 629) dL_law_628 rfl (show (0 : Nat) ≠ 2 by decide) ?_
  refine V_goto (tgt := 1045) dL_law_629 (by decide) ?_
  exact V_widen (by omega) (by omega) (K _ _ _ J)
set_option maxHeartbeats 4000000 in
set_option maxRecDepth 20000 in
theorem law_gone {Γ : GC} {ad0 : Ad} {b L : Nat} {xs : Nat → Int32} (hb : b < g_b Γ) (hLn : L < 2147483648) {i : Int} {n : Nat} (hi : 0 ≤ i ∧ i + 7 ≤ L) (hn : n < 512) {αC : Sh} {C M : Mem} (I : INVL (1041 * n) M (gα αC) (mm M C)) (K : ∀ (αC : Sh) (C M : Mem), INVL (1041 * n + 1041) M (gα αC) (mm M C) → V Γ (fun _ => (0, 0)) ad0 (ZX (g_b Γ) b L xs) room_1 RL code 4 (some .boolean) "law" 1045 [] [(5, (b : Int)), (3, 100), (3, 0), (0, i)] (gα αC) (mm M C) (53 + 8 * n + 8) (23953 + 793 * n + 793)) : V Γ (fun _ => (0, 0)) ad0 (ZX (g_b Γ) b L xs) room_1 RL code 4 (some .boolean) "law" 632 [] [(5, (b : Int)), (3, 100), (3, 0), (0, i)] (gα αC) (mm M C) (53 + 8 * n) (23953 + 793 * n) := by
  refine V_aload_n (q := 633) dL_law_632 rfl rfl rfl ?_
  refine V_chVi (q := 636) (As := []) (tX6_gone I.2.1.1 I.1.1 I.1.2.1) dL_law_633 rfl mlL_69 mw_X6_gone im_X6_gone sl_X6_gone md_X6_gone rfl (by decide) (by decide) (congrArg Prod.fst I.1.2.1.1.1.1) rfl rfl (by decide) (by decide) (show _ ≤ 600000 by omega) (show _ ≤ 7302250 by omega) (Nat.le_of_ble_eq_true rfl) (fun zc rzc A B x h => ?_)
  obtain ⟨lo, hX⟩ := X_gone I h
  obtain ⟨αD, D, rfl, rfl⟩ := lo_g lo
  clear h lo
  refine V_pop (q := 637) dL_law_636 rfl (show (0 : Nat) ≠ 2 by decide) ?_
  refine V_aload_n (q := 638) dL_law_637 rfl rfl rfl ?_
  refine VL_callI (q := 641) (As := []) (tX7_gone) dL_law_638 rfl mlL_72 mw_X7_gone im_X7_gone sl_X7_gone md_X7_gone rfl rfl rfl (by decide) (by decide) (show _ ≤ 600000 by omega) (show _ ≤ 7302250 by omega) (Nat.le_of_ble_eq_true rfl) (fun zm M1 rzm hzm => ?_)
  obtain ⟨nx, hE⟩ := hX zm M1 hzm
  have J := nx.iv I.2.2.1 (by omega)
  refine V_pop (q := 642) dL_law_641 rfl (show (0 : Nat) ≠ 2 by decide) ?_
  refine V_goto (tgt := 1045) dL_law_642 (by decide) ?_
  exact V_widen (by omega) (by omega) (K _ _ _ J)
set_option maxHeartbeats 4000000 in
set_option maxRecDepth 20000 in
theorem law_touch {Γ : GC} {ad0 : Ad} {b L : Nat} {xs : Nat → Int32} (hb : b < g_b Γ) (hLn : L < 2147483648) {i : Int} {n : Nat} (hi : 0 ≤ i ∧ i + 7 ≤ L) (hn : n < 512) {αC : Sh} {C M : Mem} (I : INVL (1041 * n) M (gα αC) (mm M C)) (K : ∀ (αC : Sh) (C M : Mem), INVL (1041 * n + 1041) M (gα αC) (mm M C) → V Γ (fun _ => (0, 0)) ad0 (ZX (g_b Γ) b L xs) room_1 RL code 4 (some .boolean) "law" 1045 [] [(5, (b : Int)), (3, 100), (3, 0), (0, i)] (gα αC) (mm M C) (53 + 8 * n + 8) (23953 + 793 * n + 793)) : V Γ (fun _ => (0, 0)) ad0 (ZX (g_b Γ) b L xs) room_1 RL code 4 (some .boolean) "law" 645 [] [(5, (b : Int)), (3, 100), (3, 0), (0, i)] (gα αC) (mm M C) (53 + 8 * n) (23953 + 793 * n) := by
  refine V_aload_n (q := 646) dL_law_645 rfl rfl rfl ?_
  refine V_aloadR (q := 647) dL_law_646 rfl rfl rfl ?_
  refine V_iload_n (q := 648) dL_law_647 rfl rfl rfl ?_
  refine V_iconst (q := 649) dL_law_648 rfl (by decide) ?_
  refine V_iadd (q := 650) dL_law_649 rfl (by omega) (fun z649 ez649 => ?_)
  refine V_sld (q := 651) dL_law_650 rfl hb hLn (by omega) (fun z650 ez650 rz650 => ?_)
  rw [ez649] at ez650
  refine V_aloadR (q := 652) dL_law_651 rfl rfl rfl ?_
  refine V_iload_n (q := 653) dL_law_652 rfl rfl rfl ?_
  refine V_iconst (q := 654) dL_law_653 rfl (by decide) ?_
  refine V_iadd (q := 655) dL_law_654 rfl (by omega) (fun z654 ez654 => ?_)
  refine V_sld (q := 656) dL_law_655 rfl hb hLn (by omega) (fun z655 ez655 rz655 => ?_)
  rw [ez654] at ez655
  refine V_aloadR (q := 657) dL_law_656 rfl rfl rfl ?_
  refine V_iload_n (q := 658) dL_law_657 rfl rfl rfl ?_
  refine V_iconst (q := 659) dL_law_658 rfl (by decide) ?_
  refine V_iadd (q := 660) dL_law_659 rfl (by omega) (fun z659 ez659 => ?_)
  refine V_sld (q := 661) dL_law_660 rfl hb hLn (by omega) (fun z660 ez660 rz660 => ?_)
  rw [ez659] at ez660
  refine V_aloadR (q := 662) dL_law_661 rfl rfl rfl ?_
  refine V_iload_n (q := 663) dL_law_662 rfl rfl rfl ?_
  refine V_iconst (q := 664) dL_law_663 rfl (by decide) ?_
  refine V_iadd (q := 665) dL_law_664 rfl (by omega) (fun z664 ez664 => ?_)
  refine V_sld (q := 666) dL_law_665 rfl hb hLn (by omega) (fun z665 ez665 rz665 => ?_)
  rw [ez664] at ez665
  refine V_aloadR (q := 667) dL_law_666 rfl rfl rfl ?_
  refine V_iload_n (q := 668) dL_law_667 rfl rfl rfl ?_
  refine V_iconst (q := 669) dL_law_668 rfl (by decide) ?_
  refine V_iadd (q := 670) dL_law_669 rfl (by omega) (fun z669 ez669 => ?_)
  refine V_sld (q := 671) dL_law_670 rfl hb hLn (by omega) (fun z670 ez670 rz670 => ?_)
  rw [ez669] at ez670
  refine V_chVi (q := 674) (As := [(0, z650), (0, z655), (0, z660), (0, z665), (0, z670)]) (tX6_touch I.2.1.1 I.1.1 I.1.2.1 I.1.2.2 I.2.1.2.2.1 (fun h8 h9 => by { have h7 := I.2.1.2.2.2 _ h8 h9; have := I.2.2.2; omega })) dL_law_671 rfl mlL_73 mw_X6_touch im_X6_touch sl_X6_touch md_X6_touch rfl (by decide) (by decide) (congrArg Prod.fst I.1.2.1.1.1.1) rfl rfl (by decide) (by decide) (show _ ≤ 600000 by omega) (show _ ≤ 7302250 by omega) (Nat.le_of_ble_eq_true rfl) (fun zc rzc A B x h => ?_)
  obtain ⟨lo, hX⟩ := X_touch I h
  obtain ⟨αD, D, rfl, rfl⟩ := lo_g lo
  clear h lo
  refine V_pop (q := 675) dL_law_674 rfl (show (0 : Nat) ≠ 2 by decide) ?_
  refine V_aload_n (q := 676) dL_law_675 rfl rfl rfl ?_
  refine V_aloadR (q := 677) dL_law_676 rfl rfl rfl ?_
  refine V_iload_n (q := 678) dL_law_677 rfl rfl rfl ?_
  refine V_iconst (q := 679) dL_law_678 rfl (by decide) ?_
  refine V_iadd (q := 680) dL_law_679 rfl (by omega) (fun z679 ez679 => ?_)
  refine V_sld (q := 681) dL_law_680 rfl hb hLn (by omega) (fun z680 ez680 rz680 => ?_)
  rw [ez679] at ez680
  refine V_aloadR (q := 682) dL_law_681 rfl rfl rfl ?_
  refine V_iload_n (q := 683) dL_law_682 rfl rfl rfl ?_
  refine V_iconst (q := 684) dL_law_683 rfl (by decide) ?_
  refine V_iadd (q := 685) dL_law_684 rfl (by omega) (fun z684 ez684 => ?_)
  refine V_sld (q := 686) dL_law_685 rfl hb hLn (by omega) (fun z685 ez685 rz685 => ?_)
  rw [ez684] at ez685
  refine V_aloadR (q := 687) dL_law_686 rfl rfl rfl ?_
  refine V_iload_n (q := 688) dL_law_687 rfl rfl rfl ?_
  refine V_iconst (q := 689) dL_law_688 rfl (by decide) ?_
  refine V_iadd (q := 690) dL_law_689 rfl (by omega) (fun z689 ez689 => ?_)
  refine V_sld (q := 691) dL_law_690 rfl hb hLn (by omega) (fun z690 ez690 rz690 => ?_)
  rw [ez689] at ez690
  refine V_aloadR (q := 692) dL_law_691 rfl rfl rfl ?_
  refine V_iload_n (q := 693) dL_law_692 rfl rfl rfl ?_
  refine V_iconst (q := 694) dL_law_693 rfl (by decide) ?_
  refine V_iadd (q := 695) dL_law_694 rfl (by omega) (fun z694 ez694 => ?_)
  refine V_sld (q := 696) dL_law_695 rfl hb hLn (by omega) (fun z695 ez695 rz695 => ?_)
  rw [ez694] at ez695
  refine V_aloadR (q := 697) dL_law_696 rfl rfl rfl ?_
  refine V_iload_n (q := 698) dL_law_697 rfl rfl rfl ?_
  refine V_iconst (q := 699) dL_law_698 rfl (by decide) ?_
  refine V_iadd (q := 700) dL_law_699 rfl (by omega) (fun z699 ez699 => ?_)
  refine V_sld (q := 701) dL_law_700 rfl hb hLn (by omega) (fun z700 ez700 rz700 => ?_)
  rw [ez699] at ez700
  obtain rfl : z650 = z680 := by omega
  obtain rfl : z655 = z685 := by omega
  obtain rfl : z660 = z690 := by omega
  obtain rfl : z665 = z695 := by omega
  obtain rfl : z670 = z700 := by omega
  refine VL_callI (q := 704) (As := [(0, z650), (0, z655), (0, z660), (0, z665), (0, z670)]) (rX7_touch I) dL_law_701 rfl mlL_77 mw_X7_touch im_X7_touch sl_X7_touch md_X7_touch rfl rfl rfl (by decide) (by decide) (show _ ≤ 600000 by omega) (show _ ≤ 7302250 by omega) (Nat.le_of_ble_eq_true rfl) (fun zm M1 rzm hzm => ?_)
  obtain ⟨nx, hE⟩ := hX zm M1 hzm
  have J := nx.iv I.2.2.1 (by omega)
  refine V_pop (q := 705) dL_law_704 rfl (show (0 : Nat) ≠ 2 by decide) ?_
  refine V_goto (tgt := 1045) dL_law_705 (by decide) ?_
  exact V_widen (by omega) (by omega) (K _ _ _ J)
set_option maxHeartbeats 4000000 in
set_option maxRecDepth 20000 in
theorem law_foretell {Γ : GC} {ad0 : Ad} {b L : Nat} {xs : Nat → Int32} (hb : b < g_b Γ) (hLn : L < 2147483648) {i : Int} {n : Nat} (hi : 0 ≤ i ∧ i + 7 ≤ L) (hn : n < 512) {αC : Sh} {C M : Mem} (I : INVL (1041 * n) M (gα αC) (mm M C)) (K : ∀ (αC : Sh) (C M : Mem), INVL (1041 * n + 1041) M (gα αC) (mm M C) → V Γ (fun _ => (0, 0)) ad0 (ZX (g_b Γ) b L xs) room_1 RL code 4 (some .boolean) "law" 1045 [] [(5, (b : Int)), (3, 100), (3, 0), (0, i)] (gα αC) (mm M C) (53 + 8 * n + 8) (23953 + 793 * n + 793)) : V Γ (fun _ => (0, 0)) ad0 (ZX (g_b Γ) b L xs) room_1 RL code 4 (some .boolean) "law" 708 [] [(5, (b : Int)), (3, 100), (3, 0), (0, i)] (gα αC) (mm M C) (53 + 8 * n) (23953 + 793 * n) := by
  refine V_aload_n (q := 709) dL_law_708 rfl rfl rfl ?_
  refine V_aloadR (q := 710) dL_law_709 rfl rfl rfl ?_
  refine V_iload_n (q := 711) dL_law_710 rfl rfl rfl ?_
  refine V_iconst (q := 712) dL_law_711 rfl (by decide) ?_
  refine V_iadd (q := 713) dL_law_712 rfl (by omega) (fun z712 ez712 => ?_)
  refine V_sld (q := 714) dL_law_713 rfl hb hLn (by omega) (fun z713 ez713 rz713 => ?_)
  rw [ez712] at ez713
  refine V_aloadR (q := 715) dL_law_714 rfl rfl rfl ?_
  refine V_iload_n (q := 716) dL_law_715 rfl rfl rfl ?_
  refine V_iconst (q := 717) dL_law_716 rfl (by decide) ?_
  refine V_iadd (q := 718) dL_law_717 rfl (by omega) (fun z717 ez717 => ?_)
  refine V_sld (q := 719) dL_law_718 rfl hb hLn (by omega) (fun z718 ez718 rz718 => ?_)
  rw [ez717] at ez718
  refine V_aloadR (q := 720) dL_law_719 rfl rfl rfl ?_
  refine V_iload_n (q := 721) dL_law_720 rfl rfl rfl ?_
  refine V_iconst (q := 722) dL_law_721 rfl (by decide) ?_
  refine V_iadd (q := 723) dL_law_722 rfl (by omega) (fun z722 ez722 => ?_)
  refine V_sld (q := 724) dL_law_723 rfl hb hLn (by omega) (fun z723 ez723 rz723 => ?_)
  rw [ez722] at ez723
  refine V_aloadR (q := 725) dL_law_724 rfl rfl rfl ?_
  refine V_iload_n (q := 726) dL_law_725 rfl rfl rfl ?_
  refine V_iconst (q := 727) dL_law_726 rfl (by decide) ?_
  refine V_iadd (q := 728) dL_law_727 rfl (by omega) (fun z727 ez727 => ?_)
  refine V_sld (q := 729) dL_law_728 rfl hb hLn (by omega) (fun z728 ez728 rz728 => ?_)
  rw [ez727] at ez728
  refine V_aloadR (q := 730) dL_law_729 rfl rfl rfl ?_
  refine V_iload_n (q := 731) dL_law_730 rfl rfl rfl ?_
  refine V_iconst (q := 732) dL_law_731 rfl (by decide) ?_
  refine V_iadd (q := 733) dL_law_732 rfl (by omega) (fun z732 ez732 => ?_)
  refine V_sld (q := 734) dL_law_733 rfl hb hLn (by omega) (fun z733 ez733 rz733 => ?_)
  rw [ez732] at ez733
  refine V_chVi (q := 737) (As := [(0, z713), (0, z718), (0, z723), (0, z728), (0, z733)]) (tX6_foretell I.2.1.1 I.1.1 I.1.2.1 I.1.2.2 I.2.1.2.2.1 (fun h8 h9 => by { have h7 := I.2.1.2.2.2 _ h8 h9; have := I.2.2.2; omega })) dL_law_734 rfl mlL_78 mw_X6_foretell im_X6_foretell sl_X6_foretell md_X6_foretell rfl (by decide) (by decide) (congrArg Prod.fst I.1.2.1.1.1.1) rfl rfl (by decide) (by decide) (show _ ≤ 600000 by omega) (show _ ≤ 7302250 by omega) (Nat.le_of_ble_eq_true rfl) (fun zc rzc A B x h => ?_)
  obtain ⟨lo, hX⟩ := X_foretell I h
  obtain ⟨αD, D, rfl, rfl⟩ := lo_g lo
  clear h lo
  refine V_pop (q := 738) dL_law_737 rfl (show (0 : Nat) ≠ 2 by decide) ?_
  refine V_aload_n (q := 739) dL_law_738 rfl rfl rfl ?_
  refine V_aloadR (q := 740) dL_law_739 rfl rfl rfl ?_
  refine V_iload_n (q := 741) dL_law_740 rfl rfl rfl ?_
  refine V_iconst (q := 742) dL_law_741 rfl (by decide) ?_
  refine V_iadd (q := 743) dL_law_742 rfl (by omega) (fun z742 ez742 => ?_)
  refine V_sld (q := 744) dL_law_743 rfl hb hLn (by omega) (fun z743 ez743 rz743 => ?_)
  rw [ez742] at ez743
  refine V_aloadR (q := 745) dL_law_744 rfl rfl rfl ?_
  refine V_iload_n (q := 746) dL_law_745 rfl rfl rfl ?_
  refine V_iconst (q := 747) dL_law_746 rfl (by decide) ?_
  refine V_iadd (q := 748) dL_law_747 rfl (by omega) (fun z747 ez747 => ?_)
  refine V_sld (q := 749) dL_law_748 rfl hb hLn (by omega) (fun z748 ez748 rz748 => ?_)
  rw [ez747] at ez748
  refine V_aloadR (q := 750) dL_law_749 rfl rfl rfl ?_
  refine V_iload_n (q := 751) dL_law_750 rfl rfl rfl ?_
  refine V_iconst (q := 752) dL_law_751 rfl (by decide) ?_
  refine V_iadd (q := 753) dL_law_752 rfl (by omega) (fun z752 ez752 => ?_)
  refine V_sld (q := 754) dL_law_753 rfl hb hLn (by omega) (fun z753 ez753 rz753 => ?_)
  rw [ez752] at ez753
  refine V_aloadR (q := 755) dL_law_754 rfl rfl rfl ?_
  refine V_iload_n (q := 756) dL_law_755 rfl rfl rfl ?_
  refine V_iconst (q := 757) dL_law_756 rfl (by decide) ?_
  refine V_iadd (q := 758) dL_law_757 rfl (by omega) (fun z757 ez757 => ?_)
  refine V_sld (q := 759) dL_law_758 rfl hb hLn (by omega) (fun z758 ez758 rz758 => ?_)
  rw [ez757] at ez758
  refine V_aloadR (q := 760) dL_law_759 rfl rfl rfl ?_
  refine V_iload_n (q := 761) dL_law_760 rfl rfl rfl ?_
  refine V_iconst (q := 762) dL_law_761 rfl (by decide) ?_
  refine V_iadd (q := 763) dL_law_762 rfl (by omega) (fun z762 ez762 => ?_)
  refine V_sld (q := 764) dL_law_763 rfl hb hLn (by omega) (fun z763 ez763 rz763 => ?_)
  rw [ez762] at ez763
  obtain rfl : z713 = z743 := by omega
  obtain rfl : z718 = z748 := by omega
  obtain rfl : z723 = z753 := by omega
  obtain rfl : z728 = z758 := by omega
  obtain rfl : z733 = z763 := by omega
  refine VL_callI (q := 767) (As := [(0, z713), (0, z718), (0, z723), (0, z728), (0, z733)]) (rX7_foretell I) dL_law_764 rfl mlL_81 mw_X7_foretell im_X7_foretell sl_X7_foretell md_X7_foretell rfl rfl rfl (by decide) (by decide) (show _ ≤ 600000 by omega) (show _ ≤ 7302250 by omega) (Nat.le_of_ble_eq_true rfl) (fun zm M1 rzm hzm => ?_)
  obtain ⟨nx, hE⟩ := hX zm M1 hzm
  have J := nx.iv I.2.2.1 (by omega)
  refine V_pop (q := 768) dL_law_767 rfl (show (0 : Nat) ≠ 2 by decide) ?_
  refine V_goto (tgt := 1045) dL_law_768 (by decide) ?_
  exact V_widen (by omega) (by omega) (K _ _ _ J)
set_option maxHeartbeats 4000000 in
set_option maxRecDepth 20000 in
theorem law_state {Γ : GC} {ad0 : Ad} {b L : Nat} {xs : Nat → Int32} (hb : b < g_b Γ) (hLn : L < 2147483648) {i : Int} {n : Nat} (hi : 0 ≤ i ∧ i + 7 ≤ L) (hn : n < 512) {αC : Sh} {C M : Mem} (I : INVL (1041 * n) M (gα αC) (mm M C)) (K : ∀ (αC : Sh) (C M : Mem), INVL (1041 * n + 1041) M (gα αC) (mm M C) → V Γ (fun _ => (0, 0)) ad0 (ZX (g_b Γ) b L xs) room_1 RL code 4 (some .boolean) "law" 1045 [] [(5, (b : Int)), (3, 100), (3, 0), (0, i)] (gα αC) (mm M C) (53 + 8 * n + 8) (23953 + 793 * n + 793)) : V Γ (fun _ => (0, 0)) ad0 (ZX (g_b Γ) b L xs) room_1 RL code 4 (some .boolean) "law" 771 [] [(5, (b : Int)), (3, 100), (3, 0), (0, i)] (gα αC) (mm M C) (53 + 8 * n) (23953 + 793 * n) := by
  refine V_aload_n (q := 772) dL_law_771 rfl rfl rfl ?_
  refine V_aloadR (q := 773) dL_law_772 rfl rfl rfl ?_
  refine V_iload_n (q := 774) dL_law_773 rfl rfl rfl ?_
  refine V_iconst (q := 775) dL_law_774 rfl (by decide) ?_
  refine V_iadd (q := 776) dL_law_775 rfl (by omega) (fun z775 ez775 => ?_)
  refine V_sld (q := 777) dL_law_776 rfl hb hLn (by omega) (fun z776 ez776 rz776 => ?_)
  rw [ez775] at ez776
  refine V_aloadR (q := 778) dL_law_777 rfl rfl rfl ?_
  refine V_iload_n (q := 779) dL_law_778 rfl rfl rfl ?_
  refine V_iconst (q := 780) dL_law_779 rfl (by decide) ?_
  refine V_iadd (q := 781) dL_law_780 rfl (by omega) (fun z780 ez780 => ?_)
  refine V_sld (q := 782) dL_law_781 rfl hb hLn (by omega) (fun z781 ez781 rz781 => ?_)
  rw [ez780] at ez781
  refine V_chVi (q := 785) (As := [(0, z776), (0, z781)]) (tX6_state I.2.1.1 I.1.1 I.1.2.1 I.1.2.2) dL_law_782 rfl mlL_82 mw_X6_state im_X6_state sl_X6_state md_X6_state rfl (by decide) (by decide) (congrArg Prod.fst I.1.2.1.1.1.1) rfl rfl (by decide) (by decide) (show _ ≤ 600000 by omega) (show _ ≤ 7302250 by omega) (Nat.le_of_ble_eq_true rfl) (fun zc rzc A B x h => ?_)
  obtain ⟨lo, hX⟩ := X_state I h
  obtain ⟨αD, D, rfl, rfl⟩ := lo_g lo
  clear h lo
  refine V_pop (q := 786) dL_law_785 rfl (show (0 : Nat) ≠ 2 by decide) ?_
  refine V_aload_n (q := 787) dL_law_786 rfl rfl rfl ?_
  refine V_aloadR (q := 788) dL_law_787 rfl rfl rfl ?_
  refine V_iload_n (q := 789) dL_law_788 rfl rfl rfl ?_
  refine V_iconst (q := 790) dL_law_789 rfl (by decide) ?_
  refine V_iadd (q := 791) dL_law_790 rfl (by omega) (fun z790 ez790 => ?_)
  refine V_sld (q := 792) dL_law_791 rfl hb hLn (by omega) (fun z791 ez791 rz791 => ?_)
  rw [ez790] at ez791
  refine V_aloadR (q := 793) dL_law_792 rfl rfl rfl ?_
  refine V_iload_n (q := 794) dL_law_793 rfl rfl rfl ?_
  refine V_iconst (q := 795) dL_law_794 rfl (by decide) ?_
  refine V_iadd (q := 796) dL_law_795 rfl (by omega) (fun z795 ez795 => ?_)
  refine V_sld (q := 797) dL_law_796 rfl hb hLn (by omega) (fun z796 ez796 rz796 => ?_)
  rw [ez795] at ez796
  obtain rfl : z776 = z791 := by omega
  obtain rfl : z781 = z796 := by omega
  refine VL_callI (q := 800) (As := [(0, z776), (0, z781)]) (tX7_state I.2.1.1) dL_law_797 rfl mlL_85 mw_X7_state im_X7_state sl_X7_state md_X7_state rfl rfl rfl (by decide) (by decide) (show _ ≤ 600000 by omega) (show _ ≤ 7302250 by omega) (Nat.le_of_ble_eq_true rfl) (fun zm M1 rzm hzm => ?_)
  obtain ⟨nx, hE⟩ := hX zm M1 hzm
  have J := nx.iv I.2.2.1 (by omega)
  refine V_pop (q := 801) dL_law_800 rfl (show (0 : Nat) ≠ 2 by decide) ?_
  refine V_goto (tgt := 1045) dL_law_801 (by decide) ?_
  exact V_widen (by omega) (by omega) (K _ _ _ J)
set_option maxHeartbeats 4000000 in
set_option maxRecDepth 20000 in
theorem law_began {Γ : GC} {ad0 : Ad} {b L : Nat} {xs : Nat → Int32} (hb : b < g_b Γ) (hLn : L < 2147483648) {i : Int} {n : Nat} (hi : 0 ≤ i ∧ i + 7 ≤ L) (hn : n < 512) {αC : Sh} {C M : Mem} (I : INVL (1041 * n) M (gα αC) (mm M C)) (K : ∀ (αC : Sh) (C M : Mem), INVL (1041 * n + 1041) M (gα αC) (mm M C) → V Γ (fun _ => (0, 0)) ad0 (ZX (g_b Γ) b L xs) room_1 RL code 4 (some .boolean) "law" 1045 [] [(5, (b : Int)), (3, 100), (3, 0), (0, i)] (gα αC) (mm M C) (53 + 8 * n + 8) (23953 + 793 * n + 793)) : V Γ (fun _ => (0, 0)) ad0 (ZX (g_b Γ) b L xs) room_1 RL code 4 (some .boolean) "law" 804 [] [(5, (b : Int)), (3, 100), (3, 0), (0, i)] (gα αC) (mm M C) (53 + 8 * n) (23953 + 793 * n) := by
  refine V_aload_n (q := 805) dL_law_804 rfl rfl rfl ?_
  refine V_aloadR (q := 806) dL_law_805 rfl rfl rfl ?_
  refine V_iload_n (q := 807) dL_law_806 rfl rfl rfl ?_
  refine V_iconst (q := 808) dL_law_807 rfl (by decide) ?_
  refine V_iadd (q := 809) dL_law_808 rfl (by omega) (fun z808 ez808 => ?_)
  refine V_sld (q := 810) dL_law_809 rfl hb hLn (by omega) (fun z809 ez809 rz809 => ?_)
  rw [ez808] at ez809
  refine V_aloadR (q := 811) dL_law_810 rfl rfl rfl ?_
  refine V_iload_n (q := 812) dL_law_811 rfl rfl rfl ?_
  refine V_iconst (q := 813) dL_law_812 rfl (by decide) ?_
  refine V_iadd (q := 814) dL_law_813 rfl (by omega) (fun z813 ez813 => ?_)
  refine V_sld (q := 815) dL_law_814 rfl hb hLn (by omega) (fun z814 ez814 rz814 => ?_)
  rw [ez813] at ez814
  refine V_chVi (q := 818) (As := [(0, z809), (0, z814)]) (tX6_began I.2.1.1 I.1.1 I.1.2.1 I.1.2.2 I.2.1.2.1) dL_law_815 rfl mlL_86 mw_X6_began im_X6_began sl_X6_began md_X6_began rfl (by decide) (by decide) (congrArg Prod.fst I.1.2.1.1.1.1) rfl rfl (by decide) (by decide) (show _ ≤ 600000 by omega) (show _ ≤ 7302250 by omega) (Nat.le_of_ble_eq_true rfl) (fun zc rzc A B x h => ?_)
  obtain ⟨lo, hX⟩ := X_began I h
  obtain ⟨αD, D, rfl, rfl⟩ := lo_g lo
  clear h lo
  refine V_pop (q := 819) dL_law_818 rfl (show (0 : Nat) ≠ 2 by decide) ?_
  refine V_aload_n (q := 820) dL_law_819 rfl rfl rfl ?_
  refine V_aloadR (q := 821) dL_law_820 rfl rfl rfl ?_
  refine V_iload_n (q := 822) dL_law_821 rfl rfl rfl ?_
  refine V_iconst (q := 823) dL_law_822 rfl (by decide) ?_
  refine V_iadd (q := 824) dL_law_823 rfl (by omega) (fun z823 ez823 => ?_)
  refine V_sld (q := 825) dL_law_824 rfl hb hLn (by omega) (fun z824 ez824 rz824 => ?_)
  rw [ez823] at ez824
  refine V_aloadR (q := 826) dL_law_825 rfl rfl rfl ?_
  refine V_iload_n (q := 827) dL_law_826 rfl rfl rfl ?_
  refine V_iconst (q := 828) dL_law_827 rfl (by decide) ?_
  refine V_iadd (q := 829) dL_law_828 rfl (by omega) (fun z828 ez828 => ?_)
  refine V_sld (q := 830) dL_law_829 rfl hb hLn (by omega) (fun z829 ez829 rz829 => ?_)
  rw [ez828] at ez829
  obtain rfl : z809 = z824 := by omega
  obtain rfl : z814 = z829 := by omega
  refine VL_callI (q := 833) (As := [(0, z809), (0, z814)]) (tX7_began I.2.1.1 I.2.1.2.1) dL_law_830 rfl mlL_89 mw_X7_began im_X7_began sl_X7_began md_X7_began rfl rfl rfl (by decide) (by decide) (show _ ≤ 600000 by omega) (show _ ≤ 7302250 by omega) (Nat.le_of_ble_eq_true rfl) (fun zm M1 rzm hzm => ?_)
  obtain ⟨nx, hE⟩ := hX zm M1 hzm
  have J := nx.iv I.2.2.1 (by omega)
  refine V_pop (q := 834) dL_law_833 rfl (show (0 : Nat) ≠ 2 by decide) ?_
  refine V_goto (tgt := 1045) dL_law_834 (by decide) ?_
  exact V_widen (by omega) (by omega) (K _ _ _ J)
set_option maxHeartbeats 4000000 in
set_option maxRecDepth 20000 in
theorem law_tape {Γ : GC} {ad0 : Ad} {b L : Nat} {xs : Nat → Int32} (hb : b < g_b Γ) (hLn : L < 2147483648) {i : Int} {n : Nat} (hi : 0 ≤ i ∧ i + 7 ≤ L) (hn : n < 512) {αC : Sh} {C M : Mem} (I : INVL (1041 * n) M (gα αC) (mm M C)) (K : ∀ (αC : Sh) (C M : Mem), INVL (1041 * n + 1041) M (gα αC) (mm M C) → V Γ (fun _ => (0, 0)) ad0 (ZX (g_b Γ) b L xs) room_1 RL code 4 (some .boolean) "law" 1045 [] [(5, (b : Int)), (3, 100), (3, 0), (0, i)] (gα αC) (mm M C) (53 + 8 * n + 8) (23953 + 793 * n + 793)) : V Γ (fun _ => (0, 0)) ad0 (ZX (g_b Γ) b L xs) room_1 RL code 4 (some .boolean) "law" 837 [] [(5, (b : Int)), (3, 100), (3, 0), (0, i)] (gα αC) (mm M C) (53 + 8 * n) (23953 + 793 * n) := by
  refine V_aload_n (q := 838) dL_law_837 rfl rfl rfl ?_
  refine V_aloadR (q := 839) dL_law_838 rfl rfl rfl ?_
  refine V_iload_n (q := 840) dL_law_839 rfl rfl rfl ?_
  refine V_iconst (q := 841) dL_law_840 rfl (by decide) ?_
  refine V_iadd (q := 842) dL_law_841 rfl (by omega) (fun z841 ez841 => ?_)
  refine V_sld (q := 843) dL_law_842 rfl hb hLn (by omega) (fun z842 ez842 rz842 => ?_)
  rw [ez841] at ez842
  refine V_aloadR (q := 844) dL_law_843 rfl rfl rfl ?_
  refine V_iload_n (q := 845) dL_law_844 rfl rfl rfl ?_
  refine V_iconst (q := 846) dL_law_845 rfl (by decide) ?_
  refine V_iadd (q := 847) dL_law_846 rfl (by omega) (fun z846 ez846 => ?_)
  refine V_sld (q := 848) dL_law_847 rfl hb hLn (by omega) (fun z847 ez847 rz847 => ?_)
  rw [ez846] at ez847
  refine V_chVi (q := 851) (As := [(0, z842), (0, z847)]) (tX6_tape I.2.1.1 I.1.1 I.1.2.1 I.1.2.2) dL_law_848 rfl mlL_90 mw_X6_tape im_X6_tape sl_X6_tape md_X6_tape rfl (by decide) (by decide) (congrArg Prod.fst I.1.2.1.1.1.1) rfl rfl (by decide) (by decide) (show _ ≤ 600000 by omega) (show _ ≤ 7302250 by omega) (Nat.le_of_ble_eq_true rfl) (fun zc rzc A B x h => ?_)
  obtain ⟨lo, hX⟩ := X_tape I h
  obtain ⟨αD, D, rfl, rfl⟩ := lo_g lo
  clear h lo
  refine V_pop (q := 852) dL_law_851 rfl (show (0 : Nat) ≠ 2 by decide) ?_
  refine V_aload_n (q := 853) dL_law_852 rfl rfl rfl ?_
  refine V_aloadR (q := 854) dL_law_853 rfl rfl rfl ?_
  refine V_iload_n (q := 855) dL_law_854 rfl rfl rfl ?_
  refine V_iconst (q := 856) dL_law_855 rfl (by decide) ?_
  refine V_iadd (q := 857) dL_law_856 rfl (by omega) (fun z856 ez856 => ?_)
  refine V_sld (q := 858) dL_law_857 rfl hb hLn (by omega) (fun z857 ez857 rz857 => ?_)
  rw [ez856] at ez857
  refine V_aloadR (q := 859) dL_law_858 rfl rfl rfl ?_
  refine V_iload_n (q := 860) dL_law_859 rfl rfl rfl ?_
  refine V_iconst (q := 861) dL_law_860 rfl (by decide) ?_
  refine V_iadd (q := 862) dL_law_861 rfl (by omega) (fun z861 ez861 => ?_)
  refine V_sld (q := 863) dL_law_862 rfl hb hLn (by omega) (fun z862 ez862 rz862 => ?_)
  rw [ez861] at ez862
  obtain rfl : z842 = z857 := by omega
  obtain rfl : z847 = z862 := by omega
  refine VL_callI (q := 866) (As := [(0, z842), (0, z847)]) (tX7_tape I.2.1.1 I.2.1.2.1) dL_law_863 rfl mlL_93 mw_X7_tape im_X7_tape sl_X7_tape md_X7_tape rfl rfl rfl (by decide) (by decide) (show _ ≤ 600000 by omega) (show _ ≤ 7302250 by omega) (Nat.le_of_ble_eq_true rfl) (fun zm M1 rzm hzm => ?_)
  obtain ⟨nx, hE⟩ := hX zm M1 hzm
  have J := nx.iv I.2.2.1 (by omega)
  refine V_pop (q := 867) dL_law_866 rfl (show (0 : Nat) ≠ 2 by decide) ?_
  refine V_goto (tgt := 1045) dL_law_867 (by decide) ?_
  exact V_widen (by omega) (by omega) (K _ _ _ J)
set_option maxHeartbeats 4000000 in
set_option maxRecDepth 20000 in
theorem law_value {Γ : GC} {ad0 : Ad} {b L : Nat} {xs : Nat → Int32} (hb : b < g_b Γ) (hLn : L < 2147483648) {i : Int} {n : Nat} (hi : 0 ≤ i ∧ i + 7 ≤ L) (hn : n < 512) {αC : Sh} {C M : Mem} (I : INVL (1041 * n) M (gα αC) (mm M C)) (K : ∀ (αC : Sh) (C M : Mem), INVL (1041 * n + 1041) M (gα αC) (mm M C) → V Γ (fun _ => (0, 0)) ad0 (ZX (g_b Γ) b L xs) room_1 RL code 4 (some .boolean) "law" 1045 [] [(5, (b : Int)), (3, 100), (3, 0), (0, i)] (gα αC) (mm M C) (53 + 8 * n + 8) (23953 + 793 * n + 793)) : V Γ (fun _ => (0, 0)) ad0 (ZX (g_b Γ) b L xs) room_1 RL code 4 (some .boolean) "law" 870 [] [(5, (b : Int)), (3, 100), (3, 0), (0, i)] (gα αC) (mm M C) (53 + 8 * n) (23953 + 793 * n) := by
  refine V_aload_n (q := 871) dL_law_870 rfl rfl rfl ?_
  refine V_aloadR (q := 872) dL_law_871 rfl rfl rfl ?_
  refine V_iload_n (q := 873) dL_law_872 rfl rfl rfl ?_
  refine V_iconst (q := 874) dL_law_873 rfl (by decide) ?_
  refine V_iadd (q := 875) dL_law_874 rfl (by omega) (fun z874 ez874 => ?_)
  refine V_sld (q := 876) dL_law_875 rfl hb hLn (by omega) (fun z875 ez875 rz875 => ?_)
  rw [ez874] at ez875
  refine V_aloadR (q := 877) dL_law_876 rfl rfl rfl ?_
  refine V_iload_n (q := 878) dL_law_877 rfl rfl rfl ?_
  refine V_iconst (q := 879) dL_law_878 rfl (by decide) ?_
  refine V_iadd (q := 880) dL_law_879 rfl (by omega) (fun z879 ez879 => ?_)
  refine V_sld (q := 881) dL_law_880 rfl hb hLn (by omega) (fun z880 ez880 rz880 => ?_)
  rw [ez879] at ez880
  refine V_aloadR (q := 882) dL_law_881 rfl rfl rfl ?_
  refine V_iload_n (q := 883) dL_law_882 rfl rfl rfl ?_
  refine V_iconst (q := 884) dL_law_883 rfl (by decide) ?_
  refine V_iadd (q := 885) dL_law_884 rfl (by omega) (fun z884 ez884 => ?_)
  refine V_sld (q := 886) dL_law_885 rfl hb hLn (by omega) (fun z885 ez885 rz885 => ?_)
  rw [ez884] at ez885
  refine V_chVi (q := 889) (As := [(0, z875), (0, z880), (0, z885)]) (tX6_value I.2.1.1 I.1.1 I.1.2.1 I.1.2.2 I.2.1.2.1) dL_law_886 rfl mlL_94 mw_X6_value im_X6_value sl_X6_value md_X6_value rfl (by decide) (by decide) (congrArg Prod.fst I.1.2.1.1.1.1) rfl rfl (by decide) (by decide) (show _ ≤ 600000 by omega) (show _ ≤ 7302250 by omega) (Nat.le_of_ble_eq_true rfl) (fun zc rzc A B x h => ?_)
  obtain ⟨lo, hX⟩ := X_value I h
  obtain ⟨αD, D, rfl, rfl⟩ := lo_g lo
  clear h lo
  refine V_pop (q := 890) dL_law_889 rfl (show (0 : Nat) ≠ 2 by decide) ?_
  refine V_aload_n (q := 891) dL_law_890 rfl rfl rfl ?_
  refine V_aloadR (q := 892) dL_law_891 rfl rfl rfl ?_
  refine V_iload_n (q := 893) dL_law_892 rfl rfl rfl ?_
  refine V_iconst (q := 894) dL_law_893 rfl (by decide) ?_
  refine V_iadd (q := 895) dL_law_894 rfl (by omega) (fun z894 ez894 => ?_)
  refine V_sld (q := 896) dL_law_895 rfl hb hLn (by omega) (fun z895 ez895 rz895 => ?_)
  rw [ez894] at ez895
  refine V_aloadR (q := 897) dL_law_896 rfl rfl rfl ?_
  refine V_iload_n (q := 898) dL_law_897 rfl rfl rfl ?_
  refine V_iconst (q := 899) dL_law_898 rfl (by decide) ?_
  refine V_iadd (q := 900) dL_law_899 rfl (by omega) (fun z899 ez899 => ?_)
  refine V_sld (q := 901) dL_law_900 rfl hb hLn (by omega) (fun z900 ez900 rz900 => ?_)
  rw [ez899] at ez900
  refine V_aloadR (q := 902) dL_law_901 rfl rfl rfl ?_
  refine V_iload_n (q := 903) dL_law_902 rfl rfl rfl ?_
  refine V_iconst (q := 904) dL_law_903 rfl (by decide) ?_
  refine V_iadd (q := 905) dL_law_904 rfl (by omega) (fun z904 ez904 => ?_)
  refine V_sld (q := 906) dL_law_905 rfl hb hLn (by omega) (fun z905 ez905 rz905 => ?_)
  rw [ez904] at ez905
  obtain rfl : z875 = z895 := by omega
  obtain rfl : z880 = z900 := by omega
  obtain rfl : z885 = z905 := by omega
  refine VL_callI (q := 909) (As := [(0, z875), (0, z880), (0, z885)]) (tX7_value I.2.1.1) dL_law_906 rfl mlL_98 mw_X7_value im_X7_value sl_X7_value md_X7_value rfl rfl rfl (by decide) (by decide) (show _ ≤ 600000 by omega) (show _ ≤ 7302250 by omega) (Nat.le_of_ble_eq_true rfl) (fun zm M1 rzm hzm => ?_)
  obtain ⟨nx, hE⟩ := hX zm M1 hzm
  have J := nx.iv I.2.2.1 (by omega)
  refine V_pop (q := 910) dL_law_909 rfl (show (0 : Nat) ≠ 2 by decide) ?_
  refine V_goto (tgt := 1045) dL_law_910 (by decide) ?_
  exact V_widen (by omega) (by omega) (K _ _ _ J)
set_option maxHeartbeats 4000000 in
set_option maxRecDepth 20000 in
theorem law_failed {Γ : GC} {ad0 : Ad} {b L : Nat} {xs : Nat → Int32} (hb : b < g_b Γ) (hLn : L < 2147483648) {i : Int} {n : Nat} (hi : 0 ≤ i ∧ i + 7 ≤ L) (hn : n < 512) {αC : Sh} {C M : Mem} (I : INVL (1041 * n) M (gα αC) (mm M C)) (K : ∀ (αC : Sh) (C M : Mem), INVL (1041 * n + 1041) M (gα αC) (mm M C) → V Γ (fun _ => (0, 0)) ad0 (ZX (g_b Γ) b L xs) room_1 RL code 4 (some .boolean) "law" 1045 [] [(5, (b : Int)), (3, 100), (3, 0), (0, i)] (gα αC) (mm M C) (53 + 8 * n + 8) (23953 + 793 * n + 793)) : V Γ (fun _ => (0, 0)) ad0 (ZX (g_b Γ) b L xs) room_1 RL code 4 (some .boolean) "law" 913 [] [(5, (b : Int)), (3, 100), (3, 0), (0, i)] (gα αC) (mm M C) (53 + 8 * n) (23953 + 793 * n) := by
  refine V_aload_n (q := 914) dL_law_913 rfl rfl rfl ?_
  refine V_aloadR (q := 915) dL_law_914 rfl rfl rfl ?_
  refine V_iload_n (q := 916) dL_law_915 rfl rfl rfl ?_
  refine V_iconst (q := 917) dL_law_916 rfl (by decide) ?_
  refine V_iadd (q := 918) dL_law_917 rfl (by omega) (fun z917 ez917 => ?_)
  refine V_sld (q := 919) dL_law_918 rfl hb hLn (by omega) (fun z918 ez918 rz918 => ?_)
  rw [ez917] at ez918
  refine V_aloadR (q := 920) dL_law_919 rfl rfl rfl ?_
  refine V_iload_n (q := 921) dL_law_920 rfl rfl rfl ?_
  refine V_iconst (q := 922) dL_law_921 rfl (by decide) ?_
  refine V_iadd (q := 923) dL_law_922 rfl (by omega) (fun z922 ez922 => ?_)
  refine V_sld (q := 924) dL_law_923 rfl hb hLn (by omega) (fun z923 ez923 rz923 => ?_)
  rw [ez922] at ez923
  refine V_chVi (q := 927) (As := [(0, z918), (0, z923)]) (tX6_failed I.2.1.1 I.1.1 I.1.2.1 I.1.2.2) dL_law_924 rfl mlL_99 mw_X6_failed im_X6_failed sl_X6_failed md_X6_failed rfl (by decide) (by decide) (congrArg Prod.fst I.1.2.1.1.1.1) rfl rfl (by decide) (by decide) (show _ ≤ 600000 by omega) (show _ ≤ 7302250 by omega) (Nat.le_of_ble_eq_true rfl) (fun zc rzc A B x h => ?_)
  obtain ⟨lo, hX⟩ := X_failed I h
  obtain ⟨αD, D, rfl, rfl⟩ := lo_g lo
  clear h lo
  refine V_pop (q := 928) dL_law_927 rfl (show (0 : Nat) ≠ 2 by decide) ?_
  refine V_aload_n (q := 929) dL_law_928 rfl rfl rfl ?_
  refine V_aloadR (q := 930) dL_law_929 rfl rfl rfl ?_
  refine V_iload_n (q := 931) dL_law_930 rfl rfl rfl ?_
  refine V_iconst (q := 932) dL_law_931 rfl (by decide) ?_
  refine V_iadd (q := 933) dL_law_932 rfl (by omega) (fun z932 ez932 => ?_)
  refine V_sld (q := 934) dL_law_933 rfl hb hLn (by omega) (fun z933 ez933 rz933 => ?_)
  rw [ez932] at ez933
  refine V_aloadR (q := 935) dL_law_934 rfl rfl rfl ?_
  refine V_iload_n (q := 936) dL_law_935 rfl rfl rfl ?_
  refine V_iconst (q := 937) dL_law_936 rfl (by decide) ?_
  refine V_iadd (q := 938) dL_law_937 rfl (by omega) (fun z937 ez937 => ?_)
  refine V_sld (q := 939) dL_law_938 rfl hb hLn (by omega) (fun z938 ez938 rz938 => ?_)
  rw [ez937] at ez938
  obtain rfl : z918 = z933 := by omega
  obtain rfl : z923 = z938 := by omega
  refine VL_callI (q := 942) (As := [(0, z918), (0, z923)]) (tX7_failed I.2.1.1) dL_law_939 rfl mlL_102 mw_X7_failed im_X7_failed sl_X7_failed md_X7_failed rfl rfl rfl (by decide) (by decide) (show _ ≤ 600000 by omega) (show _ ≤ 7302250 by omega) (Nat.le_of_ble_eq_true rfl) (fun zm M1 rzm hzm => ?_)
  obtain ⟨nx, hE⟩ := hX zm M1 hzm
  have J := nx.iv I.2.2.1 (by omega)
  refine V_pop (q := 943) dL_law_942 rfl (show (0 : Nat) ≠ 2 by decide) ?_
  refine V_goto (tgt := 1045) dL_law_943 (by decide) ?_
  exact V_widen (by omega) (by omega) (K _ _ _ J)
set_option maxHeartbeats 4000000 in
set_option maxRecDepth 20000 in
theorem law_spent {Γ : GC} {ad0 : Ad} {b L : Nat} {xs : Nat → Int32} (hb : b < g_b Γ) (hLn : L < 2147483648) {i : Int} {n : Nat} (hi : 0 ≤ i ∧ i + 7 ≤ L) (hn : n < 512) {αC : Sh} {C M : Mem} (I : INVL (1041 * n) M (gα αC) (mm M C)) (K : ∀ (αC : Sh) (C M : Mem), INVL (1041 * n + 1041) M (gα αC) (mm M C) → V Γ (fun _ => (0, 0)) ad0 (ZX (g_b Γ) b L xs) room_1 RL code 4 (some .boolean) "law" 1045 [] [(5, (b : Int)), (3, 100), (3, 0), (0, i)] (gα αC) (mm M C) (53 + 8 * n + 8) (23953 + 793 * n + 793)) : V Γ (fun _ => (0, 0)) ad0 (ZX (g_b Γ) b L xs) room_1 RL code 4 (some .boolean) "law" 946 [] [(5, (b : Int)), (3, 100), (3, 0), (0, i)] (gα αC) (mm M C) (53 + 8 * n) (23953 + 793 * n) := by
  refine V_aload_n (q := 947) dL_law_946 rfl rfl rfl ?_
  refine V_aloadR (q := 948) dL_law_947 rfl rfl rfl ?_
  refine V_iload_n (q := 949) dL_law_948 rfl rfl rfl ?_
  refine V_iconst (q := 950) dL_law_949 rfl (by decide) ?_
  refine V_iadd (q := 951) dL_law_950 rfl (by omega) (fun z950 ez950 => ?_)
  refine V_sld (q := 952) dL_law_951 rfl hb hLn (by omega) (fun z951 ez951 rz951 => ?_)
  rw [ez950] at ez951
  refine V_aloadR (q := 953) dL_law_952 rfl rfl rfl ?_
  refine V_iload_n (q := 954) dL_law_953 rfl rfl rfl ?_
  refine V_iconst (q := 955) dL_law_954 rfl (by decide) ?_
  refine V_iadd (q := 956) dL_law_955 rfl (by omega) (fun z955 ez955 => ?_)
  refine V_sld (q := 957) dL_law_956 rfl hb hLn (by omega) (fun z956 ez956 rz956 => ?_)
  rw [ez955] at ez956
  refine V_chVi (q := 960) (As := [(0, z951), (0, z956)]) (tX6_spent I.2.1.1 I.1.1 I.1.2.1 I.1.2.2) dL_law_957 rfl mlL_103 mw_X6_spent im_X6_spent sl_X6_spent md_X6_spent rfl (by decide) (by decide) (congrArg Prod.fst I.1.2.1.1.1.1) rfl rfl (by decide) (by decide) (show _ ≤ 600000 by omega) (show _ ≤ 7302250 by omega) (Nat.le_of_ble_eq_true rfl) (fun zc rzc A B x h => ?_)
  obtain ⟨lo, hX⟩ := X_spent I h
  obtain ⟨αD, D, rfl, rfl⟩ := lo_g lo
  clear h lo
  refine V_pop (q := 961) dL_law_960 rfl (show (0 : Nat) ≠ 2 by decide) ?_
  refine V_aload_n (q := 962) dL_law_961 rfl rfl rfl ?_
  refine V_aloadR (q := 963) dL_law_962 rfl rfl rfl ?_
  refine V_iload_n (q := 964) dL_law_963 rfl rfl rfl ?_
  refine V_iconst (q := 965) dL_law_964 rfl (by decide) ?_
  refine V_iadd (q := 966) dL_law_965 rfl (by omega) (fun z965 ez965 => ?_)
  refine V_sld (q := 967) dL_law_966 rfl hb hLn (by omega) (fun z966 ez966 rz966 => ?_)
  rw [ez965] at ez966
  refine V_aloadR (q := 968) dL_law_967 rfl rfl rfl ?_
  refine V_iload_n (q := 969) dL_law_968 rfl rfl rfl ?_
  refine V_iconst (q := 970) dL_law_969 rfl (by decide) ?_
  refine V_iadd (q := 971) dL_law_970 rfl (by omega) (fun z970 ez970 => ?_)
  refine V_sld (q := 972) dL_law_971 rfl hb hLn (by omega) (fun z971 ez971 rz971 => ?_)
  rw [ez970] at ez971
  obtain rfl : z951 = z966 := by omega
  obtain rfl : z956 = z971 := by omega
  refine VL_callI (q := 975) (As := [(0, z951), (0, z956)]) (tX7_spent I.2.1.1) dL_law_972 rfl mlL_106 mw_X7_spent im_X7_spent sl_X7_spent md_X7_spent rfl rfl rfl (by decide) (by decide) (show _ ≤ 600000 by omega) (show _ ≤ 7302250 by omega) (Nat.le_of_ble_eq_true rfl) (fun zm M1 rzm hzm => ?_)
  obtain ⟨nx, hE⟩ := hX zm M1 hzm
  have J := nx.iv I.2.2.1 (by omega)
  refine V_pop (q := 976) dL_law_975 rfl (show (0 : Nat) ≠ 2 by decide) ?_
  refine V_goto (tgt := 1045) dL_law_976 (by decide) ?_
  exact V_widen (by omega) (by omega) (K _ _ _ J)
set_option maxHeartbeats 4000000 in
set_option maxRecDepth 20000 in
theorem law_many {Γ : GC} {ad0 : Ad} {b L : Nat} {xs : Nat → Int32} (hb : b < g_b Γ) (hLn : L < 2147483648) {i : Int} {n : Nat} (hi : 0 ≤ i ∧ i + 7 ≤ L) (hn : n < 512) {αC : Sh} {C M : Mem} (I : INVL (1041 * n) M (gα αC) (mm M C)) (K : ∀ (αC : Sh) (C M : Mem), INVL (1041 * n + 1041) M (gα αC) (mm M C) → V Γ (fun _ => (0, 0)) ad0 (ZX (g_b Γ) b L xs) room_1 RL code 4 (some .boolean) "law" 1045 [] [(5, (b : Int)), (3, 100), (3, 0), (0, i)] (gα αC) (mm M C) (53 + 8 * n + 8) (23953 + 793 * n + 793)) : V Γ (fun _ => (0, 0)) ad0 (ZX (g_b Γ) b L xs) room_1 RL code 4 (some .boolean) "law" 979 [] [(5, (b : Int)), (3, 100), (3, 0), (0, i)] (gα αC) (mm M C) (53 + 8 * n) (23953 + 793 * n) := by
  refine V_aload_n (q := 980) dL_law_979 rfl rfl rfl ?_
  refine V_aloadR (q := 981) dL_law_980 rfl rfl rfl ?_
  refine V_iload_n (q := 982) dL_law_981 rfl rfl rfl ?_
  refine V_iconst (q := 983) dL_law_982 rfl (by decide) ?_
  refine V_iadd (q := 984) dL_law_983 rfl (by omega) (fun z983 ez983 => ?_)
  refine V_sld (q := 985) dL_law_984 rfl hb hLn (by omega) (fun z984 ez984 rz984 => ?_)
  rw [ez983] at ez984
  refine V_aloadR (q := 986) dL_law_985 rfl rfl rfl ?_
  refine V_iload_n (q := 987) dL_law_986 rfl rfl rfl ?_
  refine V_iconst (q := 988) dL_law_987 rfl (by decide) ?_
  refine V_iadd (q := 989) dL_law_988 rfl (by omega) (fun z988 ez988 => ?_)
  refine V_sld (q := 990) dL_law_989 rfl hb hLn (by omega) (fun z989 ez989 rz989 => ?_)
  rw [ez988] at ez989
  refine V_chVi (q := 993) (As := [(0, z984), (0, z989)]) (tX6_many I.2.1.1 I.1.1 I.1.2.1 I.1.2.2) dL_law_990 rfl mlL_107 mw_X6_many im_X6_many sl_X6_many md_X6_many rfl (by decide) (by decide) (congrArg Prod.fst I.1.2.1.1.1.1) rfl rfl (by decide) (by decide) (show _ ≤ 600000 by omega) (show _ ≤ 7302250 by omega) (Nat.le_of_ble_eq_true rfl) (fun zc rzc A B x h => ?_)
  obtain ⟨lo, hX⟩ := X_many I h
  obtain ⟨αD, D, rfl, rfl⟩ := lo_g lo
  clear h lo
  refine V_pop (q := 994) dL_law_993 rfl (show (0 : Nat) ≠ 2 by decide) ?_
  refine V_aload_n (q := 995) dL_law_994 rfl rfl rfl ?_
  refine V_aloadR (q := 996) dL_law_995 rfl rfl rfl ?_
  refine V_iload_n (q := 997) dL_law_996 rfl rfl rfl ?_
  refine V_iconst (q := 998) dL_law_997 rfl (by decide) ?_
  refine V_iadd (q := 999) dL_law_998 rfl (by omega) (fun z998 ez998 => ?_)
  refine V_sld (q := 1000) dL_law_999 rfl hb hLn (by omega) (fun z999 ez999 rz999 => ?_)
  rw [ez998] at ez999
  refine V_aloadR (q := 1001) dL_law_1000 rfl rfl rfl ?_
  refine V_iload_n (q := 1002) dL_law_1001 rfl rfl rfl ?_
  refine V_iconst (q := 1003) dL_law_1002 rfl (by decide) ?_
  refine V_iadd (q := 1004) dL_law_1003 rfl (by omega) (fun z1003 ez1003 => ?_)
  refine V_sld (q := 1005) dL_law_1004 rfl hb hLn (by omega) (fun z1004 ez1004 rz1004 => ?_)
  rw [ez1003] at ez1004
  obtain rfl : z984 = z999 := by omega
  obtain rfl : z989 = z1004 := by omega
  refine VL_callI (q := 1008) (As := [(0, z984), (0, z989)]) (tX7_many I.2.1.1) dL_law_1005 rfl mlL_110 mw_X7_many im_X7_many sl_X7_many md_X7_many rfl rfl rfl (by decide) (by decide) (show _ ≤ 600000 by omega) (show _ ≤ 7302250 by omega) (Nat.le_of_ble_eq_true rfl) (fun zm M1 rzm hzm => ?_)
  obtain ⟨nx, hE⟩ := hX zm M1 hzm
  have J := nx.iv I.2.2.1 (by omega)
  refine V_pop (q := 1009) dL_law_1008 rfl (show (0 : Nat) ≠ 2 by decide) ?_
  refine V_goto (tgt := 1045) dL_law_1009 (by decide) ?_
  exact V_widen (by omega) (by omega) (K _ _ _ J)
set_option maxHeartbeats 4000000 in
set_option maxRecDepth 20000 in
theorem law_differs {Γ : GC} {ad0 : Ad} {b L : Nat} {xs : Nat → Int32} (hb : b < g_b Γ) (hLn : L < 2147483648) {i : Int} {n : Nat} (hi : 0 ≤ i ∧ i + 7 ≤ L) (hn : n < 512) {αC : Sh} {C M : Mem} (I : INVL (1041 * n) M (gα αC) (mm M C)) (K : ∀ (αC : Sh) (C M : Mem), INVL (1041 * n + 1041) M (gα αC) (mm M C) → V Γ (fun _ => (0, 0)) ad0 (ZX (g_b Γ) b L xs) room_1 RL code 4 (some .boolean) "law" 1045 [] [(5, (b : Int)), (3, 100), (3, 0), (0, i)] (gα αC) (mm M C) (53 + 8 * n + 8) (23953 + 793 * n + 793)) : V Γ (fun _ => (0, 0)) ad0 (ZX (g_b Γ) b L xs) room_1 RL code 4 (some .boolean) "law" 1012 [] [(5, (b : Int)), (3, 100), (3, 0), (0, i)] (gα αC) (mm M C) (53 + 8 * n) (23953 + 793 * n) := by
  refine V_aload_n (q := 1013) dL_law_1012 rfl rfl rfl ?_
  refine V_aloadR (q := 1014) dL_law_1013 rfl rfl rfl ?_
  refine V_iload_n (q := 1015) dL_law_1014 rfl rfl rfl ?_
  refine V_iconst (q := 1016) dL_law_1015 rfl (by decide) ?_
  refine V_iadd (q := 1017) dL_law_1016 rfl (by omega) (fun z1016 ez1016 => ?_)
  refine V_sld (q := 1018) dL_law_1017 rfl hb hLn (by omega) (fun z1017 ez1017 rz1017 => ?_)
  rw [ez1016] at ez1017
  refine V_aloadR (q := 1019) dL_law_1018 rfl rfl rfl ?_
  refine V_iload_n (q := 1020) dL_law_1019 rfl rfl rfl ?_
  refine V_iconst (q := 1021) dL_law_1020 rfl (by decide) ?_
  refine V_iadd (q := 1022) dL_law_1021 rfl (by omega) (fun z1021 ez1021 => ?_)
  refine V_sld (q := 1023) dL_law_1022 rfl hb hLn (by omega) (fun z1022 ez1022 rz1022 => ?_)
  rw [ez1021] at ez1022
  refine V_chVi (q := 1026) (As := [(0, z1017), (0, z1022)]) (tX6_differs I.2.1.1 I.1.1 I.1.2.1 I.1.2.2) dL_law_1023 rfl mlL_111 mw_X6_differs im_X6_differs sl_X6_differs md_X6_differs rfl (by decide) (by decide) (congrArg Prod.fst I.1.2.1.1.1.1) rfl rfl (by decide) (by decide) (show _ ≤ 600000 by omega) (show _ ≤ 7302250 by omega) (Nat.le_of_ble_eq_true rfl) (fun zc rzc A B x h => ?_)
  obtain ⟨lo, hX⟩ := X_differs I h
  obtain ⟨αD, D, rfl, rfl⟩ := lo_g lo
  clear h lo
  refine V_aload_n (q := 1027) dL_law_1026 rfl rfl rfl ?_
  refine V_aloadR (q := 1028) dL_law_1027 rfl rfl rfl ?_
  refine V_iload_n (q := 1029) dL_law_1028 rfl rfl rfl ?_
  refine V_iconst (q := 1030) dL_law_1029 rfl (by decide) ?_
  refine V_iadd (q := 1031) dL_law_1030 rfl (by omega) (fun z1030 ez1030 => ?_)
  refine V_sld (q := 1032) dL_law_1031 rfl hb hLn (by omega) (fun z1031 ez1031 rz1031 => ?_)
  rw [ez1030] at ez1031
  refine V_aloadR (q := 1033) dL_law_1032 rfl rfl rfl ?_
  refine V_iload_n (q := 1034) dL_law_1033 rfl rfl rfl ?_
  refine V_iconst (q := 1035) dL_law_1034 rfl (by decide) ?_
  refine V_iadd (q := 1036) dL_law_1035 rfl (by omega) (fun z1035 ez1035 => ?_)
  refine V_sld (q := 1037) dL_law_1036 rfl hb hLn (by omega) (fun z1036 ez1036 rz1036 => ?_)
  rw [ez1035] at ez1036
  obtain rfl : z1017 = z1031 := by omega
  obtain rfl : z1022 = z1036 := by omega
  refine VL_callI (q := 1040) (As := [(0, z1017), (0, z1022)]) (tX7_differs I.2.1.1) dL_law_1037 rfl mlL_114 mw_X7_differs im_X7_differs sl_X7_differs md_X7_differs rfl rfl rfl (by decide) (by decide) (show _ ≤ 600000 by omega) (show _ ≤ 7302250 by omega) (Nat.le_of_ble_eq_true rfl) (fun zm M1 rzm hzm => ?_)
  obtain ⟨nx, hE⟩ := hX zm M1 hzm
  have J := nx.iv I.2.2.1 (by omega)
  refine V_icmp_eq (q := 1043) (tgt := 1045) dL_law_1040 (by decide) rfl (fun c1040 => ?_) (fun c1040 => ?_)
  · exact V_widen (by omega) (by omega) (K _ _ _ J)
  · exact absurd hE c1040
set_option maxRecDepth 20000 in
theorem law_tail {Γ : GC} {ad0 : Ad} {b L : Nat} {xs : Nat → Int32} (hb : b < g_b Γ) (hLn : L < 2147483648) {i : Int} {α : Sh} {μ : Mem} {cs sl : Nat} (hcs : cs ≤ 600000) (hsl : sl ≤ 7302250) : V Γ (fun _ => (0, 0)) ad0 (ZX (g_b Γ) b L xs) room_1 RL code 4 (some .boolean) "law" 1051 [] [(5, (b : Int)), (3, 100), (3, 0), (0, i)] α μ cs sl := by
  refine V_iconst (q := 1052) dL_law_1051 rfl (by decide) ?_
  exact V_lawret dL_law_1052 hcs hsl
set_option maxHeartbeats 4000000 in
set_option maxRecDepth 20000 in
theorem law_loop {Γ : GC} {ad0 : Ad} {b L : Nat} {xs : Nat → Int32} (hb : b < g_b Γ) (hLn : L < 2147483648) (hL : L ≤ 3584) : ∀ (r n : Nat) (i : Int) (αC : Sh) (C M : Mem), n + r = 512 → i = 7 * n → INVL (1041 * n) M (gα αC) (mm M C) → V Γ (fun _ => (0, 0)) ad0 (ZX (g_b Γ) b L xs) room_1 RL code 4 (some .boolean) "law" 18 [] [(5, (b : Int)), (3, 100), (3, 0), (0, i)] (gα αC) (mm M C) (53 + 8 * n) (23953 + 793 * n) := by
  intro r
  induction r with
  | zero =>
    intro n i αC C M hr hin I
    refine V_iload_n (q := 19) dL_law_18 rfl rfl rfl ?_
    refine V_aloadR (q := 20) dL_law_19 rfl rfl rfl ?_
    refine V_slen (q := 21) dL_law_20 rfl hb hLn ?_
    refine V_bipush (q := 23) dL_law_21 rfl (by decide) ?_
    refine V_isub (q := 24) dL_law_23 rfl (by omega) (fun z23 ez23 => ?_)
    refine V_icmp_gt (q := 27) (tgt := 1051) dL_law_24 (by decide) rfl (fun c24 => ?_) (fun c24 => ?_)
    · exact law_tail hb hLn (by omega) (by omega)
    · exfalso; omega
  | succ r ih =>
    intro n i αC C M hr hin I
    have K : 0 ≤ i ∧ i + 7 ≤ (L : Int) → ∀ (αC : Sh) (C M : Mem), INVL (1041 * n + 1041) M (gα αC) (mm M C) → V Γ (fun _ => (0, 0)) ad0 (ZX (g_b Γ) b L xs) room_1 RL code 4 (some .boolean) "law" 1045 [] [(5, (b : Int)), (3, 100), (3, 0), (0, i)] (gα αC) (mm M C) (53 + 8 * n + 8) (23953 + 793 * n + 793) := by
      intro hi αC C M J
      refine V_iinc (q := 1048) dL_law_1045 rfl rfl (by decide) rfl (by omega) (fun z1045 lz1045 ez1045 hlz1045 => ?_)
      obtain rfl : lz1045 = [(5, (b : Int)), (3, 100), (3, 0), (0, z1045)] := hlz1045
      refine V_goto (tgt := 18) dL_law_1048 (by decide) ?_
      exact V_cs (by omega) (by omega) (ih (n + 1) z1045 αC C M (by omega) (by omega) (by rw [show ((1041 : Int) * ((n + 1 : Nat) : Int)) = 1041 * n + 1041 by omega]; exact J))
    refine V_iload_n (q := 19) dL_law_18 rfl rfl rfl ?_
    refine V_aloadR (q := 20) dL_law_19 rfl rfl rfl ?_
    refine V_slen (q := 21) dL_law_20 rfl hb hLn ?_
    refine V_bipush (q := 23) dL_law_21 rfl (by decide) ?_
    refine V_isub (q := 24) dL_law_23 rfl (by omega) (fun z23 ez23 => ?_)
    refine V_icmp_gt (q := 27) (tgt := 1051) dL_law_24 (by decide) rfl (fun c24 => ?_) (fun c24 => ?_)
    · exact law_tail hb hLn (by omega) (by omega)
    · refine V_aloadR (q := 28) dL_law_27 rfl rfl rfl ?_
      refine V_iload_n (q := 29) dL_law_28 rfl rfl rfl ?_
      refine V_sld (q := 30) dL_law_29 rfl hb hLn (by omega) (fun z29 ez29 rz29 => ?_)
      refine V_bipush (q := 32) dL_law_30 rfl (by decide) ?_
      refine V_iand (q := 33) dL_law_32 rfl (fun z32 rz32 => ?_)
      rcases (show z32 = 0 ∨ z32 = 1 ∨ z32 = 2 ∨ z32 = 3 ∨ z32 = 4 ∨ z32 = 5 ∨ z32 = 6 ∨ z32 = 7 ∨ z32 = 8 ∨ z32 = 9 ∨ z32 = 10 ∨ z32 = 11 ∨ z32 = 12 ∨ z32 = 13 ∨ z32 = 14 ∨ z32 = 15 ∨ z32 = 16 ∨ z32 = 17 ∨ z32 = 18 ∨ z32 = 19 ∨ z32 = 20 ∨ z32 = 21 ∨ z32 = 22 ∨ (z32 ≠ 0 ∧ z32 ≠ 1 ∧ z32 ≠ 2 ∧ z32 ≠ 3 ∧ z32 ≠ 4 ∧ z32 ≠ 5 ∧ z32 ≠ 6 ∧ z32 ≠ 7 ∧ z32 ≠ 8 ∧ z32 ≠ 9 ∧ z32 ≠ 10 ∧ z32 ≠ 11 ∧ z32 ≠ 12 ∧ z32 ≠ 13 ∧ z32 ≠ 14 ∧ z32 ≠ 15 ∧ z32 ≠ 16 ∧ z32 ≠ 17 ∧ z32 ≠ 18 ∧ z32 ≠ 19 ∧ z32 ≠ 20 ∧ z32 ≠ 21 ∧ z32 ≠ 22) by omega) with c33 | c33 | c33 | c33 | c33 | c33 | c33 | c33 | c33 | c33 | c33 | c33 | c33 | c33 | c33 | c33 | c33 | c33 | c33 | c33 | c33 | c33 | c33 | c33
      · subst c33
        refine V_tswIn (tgt := 140) (off := 107) dL_law_33 (by decide) (by decide) rfl (by decide) ?_
        exact law_cls hb hLn (by omega) (by omega) I (K (by omega))
      · subst c33
        refine V_tswIn (tgt := 189) (off := 156) dL_law_33 (by decide) (by decide) rfl (by decide) ?_
        exact law_face hb hLn (by omega) (by omega) I (K (by omega))
      · subst c33
        refine V_tswIn (tgt := 228) (off := 195) dL_law_33 (by decide) (by decide) rfl (by decide) ?_
        exact law_under hb hLn (by omega) (by omega) I (K (by omega))
      · subst c33
        refine V_tswIn (tgt := 261) (off := 228) dL_law_33 (by decide) (by decide) rfl (by decide) ?_
        exact law_field hb hLn (by omega) (by omega) I (K (by omega))
      · subst c33
        refine V_tswIn (tgt := 330) (off := 297) dL_law_33 (by decide) (by decide) rfl (by decide) ?_
        exact law_method hb hLn (by omega) (by omega) I (K (by omega))
      · subst c33
        refine V_tswIn (tgt := 363) (off := 330) dL_law_33 (by decide) (by decide) rfl (by decide) ?_
        exact law_act hb hLn (by omega) (by omega) I (K (by omega))
      · subst c33
        refine V_tswIn (tgt := 438) (off := 405) dL_law_33 (by decide) (by decide) rfl (by decide) ?_
        exact law_told hb hLn (by omega) (by omega) I (K (by omega))
      · subst c33
        refine V_tswIn (tgt := 471) (off := 438) dL_law_33 (by decide) (by decide) rfl (by decide) ?_
        exact law_below hb hLn (by omega) (by omega) I (K (by omega))
      · subst c33
        refine V_tswIn (tgt := 504) (off := 471) dL_law_33 (by decide) (by decide) rfl (by decide) ?_
        exact law_found hb hLn (by omega) (by omega) I (K (by omega))
      · subst c33
        refine V_tswIn (tgt := 563) (off := 530) dL_law_33 (by decide) (by decide) rfl (by decide) ?_
        exact law_asks hb hLn (by omega) (by omega) I (K (by omega))
      · subst c33
        refine V_tswIn (tgt := 596) (off := 563) dL_law_33 (by decide) (by decide) rfl (by decide) ?_
        exact law_round hb hLn (by omega) (by omega) I (K (by omega))
      · subst c33
        refine V_tswIn (tgt := 619) (off := 586) dL_law_33 (by decide) (by decide) rfl (by decide) ?_
        exact law_world hb hLn (by omega) (by omega) I (K (by omega))
      · subst c33
        refine V_tswIn (tgt := 632) (off := 599) dL_law_33 (by decide) (by decide) rfl (by decide) ?_
        exact law_gone hb hLn (by omega) (by omega) I (K (by omega))
      · subst c33
        refine V_tswIn (tgt := 645) (off := 612) dL_law_33 (by decide) (by decide) rfl (by decide) ?_
        exact law_touch hb hLn (by omega) (by omega) I (K (by omega))
      · subst c33
        refine V_tswIn (tgt := 708) (off := 675) dL_law_33 (by decide) (by decide) rfl (by decide) ?_
        exact law_foretell hb hLn (by omega) (by omega) I (K (by omega))
      · subst c33
        refine V_tswIn (tgt := 771) (off := 738) dL_law_33 (by decide) (by decide) rfl (by decide) ?_
        exact law_state hb hLn (by omega) (by omega) I (K (by omega))
      · subst c33
        refine V_tswIn (tgt := 804) (off := 771) dL_law_33 (by decide) (by decide) rfl (by decide) ?_
        exact law_began hb hLn (by omega) (by omega) I (K (by omega))
      · subst c33
        refine V_tswIn (tgt := 837) (off := 804) dL_law_33 (by decide) (by decide) rfl (by decide) ?_
        exact law_tape hb hLn (by omega) (by omega) I (K (by omega))
      · subst c33
        refine V_tswIn (tgt := 870) (off := 837) dL_law_33 (by decide) (by decide) rfl (by decide) ?_
        exact law_value hb hLn (by omega) (by omega) I (K (by omega))
      · subst c33
        refine V_tswIn (tgt := 913) (off := 880) dL_law_33 (by decide) (by decide) rfl (by decide) ?_
        exact law_failed hb hLn (by omega) (by omega) I (K (by omega))
      · subst c33
        refine V_tswIn (tgt := 946) (off := 913) dL_law_33 (by decide) (by decide) rfl (by decide) ?_
        exact law_spent hb hLn (by omega) (by omega) I (K (by omega))
      · subst c33
        refine V_tswIn (tgt := 979) (off := 946) dL_law_33 (by decide) (by decide) rfl (by decide) ?_
        exact law_many hb hLn (by omega) (by omega) I (K (by omega))
      · subst c33
        refine V_tswIn (tgt := 1012) (off := 979) dL_law_33 (by decide) (by decide) rfl (by decide) ?_
        exact law_differs hb hLn (by omega) (by omega) I (K (by omega))
      · refine V_tswOut (tgt := 1045) dL_law_33 (by omega) (by decide) ?_
        exact V_widen (by omega) (by omega) (K (by omega) _ _ _ ⟨I.1, LVL_mono (by omega) I.2.1, by omega, by omega⟩)
set_option maxHeartbeats 4000000 in
set_option maxRecDepth 20000 in
theorem law_all {Γ : GC} {ad0 : Ad} {b L : Nat} {xs : Nat → Int32} (hb : b < g_b Γ) (hLn : L < 2147483648) (hL : L ≤ 3584) : V Γ (fun _ => (0, 0)) ad0 (ZX (g_b Γ) b L xs) room_1 RL code 4 (some .boolean) "law" 0 [] [(5, (b : Int)), (9, 0), (9, 0), (9, 0)] (fun _ => (0, 0)) (fun _ _ => 0) 0 0 := by
  refine V_new (q := 3) (ci := 6) 100 dL_law_0 rfl ckL_7 rfl (by decide) (Nat.le_of_ble_eq_true rfl) (Nat.le_of_ble_eq_true rfl) (fun A0 M0 eA0 eM0 => ?_)
  refine V_dup (q := 4) dL_law_3 rfl (show (3 : Nat) ≠ 2 by decide) ?_
  refine V_chI (q := 7) (As := []) (tX6_init (show _ = (7, 0) by rw [eA0, sa_s]) (fun t h1 h2 => by rw [eA0, sa_t _ _ _ (by omega)])) dL_law_4 rfl mlL_9 mw_X6_init im_X6_init rfl md_X6_init (by decide) rfl rfl (by decide) (by decide) (Nat.le_of_ble_eq_true rfl) (Nat.le_of_ble_eq_true rfl) (Nat.le_of_ble_eq_true rfl) (fun A4 B4 x4 h4 => ?_)
  obtain ⟨n1, n2, n3, n4, n5, f4⟩ := h4
  refine V_astore_n (q := 8) (lv1 := [(5, (b : Int)), (3, 100), (9, 0), (9, 0)]) dL_law_7 rfl rfl (by decide) rfl rfl ?_
  refine V_new (q := 11) (ci := 7) 0 dL_law_8 rfl ckL_10 (by (rw [(f4 0 (by omega)).1, eA0, sa_t _ _ _ (by omega)]) <;> exact rfl) (by decide) (Nat.le_of_ble_eq_true rfl) (Nat.le_of_ble_eq_true rfl) (fun A8 M8 eA8 eM8 => ?_)
  refine V_dup (q := 12) dL_law_11 rfl (show (3 : Nat) ≠ 2 by decide) ?_
  rw [eA8, eM8]
  have hz : ∀ t : Int, 0 ≤ t → t ≤ 58 → A4 t = (0, 0) := fun t h1 h2 => by rw [(f4 t (by omega)).1, eA0, sa_t _ _ _ (by omega)]
  refine V_chI (q := 15) (As := []) (tX7_init hz) dL_law_12 rfl mlL_12 mw_X7_init im_X7_init rfl md_X7_init (by decide) rfl rfl (by decide) (by decide) (Nat.le_of_ble_eq_true rfl) (Nat.le_of_ble_eq_true rfl) (Nat.le_of_ble_eq_true rfl) (fun A12 B12 x12 h12 => ?_)
  obtain ⟨rfl, rfl⟩ := h12
  have I := INVL_0 n1 n2 n3 n4 n5 (fun t ht => by rw [(f4 t (by omega)).1, eA0, sa_t _ _ _ (by omega)]) (A1 := gα A4) (B1 := mm (M0w 12) B4) (fun t ht => ⟨gα_c (by omega), funext fun i => mm_c (by omega) i⟩)
  have I := INVL_0 n1 n2 n3 n4 n5 (fun t ht => by rw [(f4 t (by omega)).1, eA0, sa_t _ _ _ (by omega)]) (A1 := gα A4) (B1 := mm (M0w 12) B4) (fun t ht => ⟨gα_c (by omega), funext fun i => mm_c (by omega) i⟩)
  refine V_astore_n (q := 16) (lv1 := [(5, (b : Int)), (3, 100), (3, 0), (9, 0)]) dL_law_15 rfl rfl (by decide) rfl rfl ?_
  refine V_iconst (q := 17) dL_law_16 rfl (by decide) ?_
  refine V_istore_n (q := 18) (lv1 := [(5, (b : Int)), (3, 100), (3, 0), (0, 0)]) dL_law_17 rfl rfl (by decide) rfl rfl ?_
  exact V_cs rfl rfl (law_loop hb hLn hL 512 0 0 A4 B4 (M0w 12) rfl rfl I)
