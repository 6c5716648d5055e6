/-! ROWS FOR THE CLASS: calls that change nothing, calls that change cells, cells that are not there -/
theorem HR_mch {Γ : GC} {α : Sh} {μ μ1 : Mem} {ad : Ad} {H : Heap} (h : ∀ t, (α t).1 ≠ 0 → μ1 t = μ t) (hH : HR Γ α μ ad H) : HR Γ α μ1 ad H := by
  obtain ⟨⟨L, hn, hL, hP, hD⟩, hW⟩ := hH
  have e : hws Γ ad α μ1 L = hws Γ ad α μ L := List.map_congr_left fun t ht => by rw [h t ((hL t).mp ht)]
  refine ⟨⟨L, hn, hL, by rw [e]; exact hP, by rw [e]; exact hD⟩, fun t i ht => ?_⟩
  rw [h t ht]
  exact hW t i ht
section VCR
variable {Γ : GC} {α0 : Sh} {ad0 : Ad} {Z : ZT} {R : Room} {own : String} {cc : ByteArray} {nL : Nat} {ret : Option FieldType} {nm : String} {pc q : Nat} {st lv : List AV} {α : Sh} {μ : Mem} {cs sl : Nat}
theorem V_mch (μ1 : Mem) (h : ∀ t, (α t).1 ≠ 0 → μ1 t = μ t) (k : V Γ α0 ad0 Z R own cc nL ret nm pc st lv α μ1 cs sl) : V Γ α0 ad0 Z R own cc nL ret nm pc st lv α μ cs sl := by
  intro p e s m args below meth c ad H ls locs F hH
  exact k p e s m args below meth c ad H ls locs F (HR_mch h hH)
theorem V_wfm (k : WFm α μ → V Γ α0 ad0 Z R own cc nL ret nm pc st lv α μ cs sl) : V Γ α0 ad0 Z R own cc nL ret nm pc st lv α μ cs sl := by
  intro p e s m args below meth c ad H ls locs F hH
  exact k hH.2 p e s m args below meth c ad H ls locs F hH
theorem V_invSN {idx n d mc ms mL : Nat} {y : MethodName} {cy : ByteArray} {ry : Option FieldType} {As stk : List AV} {Q1 : Option AV → Sh → Mem → Prop} (hM : MT Γ y cy mL ry d mc ms As α μ Q1) (hd : decode cc pc = .ok (.invokestatic idx, 3)) (hp : pc + 3 = q) {host : String} (ml : Cond.methodLinkNest own idx y host ∈ lw_tbl) (mw : MWk y cy mL ry) (sm : SMk y) (md : MDk y n) (hn : As.length = n) (hstk : stk = As.reverse ++ st) (hf : d + 1 ≤ R.frames) (hlo : 8 + (mL + 11) + 64 * d ≤ R.locals) (hcs : cs + mc ≤ R.cells) (hsl : sl + ms ≤ R.slots) (hcat : catL st ≤ 8)
    (kk : ∀ r α1 μ1, (∀ u, (α u).1 ≠ 0 → α1 u = α u) → (∀ v ∈ r, okv α1 v) → Q1 r α1 μ1 → V Γ α0 ad0 Z R own cc nL ret nm q (r.toList ++ st) lv α1 μ1 (cs + mc) (sl + ms)) : V Γ α0 ad0 Z R own cc nL ret nm pc stk lv α μ cs sl := by
  intro p e s m args below meth c ad H ls locs F hH hE hst hlv hl hS
  subst hp
  subst hstk
  have hA : okl α As := fun v hv => hst v (List.mem_append_left _ (List.mem_reverse.mpr hv))
  have hst1 : okl α st := fun v hv => hst v (List.mem_append_right _ hv)
  have hrun := va_runSN (e := e) (meth := meth) (below := below) (locs := locs) (cells := cs) (slots := sl) (index := idx) (R := R) (As := As.map (cav ad)) (rest := st.map (cav ad)) (g := F0 m pc ls ((As.reverse ++ st).map (cav ad))) ⟨F.hx, F.hb, F.ml, F.ow, F.ts⟩ (hM hA ad) ⟨va_cnB n F.ts (gd_of mw) rfl rfl rfl (F.kf.2.2 _ _ _ _ ml) (F.w mw.2 rfl) md ⟨hf, hlo⟩, F.w sm rfl, trivial⟩ ⟨fun a U g mk hh => ⟨hh.1, ⟨hh.2.1.1.same rfl, hh.2.1.2⟩, hh.2.2⟩, fun U hU hW => ⟨rfl, ⟨F.kf.warm hW, by rw [hU]; exact Nat.le_trans F.bs hS.1⟩, by rw [hU]; exact hH⟩⟩ rfl (by rw [List.length_map]; exact hn) hl.1 (by show _ = _; rw [List.map_append, List.map_reverse]) (rm_lo hcat) hd ⟨hcs, hsl⟩
  exact W_call hrun F hE hst1 hlv hl hS kk

theorem V_rdV {idx ci n d mL : Nat} {b : Int} {y : MethodName} {cy : ByteArray} {ry : Option FieldType} {As stk : List AV} {P : Int → Prop} (hM : MT Γ y cy mL ry d 0 0 ((3, b) :: As) α μ (QI fun r α1 μ1 => α1 = α ∧ μ1 = μ ∧ P r)) (hd : decode cc pc = .ok (.invokevirtual idx, 3)) (hp : pc + 3 = q) (ml : MLk own idx y) (mw : MWk y cy mL ry) (im : IMk y) (sk : SLk y) (md : MDk y n) (hci : cR ci = y.cls) (h8 : ci < 8) (h0 : 0 ≤ b) (hα : (α b).1 = ci + 1) (hn : As.length = n) (hstk : stk = As.reverse ++ (3, b) :: st) (hf : d + 1 ≤ R.frames) (hlo : 8 + (mL + 11) + 64 * d ≤ R.locals) (hcs : cs ≤ R.cells) (hsl : sl ≤ R.slots) (hcat : catL st ≤ 8)
    (kk : ∀ z, inI z → P z → V Γ α0 ad0 Z R own cc nL ret nm q ((0, z) :: st) lv α μ cs sl) : V Γ α0 ad0 Z R own cc nL ret nm pc stk lv α μ cs sl := by
  refine V_invV hM hd hp ml mw im sk md hci h8 h0 hα hn hstk hf hlo hcs hsl hcat ?_
  rintro r α1 μ1 he hr ⟨v, rfl, rfl, rfl, hP⟩
  exact kk v (hr _ rfl) hP
theorem V_rdVJ {idx ci n d mL : Nat} {b : Int} {y : MethodName} {cy : ByteArray} {ry : Option FieldType} {As stk : List AV} {P : Int → Prop} (hM : MT Γ y cy mL ry d 0 0 ((3, b) :: As) α μ (QJ fun r α1 μ1 => α1 = α ∧ μ1 = μ ∧ P r)) (hd : decode cc pc = .ok (.invokevirtual idx, 3)) (hp : pc + 3 = q) (ml : MLk own idx y) (mw : MWk y cy mL ry) (im : IMk y) (sk : SLk y) (md : MDk y n) (hci : cR ci = y.cls) (h8 : ci < 8) (h0 : 0 ≤ b) (hα : (α b).1 = ci + 1) (hn : As.length = n) (hstk : stk = As.reverse ++ (3, b) :: st) (hf : d + 1 ≤ R.frames) (hlo : 8 + (mL + 11) + 64 * d ≤ R.locals) (hcs : cs ≤ R.cells) (hsl : sl ≤ R.slots) (hcat : catL st ≤ 8)
    (kk : ∀ z, inL z → P z → V Γ α0 ad0 Z R own cc nL ret nm q ((2, z) :: st) lv α μ cs sl) : V Γ α0 ad0 Z R own cc nL ret nm pc stk lv α μ cs sl := by
  refine V_invV hM hd hp ml mw im sk md hci h8 h0 hα hn hstk hf hlo hcs hsl hcat ?_
  rintro r α1 μ1 he hr ⟨v, rfl, rfl, rfl, hP⟩
  exact kk v (hr _ rfl) hP
theorem V_rdVA {idx ci n d mL : Nat} {b : Int} {y : MethodName} {cy : ByteArray} {ry : Option FieldType} {As stk : List AV} {P : Int → Prop} (hM : MT Γ y cy mL ry d 0 0 ((3, b) :: As) α μ (QA fun r α1 μ1 => α1 = α ∧ μ1 = μ ∧ P r)) (hd : decode cc pc = .ok (.invokevirtual idx, 3)) (hp : pc + 3 = q) (ml : MLk own idx y) (mw : MWk y cy mL ry) (im : IMk y) (sk : SLk y) (md : MDk y n) (hci : cR ci = y.cls) (h8 : ci < 8) (h0 : 0 ≤ b) (hα : (α b).1 = ci + 1) (hn : As.length = n) (hstk : stk = As.reverse ++ (3, b) :: st) (hf : d + 1 ≤ R.frames) (hlo : 8 + (mL + 11) + 64 * d ≤ R.locals) (hcs : cs ≤ R.cells) (hsl : sl ≤ R.slots) (hcat : catL st ≤ 8)
    (kk : ∀ z, (z < 0 ∨ (α z).1 ≠ 0) → P z → V Γ α0 ad0 Z R own cc nL ret nm q ((3, z) :: st) lv α μ cs sl) : V Γ α0 ad0 Z R own cc nL ret nm pc stk lv α μ cs sl := by
  refine V_invV hM hd hp ml mw im sk md hci h8 h0 hα hn hstk hf hlo hcs hsl hcat ?_
  rintro r α1 μ1 he hr ⟨v, rfl, rfl, rfl, hP⟩
  exact kk v (hr _ rfl) hP
theorem V_rdS {idx n d mL : Nat} {y : MethodName} {cy : ByteArray} {ry : Option FieldType} {As stk : List AV} {P : Int → Prop} (hM : MT Γ y cy mL ry d 0 0 (As) α μ (QI fun r α1 μ1 => α1 = α ∧ μ1 = μ ∧ P r)) (hd : decode cc pc = .ok (.invokestatic idx, 3)) (hp : pc + 3 = q) (ml : MLk own idx y) (mw : MWk y cy mL ry) (sm : SMk y) (md : MDk y n) (hn : As.length = n) (hstk : stk = As.reverse ++ st) (hf : d + 1 ≤ R.frames) (hlo : 8 + (mL + 11) + 64 * d ≤ R.locals) (hcs : cs ≤ R.cells) (hsl : sl ≤ R.slots) (hcat : catL st ≤ 8)
    (kk : ∀ z, inI z → P z → V Γ α0 ad0 Z R own cc nL ret nm q ((0, z) :: st) lv α μ cs sl) : V Γ α0 ad0 Z R own cc nL ret nm pc stk lv α μ cs sl := by
  refine V_invS hM hd hp ml mw sm md hn hstk hf hlo hcs hsl hcat ?_
  rintro r α1 μ1 he hr ⟨v, rfl, rfl, rfl, hP⟩
  exact kk v (hr _ rfl) hP
theorem V_rdSJ {idx n d mL : Nat} {y : MethodName} {cy : ByteArray} {ry : Option FieldType} {As stk : List AV} {P : Int → Prop} (hM : MT Γ y cy mL ry d 0 0 (As) α μ (QJ fun r α1 μ1 => α1 = α ∧ μ1 = μ ∧ P r)) (hd : decode cc pc = .ok (.invokestatic idx, 3)) (hp : pc + 3 = q) (ml : MLk own idx y) (mw : MWk y cy mL ry) (sm : SMk y) (md : MDk y n) (hn : As.length = n) (hstk : stk = As.reverse ++ st) (hf : d + 1 ≤ R.frames) (hlo : 8 + (mL + 11) + 64 * d ≤ R.locals) (hcs : cs ≤ R.cells) (hsl : sl ≤ R.slots) (hcat : catL st ≤ 8)
    (kk : ∀ z, inL z → P z → V Γ α0 ad0 Z R own cc nL ret nm q ((2, z) :: st) lv α μ cs sl) : V Γ α0 ad0 Z R own cc nL ret nm pc stk lv α μ cs sl := by
  refine V_invS hM hd hp ml mw sm md hn hstk hf hlo hcs hsl hcat ?_
  rintro r α1 μ1 he hr ⟨v, rfl, rfl, rfl, hP⟩
  exact kk v (hr _ rfl) hP
theorem V_rdSA {idx n d mL : Nat} {y : MethodName} {cy : ByteArray} {ry : Option FieldType} {As stk : List AV} {P : Int → Prop} (hM : MT Γ y cy mL ry d 0 0 (As) α μ (QA fun r α1 μ1 => α1 = α ∧ μ1 = μ ∧ P r)) (hd : decode cc pc = .ok (.invokestatic idx, 3)) (hp : pc + 3 = q) (ml : MLk own idx y) (mw : MWk y cy mL ry) (sm : SMk y) (md : MDk y n) (hn : As.length = n) (hstk : stk = As.reverse ++ st) (hf : d + 1 ≤ R.frames) (hlo : 8 + (mL + 11) + 64 * d ≤ R.locals) (hcs : cs ≤ R.cells) (hsl : sl ≤ R.slots) (hcat : catL st ≤ 8)
    (kk : ∀ z, (z < 0 ∨ (α z).1 ≠ 0) → P z → V Γ α0 ad0 Z R own cc nL ret nm q ((3, z) :: st) lv α μ cs sl) : V Γ α0 ad0 Z R own cc nL ret nm pc stk lv α μ cs sl := by
  refine V_invS hM hd hp ml mw sm md hn hstk hf hlo hcs hsl hcat ?_
  rintro r α1 μ1 he hr ⟨v, rfl, rfl, rfl, hP⟩
  exact kk v (hr _ rfl) hP
theorem V_rdSN {idx n d mL : Nat} {y : MethodName} {cy : ByteArray} {ry : Option FieldType} {As stk : List AV} {P : Int → Prop} (hM : MT Γ y cy mL ry d 0 0 (As) α μ (QI fun r α1 μ1 => α1 = α ∧ μ1 = μ ∧ P r)) (hd : decode cc pc = .ok (.invokestatic idx, 3)) (hp : pc + 3 = q) {host : String} (ml : Cond.methodLinkNest own idx y host ∈ lw_tbl) (mw : MWk y cy mL ry) (sm : SMk y) (md : MDk y n) (hn : As.length = n) (hstk : stk = As.reverse ++ st) (hf : d + 1 ≤ R.frames) (hlo : 8 + (mL + 11) + 64 * d ≤ R.locals) (hcs : cs ≤ R.cells) (hsl : sl ≤ R.slots) (hcat : catL st ≤ 8)
    (kk : ∀ z, inI z → P z → V Γ α0 ad0 Z R own cc nL ret nm q ((0, z) :: st) lv α μ cs sl) : V Γ α0 ad0 Z R own cc nL ret nm pc stk lv α μ cs sl := by
  refine V_invSN hM hd hp ml mw sm md hn hstk hf hlo hcs hsl hcat ?_
  rintro r α1 μ1 he hr ⟨v, rfl, rfl, rfl, hP⟩
  exact kk v (hr _ rfl) hP
theorem V_rdSNJ {idx n d mL : Nat} {y : MethodName} {cy : ByteArray} {ry : Option FieldType} {As stk : List AV} {P : Int → Prop} (hM : MT Γ y cy mL ry d 0 0 (As) α μ (QJ fun r α1 μ1 => α1 = α ∧ μ1 = μ ∧ P r)) (hd : decode cc pc = .ok (.invokestatic idx, 3)) (hp : pc + 3 = q) {host : String} (ml : Cond.methodLinkNest own idx y host ∈ lw_tbl) (mw : MWk y cy mL ry) (sm : SMk y) (md : MDk y n) (hn : As.length = n) (hstk : stk = As.reverse ++ st) (hf : d + 1 ≤ R.frames) (hlo : 8 + (mL + 11) + 64 * d ≤ R.locals) (hcs : cs ≤ R.cells) (hsl : sl ≤ R.slots) (hcat : catL st ≤ 8)
    (kk : ∀ z, inL z → P z → V Γ α0 ad0 Z R own cc nL ret nm q ((2, z) :: st) lv α μ cs sl) : V Γ α0 ad0 Z R own cc nL ret nm pc stk lv α μ cs sl := by
  refine V_invSN hM hd hp ml mw sm md hn hstk hf hlo hcs hsl hcat ?_
  rintro r α1 μ1 he hr ⟨v, rfl, rfl, rfl, hP⟩
  exact kk v (hr _ rfl) hP
theorem V_rdSNA {idx n d mL : Nat} {y : MethodName} {cy : ByteArray} {ry : Option FieldType} {As stk : List AV} {P : Int → Prop} (hM : MT Γ y cy mL ry d 0 0 (As) α μ (QA fun r α1 μ1 => α1 = α ∧ μ1 = μ ∧ P r)) (hd : decode cc pc = .ok (.invokestatic idx, 3)) (hp : pc + 3 = q) {host : String} (ml : Cond.methodLinkNest own idx y host ∈ lw_tbl) (mw : MWk y cy mL ry) (sm : SMk y) (md : MDk y n) (hn : As.length = n) (hstk : stk = As.reverse ++ st) (hf : d + 1 ≤ R.frames) (hlo : 8 + (mL + 11) + 64 * d ≤ R.locals) (hcs : cs ≤ R.cells) (hsl : sl ≤ R.slots) (hcat : catL st ≤ 8)
    (kk : ∀ z, (z < 0 ∨ (α z).1 ≠ 0) → P z → V Γ α0 ad0 Z R own cc nL ret nm q ((3, z) :: st) lv α μ cs sl) : V Γ α0 ad0 Z R own cc nL ret nm pc stk lv α μ cs sl := by
  refine V_invSN hM hd hp ml mw sm md hn hstk hf hlo hcs hsl hcat ?_
  rintro r α1 μ1 he hr ⟨v, rfl, rfl, rfl, hP⟩
  exact kk v (hr _ rfl) hP
theorem V_chV {idx ci n d mc ms mL : Nat} {b : Int} {y : MethodName} {cy : ByteArray} {As stk : List AV} {P : Sh → Mem → Prop} (hM : MT Γ y cy mL none d mc ms ((3, b) :: As) α μ (QN P)) (hd : decode cc pc = .ok (.invokevirtual idx, 3)) (hp : pc + 3 = q) (ml : MLk own idx y) (mw : MWk y cy mL none) (im : IMk y) (sk : SLk y) (md : MDk y n) (hci : cR ci = y.cls) (h8 : ci < 8) (h0 : 0 ≤ b) (hα : (α b).1 = ci + 1) (hn : As.length = n) (hstk : stk = As.reverse ++ (3, b) :: st) (hf : d + 1 ≤ R.frames) (hlo : 8 + (mL + 11) + 64 * d ≤ R.locals) (hcs : cs + mc ≤ R.cells) (hsl : sl + ms ≤ R.slots) (hcat : catL st ≤ 8)
    (kk : ∀ α1 μ1, (∀ u, (α u).1 ≠ 0 → α1 u = α u) → P α1 μ1 → V Γ α0 ad0 Z R own cc nL ret nm q (st) lv α1 μ1 (cs + mc) (sl + ms)) : V Γ α0 ad0 Z R own cc nL ret nm pc stk lv α μ cs sl := by
  refine V_invV hM hd hp ml mw im sk md hci h8 h0 hα hn hstk hf hlo hcs hsl hcat ?_
  rintro r α1 μ1 he hr ⟨rfl, hP⟩
  exact kk _ _ he hP
theorem V_chVi {idx ci n d mc ms mL : Nat} {b : Int} {y : MethodName} {cy : ByteArray} {ry : Option FieldType} {As stk : List AV} {P : Int → Sh → Mem → Prop} (hM : MT Γ y cy mL ry d mc ms ((3, b) :: As) α μ (QI P)) (hd : decode cc pc = .ok (.invokevirtual idx, 3)) (hp : pc + 3 = q) (ml : MLk own idx y) (mw : MWk y cy mL ry) (im : IMk y) (sk : SLk y) (md : MDk y n) (hci : cR ci = y.cls) (h8 : ci < 8) (h0 : 0 ≤ b) (hα : (α b).1 = ci + 1) (hn : As.length = n) (hstk : stk = As.reverse ++ (3, b) :: st) (hf : d + 1 ≤ R.frames) (hlo : 8 + (mL + 11) + 64 * d ≤ R.locals) (hcs : cs + mc ≤ R.cells) (hsl : sl + ms ≤ R.slots) (hcat : catL st ≤ 8)
    (kk : ∀ z, inI z → ∀ α1 μ1, (∀ u, (α u).1 ≠ 0 → α1 u = α u) → P z α1 μ1 → V Γ α0 ad0 Z R own cc nL ret nm q ((0, z) :: st) lv α1 μ1 (cs + mc) (sl + ms)) : V Γ α0 ad0 Z R own cc nL ret nm pc stk lv α μ cs sl := by
  refine V_invV hM hd hp ml mw im sk md hci h8 h0 hα hn hstk hf hlo hcs hsl hcat ?_
  rintro r α1 μ1 he hr ⟨v, rfl, hP⟩
  exact kk v (hr _ rfl) _ _ he hP
theorem V_chVj {idx ci n d mc ms mL : Nat} {b : Int} {y : MethodName} {cy : ByteArray} {ry : Option FieldType} {As stk : List AV} {P : Int → Sh → Mem → Prop} (hM : MT Γ y cy mL ry d mc ms ((3, b) :: As) α μ (QJ P)) (hd : decode cc pc = .ok (.invokevirtual idx, 3)) (hp : pc + 3 = q) (ml : MLk own idx y) (mw : MWk y cy mL ry) (im : IMk y) (sk : SLk y) (md : MDk y n) (hci : cR ci = y.cls) (h8 : ci < 8) (h0 : 0 ≤ b) (hα : (α b).1 = ci + 1) (hn : As.length = n) (hstk : stk = As.reverse ++ (3, b) :: st) (hf : d + 1 ≤ R.frames) (hlo : 8 + (mL + 11) + 64 * d ≤ R.locals) (hcs : cs + mc ≤ R.cells) (hsl : sl + ms ≤ R.slots) (hcat : catL st ≤ 8)
    (kk : ∀ z, inL z → ∀ α1 μ1, (∀ u, (α u).1 ≠ 0 → α1 u = α u) → P z α1 μ1 → V Γ α0 ad0 Z R own cc nL ret nm q ((2, z) :: st) lv α1 μ1 (cs + mc) (sl + ms)) : V Γ α0 ad0 Z R own cc nL ret nm pc stk lv α μ cs sl := by
  refine V_invV hM hd hp ml mw im sk md hci h8 h0 hα hn hstk hf hlo hcs hsl hcat ?_
  rintro r α1 μ1 he hr ⟨v, rfl, hP⟩
  exact kk v (hr _ rfl) _ _ he hP
theorem V_chS {idx n d mc ms mL : Nat} {y : MethodName} {cy : ByteArray} {As stk : List AV} {P : Sh → Mem → Prop} (hM : MT Γ y cy mL none d mc ms (As) α μ (QN P)) (hd : decode cc pc = .ok (.invokestatic idx, 3)) (hp : pc + 3 = q) (ml : MLk own idx y) (mw : MWk y cy mL none) (sm : SMk y) (md : MDk y n) (hn : As.length = n) (hstk : stk = As.reverse ++ st) (hf : d + 1 ≤ R.frames) (hlo : 8 + (mL + 11) + 64 * d ≤ R.locals) (hcs : cs + mc ≤ R.cells) (hsl : sl + ms ≤ R.slots) (hcat : catL st ≤ 8)
    (kk : ∀ α1 μ1, (∀ u, (α u).1 ≠ 0 → α1 u = α u) → P α1 μ1 → V Γ α0 ad0 Z R own cc nL ret nm q (st) lv α1 μ1 (cs + mc) (sl + ms)) : V Γ α0 ad0 Z R own cc nL ret nm pc stk lv α μ cs sl := by
  refine V_invS hM hd hp ml mw sm md hn hstk hf hlo hcs hsl hcat ?_
  rintro r α1 μ1 he hr ⟨rfl, hP⟩
  exact kk _ _ he hP
theorem V_chSi {idx n d mc ms mL : Nat} {y : MethodName} {cy : ByteArray} {ry : Option FieldType} {As stk : List AV} {P : Int → Sh → Mem → Prop} (hM : MT Γ y cy mL ry d mc ms (As) α μ (QI P)) (hd : decode cc pc = .ok (.invokestatic idx, 3)) (hp : pc + 3 = q) (ml : MLk own idx y) (mw : MWk y cy mL ry) (sm : SMk y) (md : MDk y n) (hn : As.length = n) (hstk : stk = As.reverse ++ st) (hf : d + 1 ≤ R.frames) (hlo : 8 + (mL + 11) + 64 * d ≤ R.locals) (hcs : cs + mc ≤ R.cells) (hsl : sl + ms ≤ R.slots) (hcat : catL st ≤ 8)
    (kk : ∀ z, inI z → ∀ α1 μ1, (∀ u, (α u).1 ≠ 0 → α1 u = α u) → P z α1 μ1 → V Γ α0 ad0 Z R own cc nL ret nm q ((0, z) :: st) lv α1 μ1 (cs + mc) (sl + ms)) : V Γ α0 ad0 Z R own cc nL ret nm pc stk lv α μ cs sl := by
  refine V_invS hM hd hp ml mw sm md hn hstk hf hlo hcs hsl hcat ?_
  rintro r α1 μ1 he hr ⟨v, rfl, hP⟩
  exact kk v (hr _ rfl) _ _ he hP
theorem V_chSj {idx n d mc ms mL : Nat} {y : MethodName} {cy : ByteArray} {ry : Option FieldType} {As stk : List AV} {P : Int → Sh → Mem → Prop} (hM : MT Γ y cy mL ry d mc ms (As) α μ (QJ P)) (hd : decode cc pc = .ok (.invokestatic idx, 3)) (hp : pc + 3 = q) (ml : MLk own idx y) (mw : MWk y cy mL ry) (sm : SMk y) (md : MDk y n) (hn : As.length = n) (hstk : stk = As.reverse ++ st) (hf : d + 1 ≤ R.frames) (hlo : 8 + (mL + 11) + 64 * d ≤ R.locals) (hcs : cs + mc ≤ R.cells) (hsl : sl + ms ≤ R.slots) (hcat : catL st ≤ 8)
    (kk : ∀ z, inL z → ∀ α1 μ1, (∀ u, (α u).1 ≠ 0 → α1 u = α u) → P z α1 μ1 → V Γ α0 ad0 Z R own cc nL ret nm q ((2, z) :: st) lv α1 μ1 (cs + mc) (sl + ms)) : V Γ α0 ad0 Z R own cc nL ret nm pc stk lv α μ cs sl := by
  refine V_invS hM hd hp ml mw sm md hn hstk hf hlo hcs hsl hcat ?_
  rintro r α1 μ1 he hr ⟨v, rfl, hP⟩
  exact kk v (hr _ rfl) _ _ he hP
theorem V_chI {idx n d mc ms mL : Nat} {b : Int} {y : MethodName} {cy : ByteArray} {As stk : List AV} {P : Sh → Mem → Prop} (hM : MT Γ y cy mL none d mc ms ((3, b) :: As) α μ (QN P)) (hd : decode cc pc = .ok (.invokespecial idx, 3)) (hp : pc + 3 = q) (ml : MLk own idx y) (mw : MWk y cy mL none) (im : IMk y) (hin : y.name = "<init>") (md : MDk y n) (h0 : 0 ≤ b) (hn : As.length = n) (hstk : stk = As.reverse ++ (3, b) :: st) (hf : d + 1 ≤ R.frames) (hlo : 8 + (mL + 11) + 64 * d ≤ R.locals) (hcs : cs + mc ≤ R.cells) (hsl : sl + ms ≤ R.slots) (hcat : catL st ≤ 8)
    (kk : ∀ α1 μ1, (∀ u, (α u).1 ≠ 0 → α1 u = α u) → P α1 μ1 → V Γ α0 ad0 Z R own cc nL ret nm q (st) lv α1 μ1 (cs + mc) (sl + ms)) : V Γ α0 ad0 Z R own cc nL ret nm pc stk lv α μ cs sl := by
  refine V_invI hM hd hp ml mw im hin md h0 hn hstk hf hlo hcs hsl hcat ?_
  rintro r α1 μ1 he hr ⟨rfl, hP⟩
  exact kk _ _ he hP
theorem V_chN {idx n d mc ms mL : Nat} {b : Int} {y : MethodName} {cy : ByteArray} {As stk : List AV} {P : Sh → Mem → Prop} (hM : MT Γ y cy mL none d mc ms ((3, b) :: As) α μ (QN P)) (hd : decode cc pc = .ok (.invokespecial idx, 3)) (hp : pc + 3 = q) {host : String} (ml : Cond.methodLinkNest own idx y host ∈ lw_tbl) (mw : MWk y cy mL none) (im : IMk y) (hin : y.name = "<init>") (md : MDk y n) (h0 : 0 ≤ b) (hn : As.length = n) (hstk : stk = As.reverse ++ (3, b) :: st) (hf : d + 1 ≤ R.frames) (hlo : 8 + (mL + 11) + 64 * d ≤ R.locals) (hcs : cs + mc ≤ R.cells) (hsl : sl + ms ≤ R.slots) (hcat : catL st ≤ 8)
    (kk : ∀ α1 μ1, (∀ u, (α u).1 ≠ 0 → α1 u = α u) → P α1 μ1 → V Γ α0 ad0 Z R own cc nL ret nm q (st) lv α1 μ1 (cs + mc) (sl + ms)) : V Γ α0 ad0 Z R own cc nL ret nm pc stk lv α μ cs sl := by
  refine V_invN hM hd hp ml mw im hin md h0 hn hstk hf hlo hcs hsl hcat ?_
  rintro r α1 μ1 he hr ⟨rfl, hP⟩
  exact kk _ _ he hP
end VCR
