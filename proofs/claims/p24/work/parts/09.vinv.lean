def MDk (y : MethodName) (n : Nat) : Prop := y.cls ≠ "java/lang/invoke/MethodHandle" ∧ y.cls ≠ "java/lang/invoke/VarHandle" ∧ (parseMethodDescriptor y.desc).map (fun d => d.parameters.length) = some n
theorem gd_all : GoodIn lw_good lw_good := fun w h => ⟨h, good_of_word (List.mem_filter.mp h).2⟩
theorem gd_of {y : MethodName} {cy : ByteArray} {mL : Nat} {ry : Option FieldType} (mw : MWk y cy mL ry) : GoodIn lw_good (wsOf y cy mL ry) := fun w h => (List.mem_cons.mp h).elim (fun e => e ▸ gd_all _ (lw_gd mw.1 rfl)) (fun h => gd_all w h)
/-- the answer is an int, a long, a reference, nothing -/
def QI (P : Int → Sh → Mem → Prop) : Option AV → Sh → Mem → Prop := fun r α μ => ∃ v, r = some (0, v) ∧ P v α μ
def QJ (P : Int → Sh → Mem → Prop) : Option AV → Sh → Mem → Prop := fun r α μ => ∃ v, r = some (2, v) ∧ P v α μ
def QA (P : Int → Sh → Mem → Prop) : Option AV → Sh → Mem → Prop := fun r α μ => ∃ v, r = some (3, v) ∧ P v α μ
def QN (P : Sh → Mem → Prop) : Option AV → Sh → Mem → Prop := fun r α μ => r = none ∧ P α μ
section VI
variable {Γ : GC} {α0 : Sh} {ad0 : Ad} {Z : ZT} {R : Room} {own : String} {cc : ByteArray} {nL : Nat} {ret : Option FieldType} {nm : String} {pc q : Nat} {st lv : List AV} {α : Sh} {μ : Mem} {cs sl : Nat}
theorem W_call {p : Program} {e : Env} {s : State} {m : MethodId} {args : Array Value} {below : List Frame} {meth : Method} {c : Code} {ad : Ad} {H : Heap} {ls : Array Slot} {locs : List Loc} {st0 : List Value} {Q1 : Option AV → Sh → Mem → Prop} {A : Array Value} {mc ms : Nat}
    (hr : va_Run p (g_l Γ) e R s m args below meth c H locs cs sl mc ms (F0 m pc ls st0) (st.map (cav ad)) (QC Γ α ad Q1 A) (fun q => g_b Γ ≤ q))
    (F : FX Γ p s m args meth c own cc nL ret nm) (hE : EX α0 ad0 α ad) (hst : okl α st) (hlv : okl α lv) (hl : lv_has ls nL (asc ad 0 lv)) (hS : va_S (fun q => g_b Γ ≤ q) s.heap H locs)
    (k : ∀ r α1 μ1, (∀ u, (α u).1 ≠ 0 → α1 u = α u) → (∀ v ∈ r, okv α1 v) → Q1 r α1 μ1 → V Γ α0 ad0 Z R own cc nL ret nm (pc + 3) (r.toList ++ st) lv α1 μ1 (cs + mc) (sl + ms)) :
    W p (g_l Γ) e R s m args below meth c H locs cs sl (Z s args below) (F0 m pc ls st0) := by
  intro T hT X
  obtain ⟨v, st₀, t, T', L, h0, X', hL, e1, e2, ⟨⟨r, α1, μ1, ad1, ho, hH1, hX, hr1, hQ⟩, hz, hk⟩, stp⟩ := hr T hT X
  cases ho
  rw [h0] at hz hk
  have hgo := k r α1 μ1 (fun u hu => (hX u hu).1) hr1 hQ p e s m args below meth c ad1 T'.heap ls (locs ++ L) F (by rw [e1]; exact hH1) (hE.trans hX) (okl_app (fun v hv => hr1 v (Option.mem_toList.mp hv)) (okl_ex hst hX)) (okl_ex hlv hX) (lv_ex hlv hX hl)
    ⟨Nat.le_trans hS.1 (by rw [e1]; exact hz), fun q h1 h2 => by rw [e1, hk q (Nat.lt_of_lt_of_le h1 hS.1) h2]; exact hS.2.1 q h1 h2, fun q hq => by
      rcases List.mem_append.mp hq with h | h
      · exact hS.2.2 q h
      · exact hL q h⟩
  rw [List.map_append, map_ex hst hX] at hgo
  obtain ⟨t2, a1, b1⟩ := hgo T' rfl X'
  refine ⟨t2, stp t2 ?_, b1⟩
  cases r <;> exact a1
theorem rm_lo {ad : Ad} {m : MethodId} {ls : Array Slot} {st0 : List Value} (h : catL st ≤ 8) : 2 * (F0 m pc ls st0).monitorRoom + ((st.map (cav ad)).map fun v => v.category).sum ≤ 8 := by
  rw [catL_eq]
  have : (F0 m pc ls st0).monitorRoom = 0 := rfl
  omega
theorem V_invV {idx ci n d mc ms mL : Nat} {y : MethodName} {cy : ByteArray} {ry : Option FieldType} {b : Int} {As stk : List AV} {Q1 : Option AV → Sh → Mem → Prop} (hM : MT Γ y cy mL ry d mc ms ((3, b) :: As) α μ Q1) (hd : decode cc pc = .ok (.invokevirtual idx, 3)) (hp : pc + 3 = q) (ml : MLk own idx y) (mw : MWk y cy mL ry) (im : IMk y) (sk : SLk y) (md : MDk y n) (hci : cR ci = y.cls) (h8 : ci < 8) (h0 : 0 ≤ b) (hα : (α b).1 = ci + 1) (hn : As.length = n) (hstk : stk = As.reverse ++ (3, b) :: st) (hf : d + 1 ≤ R.frames) (hlo : 8 + (mL + 11) + 64 * d ≤ R.locals) (hcs : cs + mc ≤ R.cells) (hsl : sl + ms ≤ R.slots) (hcat : catL st ≤ 8)
    (kk : ∀ r α1 μ1, (∀ u, (α u).1 ≠ 0 → α1 u = α u) → (∀ v ∈ r, okv α1 v) → Q1 r α1 μ1 → V Γ α0 ad0 Z R own cc nL ret nm q (r.toList ++ st) lv α1 μ1 (cs + mc) (sl + ms)) : V Γ α0 ad0 Z R own cc nL ret nm pc stk lv α μ cs sl := by
  intro p e s m args below meth c ad H ls locs F hH hE hst hlv hl hS
  subst hp
  subst hstk
  obtain ⟨⟨L, hnd, hL, hP, hD⟩, hW⟩ := id hH
  obtain ⟨q0, hq⟩ := List.mem_iff_getElem?.mp ((hL b).mpr (by omega))
  have he := hws_at (Γ := Γ) (ad := ad) (α := α) (μ := μ) hq
  rw [show α b = (ci + 1, (α b).2) from Prod.ext hα rfl, ec_c h8] at he
  have e1 : cav ad (3, b) = .ref (ad b) := if_neg (by omega)
  have hA : okl α As := fun v hv => hst v (List.mem_append_left _ (List.mem_reverse.mpr hv))
  have hst1 : okl α st := fun v hv => hst v (List.mem_append_right _ (List.mem_cons_of_mem _ hv))
  have hb : okv α (3, b) := hst _ (List.mem_append_right _ List.mem_cons_self)
  have hM1 := hM (okl_cons hb hA) ad
  rw [List.map_cons, e1] at hM1
  have hrec := va_recv (s := s) F.kf.1 hP (CL_at ci h8) he
  rw [hci] at hrec
  have hrun := va_runV (e := e) (meth := meth) (below := below) (locs := locs) (cells := cs) (slots := sl) (index := idx) (R := R) (As := As.map (cav ad)) (rest := st.map (cav ad)) (b := ad b) (C := y.cls) (g := F0 m pc ls ((As.reverse ++ (3, b) :: st).map (cav ad))) ⟨F.hx, F.hb, F.ml, F.ow, F.ts⟩ hM1 (cwV n F.ts (fun w hw => by
      simp only [wsV, List.cons_append, List.nil_append, List.mem_cons] at hw
      rcases hw with rfl | rfl | rfl | rfl | hw
      · exact gd_all _ (lw_gd ml rfl)
      · exact gd_all _ (lw_gd im rfl)
      · exact gd_all _ (lw_gd sk rfl)
      · exact gd_all _ (lw_gd mw.2 rfl)
      · exact gd_of mw w hw) rfl rfl rfl ⟨rfl, md⟩ ⟨hf, hlo⟩) ⟨fun a U g mk hh => ⟨hh.1, ⟨hh.2.1.1.same rfl, hh.2.1.2⟩, hh.2.2⟩, hrec, fun U hU hW => ⟨rfl, ⟨F.kf.warm hW, by rw [hU]; exact Nat.le_trans F.bs hS.1⟩, by rw [hU]; exact hH⟩⟩ rfl (by rw [List.length_map]; exact hn) hl.1 (by show _ = _; rw [List.map_append, List.map_reverse, List.map_cons, e1]) (rm_lo hcat) hd ⟨hcs, hsl⟩
  exact W_call hrun F hE hst1 hlv hl hS kk
theorem V_invS {idx n d mc ms mL : Nat} {y : MethodName} {cy : ByteArray} {ry : Option FieldType} {As stk : List AV} {Q1 : Option AV → Sh → Mem → Prop} (hM : MT Γ y cy mL ry d mc ms As α μ Q1) (hd : decode cc pc = .ok (.invokestatic idx, 3)) (hp : pc + 3 = q) (ml : MLk own idx y) (mw : MWk y cy mL ry) (sm : SMk y) (md : MDk y n) (hn : As.length = n) (hstk : stk = As.reverse ++ st) (hf : d + 1 ≤ R.frames) (hlo : 8 + (mL + 11) + 64 * d ≤ R.locals) (hcs : cs + mc ≤ R.cells) (hsl : sl + ms ≤ R.slots) (hcat : catL st ≤ 8)
    (kk : ∀ r α1 μ1, (∀ u, (α u).1 ≠ 0 → α1 u = α u) → (∀ v ∈ r, okv α1 v) → Q1 r α1 μ1 → V Γ α0 ad0 Z R own cc nL ret nm q (r.toList ++ st) lv α1 μ1 (cs + mc) (sl + ms)) : V Γ α0 ad0 Z R own cc nL ret nm pc stk lv α μ cs sl := by
  intro p e s m args below meth c ad H ls locs F hH hE hst hlv hl hS
  subst hp
  subst hstk
  have hA : okl α As := fun v hv => hst v (List.mem_append_left _ (List.mem_reverse.mpr hv))
  have hst1 : okl α st := fun v hv => hst v (List.mem_append_right _ hv)
  have hrun := va_runS (e := e) (meth := meth) (below := below) (locs := locs) (cells := cs) (slots := sl) (index := idx) (R := R) (As := As.map (cav ad)) (rest := st.map (cav ad)) (g := F0 m pc ls ((As.reverse ++ st).map (cav ad))) ⟨F.hx, F.hb, F.ml, F.ow, F.ts⟩ (hM hA ad) (va_cwS n F.ts (fun w hw => by
      simp only [va_wsS, List.cons_append, List.nil_append, List.mem_cons] at hw
      rcases hw with rfl | rfl | rfl | hw
      · exact gd_all _ (lw_gd ml rfl)
      · exact gd_all _ (lw_gd sm rfl)
      · exact gd_all _ (lw_gd mw.2 rfl)
      · exact gd_of mw w hw) rfl rfl rfl md ⟨hf, hlo⟩) ⟨fun a U g mk hh => ⟨hh.1, ⟨hh.2.1.1.same rfl, hh.2.1.2⟩, hh.2.2⟩, fun U hU hW => ⟨rfl, ⟨F.kf.warm hW, by rw [hU]; exact Nat.le_trans F.bs hS.1⟩, by rw [hU]; exact hH⟩⟩ rfl (by rw [List.length_map]; exact hn) hl.1 (by show _ = _; rw [List.map_append, List.map_reverse]) (rm_lo hcat) hd ⟨hcs, hsl⟩
  exact W_call hrun F hE hst1 hlv hl hS kk
theorem V_invI {idx n d mc ms mL : Nat} {y : MethodName} {cy : ByteArray} {b : Int} {As stk : List AV} {Q1 : Option AV → Sh → Mem → Prop} (hM : MT Γ y cy mL none d mc ms ((3, b) :: As) α μ Q1) (hd : decode cc pc = .ok (.invokespecial idx, 3)) (hp : pc + 3 = q) (ml : MLk own idx y) (mw : MWk y cy mL none) (im : IMk y) (hin : y.name = "<init>") (md : MDk y n) (h0 : 0 ≤ b) (hn : As.length = n) (hstk : stk = As.reverse ++ (3, b) :: st) (hf : d + 1 ≤ R.frames) (hlo : 8 + (mL + 11) + 64 * d ≤ R.locals) (hcs : cs + mc ≤ R.cells) (hsl : sl + ms ≤ R.slots) (hcat : catL st ≤ 8)
    (kk : ∀ r α1 μ1, (∀ u, (α u).1 ≠ 0 → α1 u = α u) → (∀ v ∈ r, okv α1 v) → Q1 r α1 μ1 → V Γ α0 ad0 Z R own cc nL ret nm q (r.toList ++ st) lv α1 μ1 (cs + mc) (sl + ms)) : V Γ α0 ad0 Z R own cc nL ret nm pc stk lv α μ cs sl := by
  intro p e s m args below meth c ad H ls locs F hH hE hst hlv hl hS
  subst hp
  subst hstk
  have e1 : cav ad (3, b) = .ref (ad b) := if_neg (by omega)
  have hA : okl α As := fun v hv => hst v (List.mem_append_left _ (List.mem_reverse.mpr hv))
  have hst1 : okl α st := fun v hv => hst v (List.mem_append_right _ (List.mem_cons_of_mem _ hv))
  have hb : okv α (3, b) := hst _ (List.mem_append_right _ List.mem_cons_self)
  have hM1 := hM (okl_cons hb hA) ad
  rw [List.map_cons, e1] at hM1
  have hrun := va_runI (e := e) (meth := meth) (below := below) (locs := locs) (cells := cs) (slots := sl) (index := idx) (R := R) (As := As.map (cav ad)) (rest := st.map (cav ad)) (b := ad b) (g := F0 m pc ls ((As.reverse ++ (3, b) :: st).map (cav ad))) ⟨F.hx, F.hb, F.ml, F.ow, F.ts⟩ hM1 (cwI n F.ts (gd_of mw) rfl rfl rfl (F.w mw.2 rfl) (F.w ml rfl) (F.w im rfl) hin md ⟨hf, hlo⟩) ⟨fun a U g mk hh => ⟨hh.1, ⟨hh.2.1.1.same rfl, hh.2.1.2⟩, hh.2.2⟩, fun U hU hW => ⟨rfl, ⟨F.kf.warm hW, by rw [hU]; exact Nat.le_trans F.bs hS.1⟩, by rw [hU]; exact hH⟩⟩ rfl (by rw [List.length_map]; exact hn) hl.1 (by show _ = _; rw [List.map_append, List.map_reverse, List.map_cons, e1]) (rm_lo hcat) hd ⟨hcs, hsl⟩
  exact W_call hrun F hE hst1 hlv hl hS kk
theorem V_invN {idx n d mc ms mL : Nat} {y : MethodName} {cy : ByteArray} {b : Int} {As stk : List AV} {Q1 : Option AV → Sh → Mem → Prop} (hM : MT Γ y cy mL none d mc ms ((3, b) :: As) α μ Q1) (hd : decode cc pc = .ok (.invokespecial idx, 3)) (hp : pc + 3 = q) {host : String} (ml : Cond.methodLinkNest own idx y host ∈ lw_tbl) (mw : MWk y cy mL none) (im : IMk y) (hin : y.name = "<init>") (md : MDk y n) (h0 : 0 ≤ b) (hn : As.length = n) (hstk : stk = As.reverse ++ (3, b) :: st) (hf : d + 1 ≤ R.frames) (hlo : 8 + (mL + 11) + 64 * d ≤ R.locals) (hcs : cs + mc ≤ R.cells) (hsl : sl + ms ≤ R.slots) (hcat : catL st ≤ 8)
    (kk : ∀ r α1 μ1, (∀ u, (α u).1 ≠ 0 → α1 u = α u) → (∀ v ∈ r, okv α1 v) → Q1 r α1 μ1 → V Γ α0 ad0 Z R own cc nL ret nm q (r.toList ++ st) lv α1 μ1 (cs + mc) (sl + ms)) : V Γ α0 ad0 Z R own cc nL ret nm pc stk lv α μ cs sl := by
  intro p e s m args below meth c ad H ls locs F hH hE hst hlv hl hS
  subst hp
  subst hstk
  have e1 : cav ad (3, b) = .ref (ad b) := if_neg (by omega)
  have hA : okl α As := fun v hv => hst v (List.mem_append_left _ (List.mem_reverse.mpr hv))
  have hst1 : okl α st := fun v hv => hst v (List.mem_append_right _ (List.mem_cons_of_mem _ hv))
  have hb : okv α (3, b) := hst _ (List.mem_append_right _ List.mem_cons_self)
  have hM1 := hM (okl_cons hb hA) ad
  rw [List.map_cons, e1] at hM1
  have hrun := va_runIN (e := e) (meth := meth) (below := below) (locs := locs) (cells := cs) (slots := sl) (index := idx) (R := R) (As := As.map (cav ad)) (rest := st.map (cav ad)) (b := ad b) (g := F0 m pc ls ((As.reverse ++ (3, b) :: st).map (cav ad))) ⟨F.hx, F.hb, F.ml, F.ow, F.ts⟩ hM1 (⟨va_cnB n F.ts (gd_of mw) rfl rfl rfl (F.kf.2.2 _ _ _ _ ml) (F.w mw.2 rfl) md ⟨hf, hlo⟩, hin, F.w im rfl⟩) ⟨fun a U g mk hh => ⟨hh.1, ⟨hh.2.1.1.same rfl, hh.2.1.2⟩, hh.2.2⟩, fun U hU hW => ⟨rfl, ⟨F.kf.warm hW, by rw [hU]; exact Nat.le_trans F.bs hS.1⟩, by rw [hU]; exact hH⟩⟩ rfl (by rw [List.length_map]; exact hn) hl.1 (by show _ = _; rw [List.map_append, List.map_reverse, List.map_cons, e1]) (rm_lo hcat) hd ⟨hcs, hsl⟩
  exact W_call hrun F hE hst1 hlv hl hS kk
theorem HR_drop {α1 : Sh} {ad : Ad} {H : Heap} (hH : HR Γ α μ ad H) (hα : ∀ u, (α1 u).1 ≠ 0 → α u = α1 u) (hw : WFm α1 μ) : HR Γ α1 μ ad H := by
  obtain ⟨⟨L, hn, hL, hP, hD⟩, -⟩ := hH
  have hsub : ∀ (k : Nat) (x : Nat × va_E), (hws Γ ad α1 μ (L.filter fun t => (α1 t).1 != 0))[k]? = some x → ∃ (t : Int) (i : Nat), L[i]? = some t ∧ x = (ad t, ec Γ ad (α t) (μ t)) ∧ (L.filter fun t => (α1 t).1 != 0)[k]? = some t := by
    intro k x hk
    unfold hws at hk
    rw [List.getElem?_map] at hk
    cases hu : (L.filter fun t => (α1 t).1 != 0)[k]? with
    | none => rw [hu] at hk; cases hk
    | some t =>
      rw [hu] at hk
      have hm := List.mem_filter.mp (List.mem_of_getElem? hu)
      obtain ⟨i, hi⟩ := List.mem_iff_getElem?.mp hm.1
      exact ⟨t, i, hi, by rw [hα t (by simpa using hm.2)]; exact (Option.some.inj hk).symm, rfl⟩
  have hnf : (L.filter fun t => (α1 t).1 != 0).Nodup := List.filter_sublist.nodup hn
  refine ⟨⟨L.filter fun t => (α1 t).1 != 0, hnf, fun t => ?_, fun k x hk => ?_, ⟨fun i j x y hi hj hxy => ?_, fun k x hk => ?_⟩⟩, hw⟩
  · rw [List.mem_filter]
    constructor
    · intro h; simpa using h.2
    · intro h; exact ⟨(hL t).mpr (by rw [hα t h]; exact h), by simpa using h⟩
  · obtain ⟨t, i, h1, h2, -⟩ := hsub k x hk
    subst h2
    exact hP i _ (hws_at h1)
  · obtain ⟨t, i1, h1, h2, h3⟩ := hsub i x hi
    obtain ⟨u, j1, h4, h5, h6⟩ := hsub j y hj
    subst h2; subst h5
    have h7 := hD.1 i1 j1 _ _ (hws_at h1) (hws_at h4) hxy
    subst h7
    rw [h1] at h4
    cases h4
    exact (List.getElem?_inj (List.getElem?_eq_some_iff.mp h3).1 hnf).mp (h3.trans h6.symm)
  · obtain ⟨t, i1, h1, h2, h3⟩ := hsub k x hk
    subst h2
    exact hD.2 i1 _ (hws_at h1)
theorem V_iretW {x : Int} {Q : Option AV → Sh → Mem → Prop} {mc ms : Nat} (α1 : Sh) (hd : decode cc pc = .ok (.ireturn, 1)) (hcs : cs ≤ mc) (hsl : sl ≤ ms) (hα : ∀ u, (α1 u).1 ≠ 0 → α u = α1 u) (h01 : ∀ u, (α0 u).1 ≠ 0 → α1 u = α0 u) (hw : WFm α μ → WFm α1 μ) (hr : ∀ v ∈ (some (0, x) : Option AV), okv α v → okv α1 v) (hq : Q (some (0, x)) α1 μ) : V Γ α0 ad0 (ZM Γ α0 ad0 Q mc ms) R own cc nL (some .int) nm pc [(0, x)] lv α μ cs sl := by
  intro p e s m args below meth c ad H ls locs F hH hE hst hlv hl hS
  refine W.widen hcs hsl ?_
  have hqq : ∀ t : State, t.heap = H → s.WarmedH t.vm → QC Γ α0 ad0 Q args s (.returned ((some (0, x) : Option AV).map (cav ad))) t := by
    intro t ht _
    refine ⟨⟨some (0, x), α1, μ, ad, rfl, ?_, fun u hu => ⟨h01 u hu, (hE u hu).2⟩, fun v hv => hr v hv (hst v (by cases hv; exact List.mem_cons_self)), hq⟩, hS.F ht⟩
    rw [ht]
    exact HR_drop hH hα (hw hH.2)
  exact W.iret F.hx F.hb F.rt (hqq) hS.2.2 hd F.lk
theorem V_zretW {x : Int} {Q : Option AV → Sh → Mem → Prop} {mc ms : Nat} (α1 : Sh) (hd : decode cc pc = .ok (.ireturn, 1)) (hb : 0 ≤ x ∧ x ≤ 1) (hcs : cs ≤ mc) (hsl : sl ≤ ms) (hα : ∀ u, (α1 u).1 ≠ 0 → α u = α1 u) (h01 : ∀ u, (α0 u).1 ≠ 0 → α1 u = α0 u) (hw : WFm α μ → WFm α1 μ) (hr : ∀ v ∈ (some (0, x) : Option AV), okv α v → okv α1 v) (hq : Q (some (0, x)) α1 μ) : V Γ α0 ad0 (ZM Γ α0 ad0 Q mc ms) R own cc nL (some .boolean) nm pc [(0, x)] lv α μ cs sl := by
  intro p e s m args below meth c ad H ls locs F hH hE hst hlv hl hS
  refine W.widen hcs hsl ?_
  have hqq : ∀ t : State, t.heap = H → s.WarmedH t.vm → QC Γ α0 ad0 Q args s (.returned ((some (0, x) : Option AV).map (cav ad))) t := by
    intro t ht _
    refine ⟨⟨some (0, x), α1, μ, ad, rfl, ?_, fun u hu => ⟨h01 u hu, (hE u hu).2⟩, fun v hv => hr v hv (hst v (by cases hv; exact List.mem_cons_self)), hq⟩, hS.F ht⟩
    rw [ht]
    exact HR_drop hH hα (hw hH.2)
  exact W.zret F.hx F.hb F.rt (by rcases kv_bool hb with rfl | rfl <;> rfl) (hqq) hS.2.2 hd F.lk
theorem V_lretW {x : Int} {Q : Option AV → Sh → Mem → Prop} {mc ms : Nat} (α1 : Sh) (hd : decode cc pc = .ok (.lreturn, 1)) (hcs : cs ≤ mc) (hsl : sl ≤ ms) (hα : ∀ u, (α1 u).1 ≠ 0 → α u = α1 u) (h01 : ∀ u, (α0 u).1 ≠ 0 → α1 u = α0 u) (hw : WFm α μ → WFm α1 μ) (hr : ∀ v ∈ (some (2, x) : Option AV), okv α v → okv α1 v) (hq : Q (some (2, x)) α1 μ) : V Γ α0 ad0 (ZM Γ α0 ad0 Q mc ms) R own cc nL (some .long) nm pc [(2, x)] lv α μ cs sl := by
  intro p e s m args below meth c ad H ls locs F hH hE hst hlv hl hS
  refine W.widen hcs hsl ?_
  have hqq : ∀ t : State, t.heap = H → s.WarmedH t.vm → QC Γ α0 ad0 Q args s (.returned ((some (2, x) : Option AV).map (cav ad))) t := by
    intro t ht _
    refine ⟨⟨some (2, x), α1, μ, ad, rfl, ?_, fun u hu => ⟨h01 u hu, (hE u hu).2⟩, fun v hv => hr v hv (hst v (by cases hv; exact List.mem_cons_self)), hq⟩, hS.F ht⟩
    rw [ht]
    exact HR_drop hH hα (hw hH.2)
  exact W.lret F.hx F.hb F.rt (hqq) hS.2.2 hd F.lk
theorem V_aretW {E0 : String} {x : Int} {Q : Option AV → Sh → Mem → Prop} {mc ms : Nat} (α1 : Sh) (hd : decode cc pc = .ok (.areturn, 1)) (hcs : cs ≤ mc) (hsl : sl ≤ ms) (hα : ∀ u, (α1 u).1 ≠ 0 → α u = α1 u) (h01 : ∀ u, (α0 u).1 ≠ 0 → α1 u = α0 u) (hw : WFm α μ → WFm α1 μ) (hr : ∀ v ∈ (some (3, x) : Option AV), okv α v → okv α1 v) (hq : Q (some (3, x)) α1 μ) : V Γ α0 ad0 (ZM Γ α0 ad0 Q mc ms) R own cc nL (some (.object E0)) nm pc [(3, x)] lv α μ cs sl := by
  intro p e s m args below meth c ad H ls locs F hH hE hst hlv hl hS
  refine W.widen hcs hsl ?_
  have hqq : ∀ t : State, t.heap = H → s.WarmedH t.vm → QC Γ α0 ad0 Q args s (.returned ((some (3, x) : Option AV).map (cav ad))) t := by
    intro t ht _
    refine ⟨⟨some (3, x), α1, μ, ad, rfl, ?_, fun u hu => ⟨h01 u hu, (hE u hu).2⟩, fun v hv => hr v hv (hst v (by cases hv; exact List.mem_cons_self)), hq⟩, hS.F ht⟩
    rw [ht]
    exact HR_drop hH hα (hw hH.2)
  refine W.aret F.hx F.hb F.rt (Or.inl ⟨_, rfl⟩) ?_ (hqq) hS.2.2 hd F.lk
  show (if x < 0 then Value.null else Value.ref (ad x)) = _ ∨ ∃ a, (if x < 0 then Value.null else Value.ref (ad x)) = _
  by_cases h : x < 0
  · exact Or.inl (if_pos h)
  · exact Or.inr ⟨_, if_neg h⟩
theorem V_vretW {Q : Option AV → Sh → Mem → Prop} {mc ms : Nat} (α1 : Sh) (hd : decode cc pc = .ok (.return_, 1)) (hcs : cs ≤ mc) (hsl : sl ≤ ms) (hα : ∀ u, (α1 u).1 ≠ 0 → α u = α1 u) (h01 : ∀ u, (α0 u).1 ≠ 0 → α1 u = α0 u) (hw : WFm α μ → WFm α1 μ) (hr : ∀ v ∈ (none : Option AV), okv α v → okv α1 v) (hq : Q (none) α1 μ) : V Γ α0 ad0 (ZM Γ α0 ad0 Q mc ms) R own cc nL none nm pc [] lv α μ cs sl := by
  intro p e s m args below meth c ad H ls locs F hH hE hst hlv hl hS
  refine W.widen hcs hsl ?_
  have hqq : ∀ t : State, t.heap = H → s.WarmedH t.vm → QC Γ α0 ad0 Q args s (.returned ((none : Option AV).map (cav ad))) t := by
    intro t ht _
    refine ⟨⟨none, α1, μ, ad, rfl, ?_, fun u hu => ⟨h01 u hu, (hE u hu).2⟩, fun v hv => hr v hv (hst v (by cases hv)), hq⟩, hS.F ht⟩
    rw [ht]
    exact HR_drop hH hα (hw hH.2)
  exact W.vret F.hx F.hb F.rt (hqq) hS.2.2 hd F.lk
theorem V_iret {x : Int} {Q : Option AV → Sh → Mem → Prop} {mc ms : Nat} (hd : decode cc pc = .ok (.ireturn, 1)) (hcs : cs ≤ mc) (hsl : sl ≤ ms) (hq : Q (some (0, x)) α μ) : V Γ α0 ad0 (ZM Γ α0 ad0 Q mc ms) R own cc nL (some .int) nm pc [(0, x)] lv α μ cs sl := by
  intro p e s m args below meth c ad H ls locs F hH hE
  exact V_iretW α hd hcs hsl (fun _ _ => rfl) (fun u hu => (hE u hu).1) id (fun _ _ h => h) hq p e s m args below meth c ad H ls locs F hH hE
theorem V_zret {x : Int} {Q : Option AV → Sh → Mem → Prop} {mc ms : Nat} (hd : decode cc pc = .ok (.ireturn, 1)) (hb : 0 ≤ x ∧ x ≤ 1) (hcs : cs ≤ mc) (hsl : sl ≤ ms) (hq : Q (some (0, x)) α μ) : V Γ α0 ad0 (ZM Γ α0 ad0 Q mc ms) R own cc nL (some .boolean) nm pc [(0, x)] lv α μ cs sl := by
  intro p e s m args below meth c ad H ls locs F hH hE
  exact V_zretW α hd hb hcs hsl (fun _ _ => rfl) (fun u hu => (hE u hu).1) id (fun _ _ h => h) hq p e s m args below meth c ad H ls locs F hH hE
theorem V_lret {x : Int} {Q : Option AV → Sh → Mem → Prop} {mc ms : Nat} (hd : decode cc pc = .ok (.lreturn, 1)) (hcs : cs ≤ mc) (hsl : sl ≤ ms) (hq : Q (some (2, x)) α μ) : V Γ α0 ad0 (ZM Γ α0 ad0 Q mc ms) R own cc nL (some .long) nm pc [(2, x)] lv α μ cs sl := by
  intro p e s m args below meth c ad H ls locs F hH hE
  exact V_lretW α hd hcs hsl (fun _ _ => rfl) (fun u hu => (hE u hu).1) id (fun _ _ h => h) hq p e s m args below meth c ad H ls locs F hH hE
theorem V_aret {E0 : String} {x : Int} {Q : Option AV → Sh → Mem → Prop} {mc ms : Nat} (hd : decode cc pc = .ok (.areturn, 1)) (hcs : cs ≤ mc) (hsl : sl ≤ ms) (hq : Q (some (3, x)) α μ) : V Γ α0 ad0 (ZM Γ α0 ad0 Q mc ms) R own cc nL (some (.object E0)) nm pc [(3, x)] lv α μ cs sl := by
  intro p e s m args below meth c ad H ls locs F hH hE
  exact V_aretW α hd hcs hsl (fun _ _ => rfl) (fun u hu => (hE u hu).1) id (fun _ _ h => h) hq p e s m args below meth c ad H ls locs F hH hE
theorem V_vret {Q : Option AV → Sh → Mem → Prop} {mc ms : Nat} (hd : decode cc pc = .ok (.return_, 1)) (hcs : cs ≤ mc) (hsl : sl ≤ ms) (hq : Q (none) α μ) : V Γ α0 ad0 (ZM Γ α0 ad0 Q mc ms) R own cc nL none nm pc [] lv α μ cs sl := by
  intro p e s m args below meth c ad H ls locs F hH hE
  exact V_vretW α hd hcs hsl (fun _ _ => rfl) (fun u hu => (hE u hu).1) id (fun _ _ h => h) hq p e s m args below meth c ad H ls locs F hH hE
end VI
theorem md_X6_init : MDk yX6_init 0 := ⟨by decide +kernel, by decide +kernel, by decide +kernel⟩
theorem pn_X6_init : plainName yX6_init.cls = true := by decide +kernel
theorem md_X6_act : MDk yX6_act 6 := ⟨by decide +kernel, by decide +kernel, by decide +kernel⟩
theorem pn_X6_act : plainName yX6_act.cls = true := by decide +kernel
theorem md_X6_addType : MDk yX6_addType 3 := ⟨by decide +kernel, by decide +kernel, by decide +kernel⟩
theorem pn_X6_addType : plainName yX6_addType.cls = true := by decide +kernel
theorem md_X6_asks : MDk yX6_asks 2 := ⟨by decide +kernel, by decide +kernel, by decide +kernel⟩
theorem pn_X6_asks : plainName yX6_asks.cls = true := by decide +kernel
theorem md_X6_began : MDk yX6_began 2 := ⟨by decide +kernel, by decide +kernel, by decide +kernel⟩
theorem pn_X6_began : plainName yX6_began.cls = true := by decide +kernel
theorem md_X6_below : MDk yX6_below 2 := ⟨by decide +kernel, by decide +kernel, by decide +kernel⟩
theorem pn_X6_below : plainName yX6_below.cls = true := by decide +kernel
theorem md_X6_cls : MDk yX6_cls 2 := ⟨by decide +kernel, by decide +kernel, by decide +kernel⟩
theorem pn_X6_cls : plainName yX6_cls.cls = true := by decide +kernel
theorem md_X6_comesTo : MDk yX6_comesTo 1 := ⟨by decide +kernel, by decide +kernel, by decide +kernel⟩
theorem pn_X6_comesTo : plainName yX6_comesTo.cls = true := by decide +kernel
theorem md_X6_differs : MDk yX6_differs 2 := ⟨by decide +kernel, by decide +kernel, by decide +kernel⟩
theorem pn_X6_differs : plainName yX6_differs.cls = true := by decide +kernel
theorem md_X6_face : MDk yX6_face 1 := ⟨by decide +kernel, by decide +kernel, by decide +kernel⟩
theorem pn_X6_face : plainName yX6_face.cls = true := by decide +kernel
theorem md_X6_failed : MDk yX6_failed 2 := ⟨by decide +kernel, by decide +kernel, by decide +kernel⟩
theorem pn_X6_failed : plainName yX6_failed.cls = true := by decide +kernel
theorem md_X6_field : MDk yX6_field 4 := ⟨by decide +kernel, by decide +kernel, by decide +kernel⟩
theorem pn_X6_field : plainName yX6_field.cls = true := by decide +kernel
theorem md_X6_fitsValue : MDk yX6_fitsValue 2 := ⟨by decide +kernel, by decide +kernel, by decide +kernel⟩
theorem pn_X6_fitsValue : plainName yX6_fitsValue.cls = true := by decide +kernel
theorem md_X6_foretell : MDk yX6_foretell 5 := ⟨by decide +kernel, by decide +kernel, by decide +kernel⟩
theorem pn_X6_foretell : plainName yX6_foretell.cls = true := by decide +kernel
theorem md_X6_found : MDk yX6_found 3 := ⟨by decide +kernel, by decide +kernel, by decide +kernel⟩
theorem pn_X6_found : plainName yX6_found.cls = true := by decide +kernel
theorem md_X6_gone : MDk yX6_gone 0 := ⟨by decide +kernel, by decide +kernel, by decide +kernel⟩
theorem pn_X6_gone : plainName yX6_gone.cls = true := by decide +kernel
theorem md_X6_isName : MDk yX6_isName 1 := ⟨by decide +kernel, by decide +kernel, by decide +kernel⟩
theorem pn_X6_isName : plainName yX6_isName.cls = true := by decide +kernel
theorem md_X6_isWorld : MDk yX6_isWorld 1 := ⟨by decide +kernel, by decide +kernel, by decide +kernel⟩
theorem pn_X6_isWorld : plainName yX6_isWorld.cls = true := by decide +kernel
theorem md_X6_many : MDk yX6_many 2 := ⟨by decide +kernel, by decide +kernel, by decide +kernel⟩
theorem pn_X6_many : plainName yX6_many.cls = true := by decide +kernel
theorem md_X6_method : MDk yX6_method 2 := ⟨by decide +kernel, by decide +kernel, by decide +kernel⟩
theorem pn_X6_method : plainName yX6_method.cls = true := by decide +kernel
theorem md_X6_refusalOfMember : MDk yX6_refusalOfMember 2 := ⟨by decide +kernel, by decide +kernel, by decide +kernel⟩
theorem pn_X6_refusalOfMember : plainName yX6_refusalOfMember.cls = true := by decide +kernel
theorem md_X6_refusalOfTouch : MDk yX6_refusalOfTouch 4 := ⟨by decide +kernel, by decide +kernel, by decide +kernel⟩
theorem pn_X6_refusalOfTouch : plainName yX6_refusalOfTouch.cls = true := by decide +kernel
theorem md_X6_round : MDk yX6_round 1 := ⟨by decide +kernel, by decide +kernel, by decide +kernel⟩
theorem pn_X6_round : plainName yX6_round.cls = true := by decide +kernel
theorem md_X6_spent : MDk yX6_spent 2 := ⟨by decide +kernel, by decide +kernel, by decide +kernel⟩
theorem pn_X6_spent : plainName yX6_spent.cls = true := by decide +kernel
theorem md_X6_state : MDk yX6_state 2 := ⟨by decide +kernel, by decide +kernel, by decide +kernel⟩
theorem pn_X6_state : plainName yX6_state.cls = true := by decide +kernel
theorem md_X6_tape : MDk yX6_tape 2 := ⟨by decide +kernel, by decide +kernel, by decide +kernel⟩
theorem pn_X6_tape : plainName yX6_tape.cls = true := by decide +kernel
theorem md_X6_told : MDk yX6_told 2 := ⟨by decide +kernel, by decide +kernel, by decide +kernel⟩
theorem pn_X6_told : plainName yX6_told.cls = true := by decide +kernel
theorem md_X6_touch : MDk yX6_touch 5 := ⟨by decide +kernel, by decide +kernel, by decide +kernel⟩
theorem pn_X6_touch : plainName yX6_touch.cls = true := by decide +kernel
theorem md_X6_under : MDk yX6_under 2 := ⟨by decide +kernel, by decide +kernel, by decide +kernel⟩
theorem pn_X6_under : plainName yX6_under.cls = true := by decide +kernel
theorem md_X6_usesName : MDk yX6_usesName 1 := ⟨by decide +kernel, by decide +kernel, by decide +kernel⟩
theorem pn_X6_usesName : plainName yX6_usesName.cls = true := by decide +kernel
theorem md_X6_usesType : MDk yX6_usesType 1 := ⟨by decide +kernel, by decide +kernel, by decide +kernel⟩
theorem pn_X6_usesType : plainName yX6_usesType.cls = true := by decide +kernel
theorem md_X6_value : MDk yX6_value 3 := ⟨by decide +kernel, by decide +kernel, by decide +kernel⟩
theorem pn_X6_value : plainName yX6_value.cls = true := by decide +kernel
theorem md_X6_world : MDk yX6_world 0 := ⟨by decide +kernel, by decide +kernel, by decide +kernel⟩
theorem pn_X6_world : plainName yX6_world.cls = true := by decide +kernel
theorem md_X0_init : MDk yX0_init 4 := ⟨by decide +kernel, by decide +kernel, by decide +kernel⟩
theorem pn_X0_init : plainName yX0_init.cls = true := by decide +kernel
theorem md_X1_init : MDk yX1_init 0 := ⟨by decide +kernel, by decide +kernel, by decide +kernel⟩
theorem pn_X1_init : plainName yX1_init.cls = true := by decide +kernel
theorem md_X1_append : MDk yX1_append 1 := ⟨by decide +kernel, by decide +kernel, by decide +kernel⟩
theorem pn_X1_append : plainName yX1_append.cls = true := by decide +kernel
theorem md_X2_init : MDk yX2_init 0 := ⟨by decide +kernel, by decide +kernel, by decide +kernel⟩
theorem pn_X2_init : plainName yX2_init.cls = true := by decide +kernel
theorem md_X2_addAsked : MDk yX2_addAsked 1 := ⟨by decide +kernel, by decide +kernel, by decide +kernel⟩
theorem pn_X2_addAsked : plainName yX2_addAsked.cls = true := by decide +kernel
theorem md_X2_addFirst : MDk yX2_addFirst 4 := ⟨by decide +kernel, by decide +kernel, by decide +kernel⟩
theorem pn_X2_addFirst : plainName yX2_addFirst.cls = true := by decide +kernel
theorem md_X2_append : MDk yX2_append 1 := ⟨by decide +kernel, by decide +kernel, by decide +kernel⟩
theorem pn_X2_append : plainName yX2_append.cls = true := by decide +kernel
theorem md_X2_countLeading : MDk yX2_countLeading 1 := ⟨by decide +kernel, by decide +kernel, by decide +kernel⟩
theorem pn_X2_countLeading : plainName yX2_countLeading.cls = true := by decide +kernel
theorem md_X2_fieldOwner : MDk yX2_fieldOwner 2 := ⟨by decide +kernel, by decide +kernel, by decide +kernel⟩
theorem pn_X2_fieldOwner : plainName yX2_fieldOwner.cls = true := by decide +kernel
theorem md_X2_forgetFields : MDk yX2_forgetFields 0 := ⟨by decide +kernel, by decide +kernel, by decide +kernel⟩
theorem pn_X2_forgetFields : plainName yX2_forgetFields.cls = true := by decide +kernel
theorem md_X2_inRound : MDk yX2_inRound 1 := ⟨by decide +kernel, by decide +kernel, by decide +kernel⟩
theorem pn_X2_inRound : plainName yX2_inRound.cls = true := by decide +kernel
theorem md_X2_knows : MDk yX2_knows 1 := ⟨by decide +kernel, by decide +kernel, by decide +kernel⟩
theorem pn_X2_knows : plainName yX2_knows.cls = true := by decide +kernel
theorem md_X2_leadsTo : MDk yX2_leadsTo 2 := ⟨by decide +kernel, by decide +kernel, by decide +kernel⟩
theorem pn_X2_leadsTo : plainName yX2_leadsTo.cls = true := by decide +kernel
theorem md_X2_listAsked : MDk yX2_listAsked 1 := ⟨by decide +kernel, by decide +kernel, by decide +kernel⟩
theorem pn_X2_listAsked : plainName yX2_listAsked.cls = true := by decide +kernel
theorem md_X2_methodOwner : MDk yX2_methodOwner 2 := ⟨by decide +kernel, by decide +kernel, by decide +kernel⟩
theorem pn_X2_methodOwner : plainName yX2_methodOwner.cls = true := by decide +kernel
theorem md_X2_orderFirsts : MDk yX2_orderFirsts 1 := ⟨by decide +kernel, by decide +kernel, by decide +kernel⟩
theorem pn_X2_orderFirsts : plainName yX2_orderFirsts.cls = true := by decide +kernel
theorem md_X2_putUnder : MDk yX2_putUnder 2 := ⟨by decide +kernel, by decide +kernel, by decide +kernel⟩
theorem pn_X2_putUnder : plainName yX2_putUnder.cls = true := by decide +kernel
theorem md_X2_seekField : MDk yX2_seekField 3 := ⟨by decide +kernel, by decide +kernel, by decide +kernel⟩
theorem pn_X2_seekField : plainName yX2_seekField.cls = true := by decide +kernel
theorem md_X2_startedBy : MDk yX2_startedBy 1 := ⟨by decide +kernel, by decide +kernel, by decide +kernel⟩
theorem pn_X2_startedBy : plainName yX2_startedBy.cls = true := by decide +kernel
theorem md_X2_startedByField : MDk yX2_startedByField 1 := ⟨by decide +kernel, by decide +kernel, by decide +kernel⟩
theorem pn_X2_startedByField : plainName yX2_startedByField.cls = true := by decide +kernel
theorem md_X2_valueOf : MDk yX2_valueOf 3 := ⟨by decide +kernel, by decide +kernel, by decide +kernel⟩
theorem pn_X2_valueOf : plainName yX2_valueOf.cls = true := by decide +kernel
theorem md_X3_init : MDk yX3_init 2 := ⟨by decide +kernel, by decide +kernel, by decide +kernel⟩
theorem pn_X3_init : plainName yX3_init.cls = true := by decide +kernel
theorem md_X3_arise : MDk yX3_arise 2 := ⟨by decide +kernel, by decide +kernel, by decide +kernel⟩
theorem pn_X3_arise : plainName yX3_arise.cls = true := by decide +kernel
theorem md_X3_doTouch : MDk yX3_doTouch 1 := ⟨by decide +kernel, by decide +kernel, by decide +kernel⟩
theorem pn_X3_doTouch : plainName yX3_doTouch.cls = true := by decide +kernel
theorem md_X3_perform : MDk yX3_perform 3 := ⟨by decide +kernel, by decide +kernel, by decide +kernel⟩
theorem pn_X3_perform : plainName yX3_perform.cls = true := by decide +kernel
theorem md_X3_putThrough : MDk yX3_putThrough 1 := ⟨by decide +kernel, by decide +kernel, by decide +kernel⟩
theorem pn_X3_putThrough : plainName yX3_putThrough.cls = true := by decide +kernel
theorem md_X3_runBody : MDk yX3_runBody 3 := ⟨by decide +kernel, by decide +kernel, by decide +kernel⟩
theorem pn_X3_runBody : plainName yX3_runBody.cls = true := by decide +kernel
theorem md_X3_runStart : MDk yX3_runStart 3 := ⟨by decide +kernel, by decide +kernel, by decide +kernel⟩
theorem pn_X3_runStart : plainName yX3_runStart.cls = true := by decide +kernel
theorem md_X3_startFirsts : MDk yX3_startFirsts 3 := ⟨by decide +kernel, by decide +kernel, by decide +kernel⟩
theorem pn_X3_startFirsts : plainName yX3_startFirsts.cls = true := by decide +kernel
theorem md_X3_startType : MDk yX3_startType 3 := ⟨by decide +kernel, by decide +kernel, by decide +kernel⟩
theorem pn_X3_startType : plainName yX3_startType.cls = true := by decide +kernel
theorem md_X3_takeFailure : MDk yX3_takeFailure 4 := ⟨by decide +kernel, by decide +kernel, by decide +kernel⟩
theorem pn_X3_takeFailure : plainName yX3_takeFailure.cls = true := by decide +kernel
theorem md_X4_init : MDk yX4_init 3 := ⟨by decide +kernel, by decide +kernel, by decide +kernel⟩
theorem pn_X4_init : plainName yX4_init.cls = true := by decide +kernel
theorem md_X4_addField : MDk yX4_addField 3 := ⟨by decide +kernel, by decide +kernel, by decide +kernel⟩
theorem pn_X4_addField : plainName yX4_addField.cls = true := by decide +kernel
theorem md_X4_addMethod : MDk yX4_addMethod 1 := ⟨by decide +kernel, by decide +kernel, by decide +kernel⟩
theorem pn_X4_addMethod : plainName yX4_addMethod.cls = true := by decide +kernel
theorem md_X4_bodyOf : MDk yX4_bodyOf 1 := ⟨by decide +kernel, by decide +kernel, by decide +kernel⟩
theorem pn_X4_bodyOf : plainName yX4_bodyOf.cls = true := by decide +kernel
theorem md_X4_isUnder : MDk yX4_isUnder 1 := ⟨by decide +kernel, by decide +kernel, by decide +kernel⟩
theorem pn_X4_isUnder : plainName yX4_isUnder.cls = true := by decide +kernel
theorem md_X4_tell : MDk yX4_tell 1 := ⟨by decide +kernel, by decide +kernel, by decide +kernel⟩
theorem pn_X4_tell : plainName yX4_tell.cls = true := by decide +kernel
theorem md_X5_init : MDk yX5_init 0 := ⟨by decide +kernel, by decide +kernel, by decide +kernel⟩
theorem pn_X5_init : plainName yX5_init.cls = true := by decide +kernel
theorem md_X5_clear : MDk yX5_clear 0 := ⟨by decide +kernel, by decide +kernel, by decide +kernel⟩
theorem pn_X5_clear : plainName yX5_clear.cls = true := by decide +kernel
theorem md_X5_keepAccount : MDk yX5_keepAccount 2 := ⟨by decide +kernel, by decide +kernel, by decide +kernel⟩
theorem pn_X5_keepAccount : plainName yX5_keepAccount.cls = true := by decide +kernel
theorem md_X5_putInRow : MDk yX5_putInRow 1 := ⟨by decide +kernel, by decide +kernel, by decide +kernel⟩
theorem pn_X5_putInRow : plainName yX5_putInRow.cls = true := by decide +kernel
theorem md_X5_putOnTape : MDk yX5_putOnTape 1 := ⟨by decide +kernel, by decide +kernel, by decide +kernel⟩
theorem pn_X5_putOnTape : plainName yX5_putOnTape.cls = true := by decide +kernel
theorem md_X5_sameIn : MDk yX5_sameIn 2 := ⟨by decide +kernel, by decide +kernel, by decide +kernel⟩
theorem pn_X5_sameIn : plainName yX5_sameIn.cls = true := by decide +kernel
theorem md_X5_takeStateOf : MDk yX5_takeStateOf 1 := ⟨by decide +kernel, by decide +kernel, by decide +kernel⟩
theorem pn_X5_takeStateOf : plainName yX5_takeStateOf.cls = true := by decide +kernel
theorem md_X7_init : MDk yX7_init 0 := ⟨by decide +kernel, by decide +kernel, by decide +kernel⟩
theorem pn_X7_init : plainName yX7_init.cls = true := by decide +kernel
theorem md_X7_act : MDk yX7_act 6 := ⟨by decide +kernel, by decide +kernel, by decide +kernel⟩
theorem pn_X7_act : plainName yX7_act.cls = true := by decide +kernel
theorem md_X7_addAsked : MDk yX7_addAsked 2 := ⟨by decide +kernel, by decide +kernel, by decide +kernel⟩
theorem pn_X7_addAsked : plainName yX7_addAsked.cls = true := by decide +kernel
theorem md_X7_asks : MDk yX7_asks 2 := ⟨by decide +kernel, by decide +kernel, by decide +kernel⟩
theorem pn_X7_asks : plainName yX7_asks.cls = true := by decide +kernel
theorem md_X7_began : MDk yX7_began 2 := ⟨by decide +kernel, by decide +kernel, by decide +kernel⟩
theorem pn_X7_began : plainName yX7_began.cls = true := by decide +kernel
theorem md_X7_below : MDk yX7_below 2 := ⟨by decide +kernel, by decide +kernel, by decide +kernel⟩
theorem pn_X7_below : plainName yX7_below.cls = true := by decide +kernel
theorem md_X7_cameTo : MDk yX7_cameTo 0 := ⟨by decide +kernel, by decide +kernel, by decide +kernel⟩
theorem pn_X7_cameTo : plainName yX7_cameTo.cls = true := by decide +kernel
theorem md_X7_cls : MDk yX7_cls 2 := ⟨by decide +kernel, by decide +kernel, by decide +kernel⟩
theorem pn_X7_cls : plainName yX7_cls.cls = true := by decide +kernel
theorem md_X7_copy : MDk yX7_copy 2 := ⟨by decide +kernel, by decide +kernel, by decide +kernel⟩
theorem pn_X7_copy : plainName yX7_copy.cls = true := by decide +kernel
theorem md_X7_did : MDk yX7_did 1 := ⟨by decide +kernel, by decide +kernel, by decide +kernel⟩
theorem pn_X7_did : plainName yX7_did.cls = true := by decide +kernel
theorem md_X7_differs : MDk yX7_differs 2 := ⟨by decide +kernel, by decide +kernel, by decide +kernel⟩
theorem pn_X7_differs : plainName yX7_differs.cls = true := by decide +kernel
theorem md_X7_face : MDk yX7_face 1 := ⟨by decide +kernel, by decide +kernel, by decide +kernel⟩
theorem pn_X7_face : plainName yX7_face.cls = true := by decide +kernel
theorem md_X7_fail : MDk yX7_fail 2 := ⟨by decide +kernel, by decide +kernel, by decide +kernel⟩
theorem pn_X7_fail : plainName yX7_fail.cls = true := by decide +kernel
theorem md_X7_failed : MDk yX7_failed 2 := ⟨by decide +kernel, by decide +kernel, by decide +kernel⟩
theorem pn_X7_failed : plainName yX7_failed.cls = true := by decide +kernel
theorem md_X7_field : MDk yX7_field 4 := ⟨by decide +kernel, by decide +kernel, by decide +kernel⟩
theorem pn_X7_field : plainName yX7_field.cls = true := by decide +kernel
theorem md_X7_findField : MDk yX7_findField 2 := ⟨by decide +kernel, by decide +kernel, by decide +kernel⟩
theorem pn_X7_findField : plainName yX7_findField.cls = true := by decide +kernel
theorem md_X7_findMethod : MDk yX7_findMethod 2 := ⟨by decide +kernel, by decide +kernel, by decide +kernel⟩
theorem pn_X7_findMethod : plainName yX7_findMethod.cls = true := by decide +kernel
theorem md_X7_foretell : MDk yX7_foretell 5 := ⟨by decide +kernel, by decide +kernel, by decide +kernel⟩
theorem pn_X7_foretell : plainName yX7_foretell.cls = true := by decide +kernel
theorem md_X7_found : MDk yX7_found 3 := ⟨by decide +kernel, by decide +kernel, by decide +kernel⟩
theorem pn_X7_found : plainName yX7_found.cls = true := by decide +kernel
theorem md_X7_go : MDk yX7_go 5 := ⟨by decide +kernel, by decide +kernel, by decide +kernel⟩
theorem pn_X7_go : plainName yX7_go.cls = true := by decide +kernel
theorem md_X7_goBehind : MDk yX7_goBehind 1 := ⟨by decide +kernel, by decide +kernel, by decide +kernel⟩
theorem pn_X7_goBehind : plainName yX7_goBehind.cls = true := by decide +kernel
theorem md_X7_goDown : MDk yX7_goDown 0 := ⟨by decide +kernel, by decide +kernel, by decide +kernel⟩
theorem pn_X7_goDown : plainName yX7_goDown.cls = true := by decide +kernel
theorem md_X7_goOnBody : MDk yX7_goOnBody 0 := ⟨by decide +kernel, by decide +kernel, by decide +kernel⟩
theorem pn_X7_goOnBody : plainName yX7_goOnBody.cls = true := by decide +kernel
theorem md_X7_goOnStart : MDk yX7_goOnStart 0 := ⟨by decide +kernel, by decide +kernel, by decide +kernel⟩
theorem pn_X7_goOnStart : plainName yX7_goOnStart.cls = true := by decide +kernel
theorem md_X7_gone : MDk yX7_gone 0 := ⟨by decide +kernel, by decide +kernel, by decide +kernel⟩
theorem pn_X7_gone : plainName yX7_gone.cls = true := by decide +kernel
theorem md_X7_in : MDk yX7_in 3 := ⟨by decide +kernel, by decide +kernel, by decide +kernel⟩
theorem pn_X7_in : plainName yX7_in.cls = true := by decide +kernel
theorem md_X7_isRound : MDk yX7_isRound 1 := ⟨by decide +kernel, by decide +kernel, by decide +kernel⟩
theorem pn_X7_isRound : plainName yX7_isRound.cls = true := by decide +kernel
theorem md_X7_isRuled : MDk yX7_isRuled 3 := ⟨by decide +kernel, by decide +kernel, by decide +kernel⟩
theorem pn_X7_isRuled : plainName yX7_isRuled.cls = true := by decide +kernel
theorem md_X7_isType : MDk yX7_isType 1 := ⟨by decide +kernel, by decide +kernel, by decide +kernel⟩
theorem pn_X7_isType : plainName yX7_isType.cls = true := by decide +kernel
theorem md_X7_isWorld : MDk yX7_isWorld 1 := ⟨by decide +kernel, by decide +kernel, by decide +kernel⟩
theorem pn_X7_isWorld : plainName yX7_isWorld.cls = true := by decide +kernel
theorem md_X7_kindAt : MDk yX7_kindAt 1 := ⟨by decide +kernel, by decide +kernel, by decide +kernel⟩
theorem pn_X7_kindAt : plainName yX7_kindAt.cls = true := by decide +kernel
theorem md_X7_leads : MDk yX7_leads 2 := ⟨by decide +kernel, by decide +kernel, by decide +kernel⟩
theorem pn_X7_leads : plainName yX7_leads.cls = true := by decide +kernel
theorem md_X7_listAsked : MDk yX7_listAsked 1 := ⟨by decide +kernel, by decide +kernel, by decide +kernel⟩
theorem pn_X7_listAsked : plainName yX7_listAsked.cls = true := by decide +kernel
theorem md_X7_listFirst : MDk yX7_listFirst 1 := ⟨by decide +kernel, by decide +kernel, by decide +kernel⟩
theorem pn_X7_listFirst : plainName yX7_listFirst.cls = true := by decide +kernel
theorem md_X7_make : MDk yX7_make 3 := ⟨by decide +kernel, by decide +kernel, by decide +kernel⟩
theorem pn_X7_make : plainName yX7_make.cls = true := by decide +kernel
theorem md_X7_many : MDk yX7_many 2 := ⟨by decide +kernel, by decide +kernel, by decide +kernel⟩
theorem pn_X7_many : plainName yX7_many.cls = true := by decide +kernel
theorem md_X7_method : MDk yX7_method 2 := ⟨by decide +kernel, by decide +kernel, by decide +kernel⟩
theorem pn_X7_method : plainName yX7_method.cls = true := by decide +kernel
theorem md_X7_nameAt : MDk yX7_nameAt 1 := ⟨by decide +kernel, by decide +kernel, by decide +kernel⟩
theorem pn_X7_nameAt : plainName yX7_nameAt.cls = true := by decide +kernel
theorem md_X7_onTape : MDk yX7_onTape 1 := ⟨by decide +kernel, by decide +kernel, by decide +kernel⟩
theorem pn_X7_onTape : plainName yX7_onTape.cls = true := by decide +kernel
theorem md_X7_ownField : MDk yX7_ownField 2 := ⟨by decide +kernel, by decide +kernel, by decide +kernel⟩
theorem pn_X7_ownField : plainName yX7_ownField.cls = true := by decide +kernel
theorem md_X7_ownMethod : MDk yX7_ownMethod 2 := ⟨by decide +kernel, by decide +kernel, by decide +kernel⟩
theorem pn_X7_ownMethod : plainName yX7_ownMethod.cls = true := by decide +kernel
theorem md_X7_pushBody : MDk yX7_pushBody 1 := ⟨by decide +kernel, by decide +kernel, by decide +kernel⟩
theorem pn_X7_pushBody : plainName yX7_pushBody.cls = true := by decide +kernel
theorem md_X7_refusal : MDk yX7_refusal 4 := ⟨by decide +kernel, by decide +kernel, by decide +kernel⟩
theorem pn_X7_refusal : plainName yX7_refusal.cls = true := by decide +kernel
theorem md_X7_round : MDk yX7_round 1 := ⟨by decide +kernel, by decide +kernel, by decide +kernel⟩
theorem pn_X7_round : plainName yX7_round.cls = true := by decide +kernel
theorem md_X7_sizeOf : MDk yX7_sizeOf 1 := ⟨by decide +kernel, by decide +kernel, by decide +kernel⟩
theorem pn_X7_sizeOf : plainName yX7_sizeOf.cls = true := by decide +kernel
theorem md_X7_spent : MDk yX7_spent 2 := ⟨by decide +kernel, by decide +kernel, by decide +kernel⟩
theorem pn_X7_spent : plainName yX7_spent.cls = true := by decide +kernel
theorem md_X7_start : MDk yX7_start 1 := ⟨by decide +kernel, by decide +kernel, by decide +kernel⟩
theorem pn_X7_start : plainName yX7_start.cls = true := by decide +kernel
theorem md_X7_started : MDk yX7_started 3 := ⟨by decide +kernel, by decide +kernel, by decide +kernel⟩
theorem pn_X7_started : plainName yX7_started.cls = true := by decide +kernel
theorem md_X7_state : MDk yX7_state 2 := ⟨by decide +kernel, by decide +kernel, by decide +kernel⟩
theorem pn_X7_state : plainName yX7_state.cls = true := by decide +kernel
theorem md_X7_tape : MDk yX7_tape 2 := ⟨by decide +kernel, by decide +kernel, by decide +kernel⟩
theorem pn_X7_tape : plainName yX7_tape.cls = true := by decide +kernel
theorem md_X7_told : MDk yX7_told 2 := ⟨by decide +kernel, by decide +kernel, by decide +kernel⟩
theorem pn_X7_told : plainName yX7_told.cls = true := by decide +kernel
theorem md_X7_touch : MDk yX7_touch 5 := ⟨by decide +kernel, by decide +kernel, by decide +kernel⟩
theorem pn_X7_touch : plainName yX7_touch.cls = true := by decide +kernel
theorem md_X7_typeAt : MDk yX7_typeAt 1 := ⟨by decide +kernel, by decide +kernel, by decide +kernel⟩
theorem pn_X7_typeAt : plainName yX7_typeAt.cls = true := by decide +kernel
theorem md_X7_under : MDk yX7_under 2 := ⟨by decide +kernel, by decide +kernel, by decide +kernel⟩
theorem pn_X7_under : plainName yX7_under.cls = true := by decide +kernel
theorem md_X7_value : MDk yX7_value 3 := ⟨by decide +kernel, by decide +kernel, by decide +kernel⟩
theorem pn_X7_value : plainName yX7_value.cls = true := by decide +kernel
theorem md_X7_valueAt : MDk yX7_valueAt 1 := ⟨by decide +kernel, by decide +kernel, by decide +kernel⟩
theorem pn_X7_valueAt : plainName yX7_valueAt.cls = true := by decide +kernel
theorem md_X7_world : MDk yX7_world 0 := ⟨by decide +kernel, by decide +kernel, by decide +kernel⟩
theorem pn_X7_world : plainName yX7_world.cls = true := by decide +kernel
theorem md_J9_max_7cf53 : MDk yJ9_max_7cf53 2 := ⟨by decide +kernel, by decide +kernel, by decide +kernel⟩
theorem md_J7_fill_53178 : MDk yJ7_fill_53178 2 := ⟨by decide +kernel, by decide +kernel, by decide +kernel⟩
theorem pn_J7_fill_53178 : plainName yJ7_fill_53178.cls = true := by decide +kernel
