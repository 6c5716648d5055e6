/-! THE LAW: its script, its entry, its end (lw_P .. lw_At as SKELETON.whole has them) -/
/-! THE CLAIM OUT OF ONE WALK OF THE LAW'S BODY. Your part is whole_start (and what it stands on); all else here is the same for every law, but numbers. -/
def R_law : String := "StartBenchLaw"
def lw_P (b : Addr) (xs : List Int32) (args : Array Value) (s : State) : Prop := args = #[.ref b] ∧ s.IntsAt b xs ∧ xs.length ≤ 3584 ∧ (Jvm.Cond.and given_1 narrow_1).before args s = true
def lw_Q (_ : Array Value) (s : State) (o : Outcome) (t : State) : Prop := o = .returned (some (.int 1)) ∧ Framed s o t [] 600000 7302250
def lw_Z (below : List Frame) (a : Array Value) (s : State) : State → Prop := fun t => ∃ o, t.status = .running ∧ Ended t below o ∧ lw_Q a s o t
/-- the law's own end, with 1 on the stack, nothing written that was there before, its room as the claim has it -/
theorem lw_ret {p : Program} {l : Launch} {e : Env} {s : State} {m : MethodId} {below : List Frame} {meth : Method} {c : Code} {b : Nat} (hx : p.tables.exec = Jvm.exec) (hb : c.code = code) (hr : meth.sig.returnType = ret) (hlocks : meth.locks = false) {pc : Nat} {H : Heap} {ls : Array Slot} (hdg : decode code pc = .ok (.ireturn, 1)) : W p l e room_1 s m #[Value.ref b] below meth c H [] 600000 7302250 (lw_Z below #[Value.ref b] s) (F0 m pc ls [.int 1]) := by
  intro T hT X
  obtain ⟨fs, hret, hrun, hended, hW, hframe⟩ := X.leave (v := some (.int 1)) (hlocks := hlocks) (fun h => by rw [hr] at h; cases h)
  have hmeth' : T.vm.method? m = some meth := X.method'
  refine ⟨T.setFrames fs, ?_, .returned (some (.int 1)), hrun, hended, rfl, ⟨_, rfl⟩, hW, hframe⟩
  jvm_step X.here [X.here.top, hx, hb, hdg, hmeth', hr, ret, narrow_b1]
  (try refine ⟨rfl, ?_⟩); (try refine ⟨rfl, ?_⟩)
  first | (intro acts; rw [hret _ acts rfl rfl rfl]) | rw [hret _ _ rfl rfl rfl]
  exact Steps.refl _
/-- what holds at the law's entry: the machine, the code, the tables' words (any of lw_tbl by 'hts w (by decide +kernel)'), the script of L ints xs at the cell b, what the Statement gives of the start (any of its parts by flat_of_before) -/
def lw_At (p : Program) (s : State) (m : MethodId) (meth : Method) (c : Code) (b L : Nat) (xs : Nat → Int32) : Prop :=
  p.tables.exec = Jvm.exec ∧ c.code = code ∧ meth.sig.returnType = ret ∧ c.maxLocals = 4 ∧ s.vm.findClass R_law = some m.cls ∧ (∀ w ∈ lw_tbl, w.before #[Value.ref b] s = true) ∧ va_X b L xs s s.heap ∧ b < s.heap.size ∧ meth.locks = false ∧ (Jvm.Cond.and given_1 narrow_1).before #[Value.ref b] s = true
def scX (g b L : Nat) (xs : Nat → Int32) (s : State) (args : Array Value) : Prop := va_X b L xs s s.heap ∧ args = #[Value.ref b] ∧ s.heap.size = g
/-- the law's aim: where the script lies at b -/
def ZX (g b L : Nat) (xs : Nat → Int32) : ZT := fun s args below t => scX g b L xs s args → lw_Z below #[Value.ref b] s t
theorem W_any {p : Program} {l : Launch} {e : Env} {R : Room} {s : State} {m : MethodId} {args : Array Value} {below : List Frame} {meth : Method} {c : Code} {H : Heap} {locs : List Loc} {cells slots : Nat} {Q : State → Prop} {g : JFrame} (h : ∀ t, Q t) : W p l e R s m args below meth c H locs cells slots Q g := fun T _ _ => ⟨_, Steps.refl _, h _⟩
section VL
variable {Γ : GC} {α0 : Sh} {ad0 : Ad} {R : Room} {own : String} {cc : ByteArray} {nL : Nat} {ret : Option FieldType} {nm : String} {pc q : Nat} {st lv : List AV} {α : Sh} {μ : Mem} {cs sl : Nat} {g b L : Nat} {xs : Nat → Int32}
theorem V_aloadR {Z : ZT} {k0 : Fin 4} {i : Nat} {x : Int} (hd : decode cc pc = .ok (.aload_n k0, 1)) (hi : (k0 : Nat) = i) (hp : pc + 1 = q) (hx : lv[i]? = some (5, x)) (k : V Γ α0 ad0 Z R own cc nL ret nm q ((5, x) :: st) lv α μ cs sl) : V Γ α0 ad0 Z R own cc nL ret nm pc st lv α μ cs sl := by
  intro p e s m args below meth c ad H ls locs F hH hE hst hlv hl hS
  subst hp
  have h1 := asc_at hl hx (show (5 : Nat) ≠ 9 by decide)
  exact lv_aload_n F.hx F.hb hd hi h1 (k p e s m args below meth c ad H ls locs F hH hE (okl_cons (okl_at hlv hx) hst) hlv hl hS)
theorem V_sld {i : Int} (hd : decode cc pc = .ok (.iaload, 1)) (hp : pc + 1 = q) (hb : b < g_b Γ) (hL : L < 2147483648) (hi : 0 ≤ i ∧ i < L) (k : ∀ z : Int, z = (xs i.toNat).toInt → inI z → V Γ α0 ad0 (ZX g b L xs) R own cc nL ret nm q ((0, z) :: st) lv α μ cs sl) : V Γ α0 ad0 (ZX g b L xs) R own cc nL ret nm pc ((0, i) :: (5, (b : Int)) :: st) lv α μ cs sl := by
  intro p e s m args below meth c ad H ls locs F hH hE hst hlv hl hS
  subst hp
  by_cases hX : va_X b L xs s s.heap
  · have hr : inI i := by constructor <;> omega
    refine va_sld F.hx F.hb hX (Nat.lt_of_lt_of_le hb F.bs) (Nat.not_le.mpr hb) hS (oi_in hr hi.1 (by omega)) hd ?_
    rw [oi_nat hr]
    have hz : inI (xs i.toNat).toInt := ⟨Int32.le_toInt _, Int32.toInt_lt _⟩
    have hk := k _ rfl hz p e s m args below meth c ad H ls locs F hH hE (okl_cons (show okx _ 0 _ from hz) (okl_tl (okl_tl hst))) hlv hl hS
    rw [List.map_cons, show cav ad (0, (xs i.toNat).toInt) = .int (xs i.toNat) from congrArg Value.int (Int32.ofInt_toInt _)] at hk
    exact hk
  · exact W_any (fun t h => absurd h.1 hX)
theorem V_slen (hd : decode cc pc = .ok (.arraylength, 1)) (hp : pc + 1 = q) (hb : b < g_b Γ) (hL : L < 2147483648) (k : V Γ α0 ad0 (ZX g b L xs) R own cc nL ret nm q ((0, (L : Int)) :: st) lv α μ cs sl) : V Γ α0 ad0 (ZX g b L xs) R own cc nL ret nm pc ((5, (b : Int)) :: st) lv α μ cs sl := by
  intro p e s m args below meth c ad H ls locs F hH hE hst hlv hl hS
  subst hp
  by_cases hX : va_X b L xs s s.heap
  · refine va_slen F.hx F.hb hX (Nat.lt_of_lt_of_le hb F.bs) (Nat.not_le.mpr hb) hS hd ?_
    exact k p e s m args below meth c ad H ls locs F hH hE (okl_cons (show okx _ 0 _ from by constructor <;> omega) (okl_tl hst)) hlv hl hS
  · exact W_any (fun t h => absurd h.1 hX)
theorem V_widen {Z : ZT} {c1 l1 : Nat} (h1 : cs ≤ c1) (h2 : sl ≤ l1) (k : V Γ α0 ad0 Z R own cc nL ret nm pc st lv α μ c1 l1) : V Γ α0 ad0 Z R own cc nL ret nm pc st lv α μ cs sl := by
  intro p e s m args below meth c ad H ls locs F hH hE hst hlv hl hS
  exact W.widen h1 h2 (k p e s m args below meth c ad H ls locs F hH hE hst hlv hl hS)
theorem V_pop {Z : ZT} {v : AV} (hd : decode cc pc = .ok (.pop, 1)) (hp : pc + 1 = q) (hv : v.1 ≠ 2) (k : V Γ α0 ad0 Z R own cc nL ret nm q st lv α μ cs sl) : V Γ α0 ad0 Z R own cc nL ret nm pc (v :: st) lv α μ cs sl := by
  intro p e s m args below meth c ad H ls locs F hH hE hst hlv hl hS
  subst hp
  exact lv_pop F.hx F.hb hd (cav_cat1 hv) (k p e s m args below meth c ad H ls locs F hH hE (okl_tl hst) hlv hl hS)
theorem V_lawret (hd : decode code pc = .ok (.ireturn, 1)) (hcs : cs ≤ 600000) (hsl : sl ≤ 7302250) : V Γ α0 ad0 (ZX (g_b Γ) b L xs) room_1 own code nL (some .boolean) nm pc [(0, 1)] lv α μ cs sl := by
  intro p e s m args below meth c ad H ls locs F hH hE hst hlv hl hS
  by_cases hX : scX (g_b Γ) b L xs s args
  · obtain ⟨hX1, ha, hg⟩ := id hX
    subst ha
    refine W.widen hcs hsl ?_
    refine va_forget (fun q hq => by rw [hg]; exact hS.2.2 q hq) ?_
    have hk := lw_ret (p := p) (l := g_l Γ) (e := e) (s := s) (m := m) (below := below) (meth := meth) (c := c) (b := b) (H := H) (ls := ls) F.hx F.hb F.rt F.lk hd
    intro T hT X
    obtain ⟨t, h1, h2⟩ := hk T hT X
    exact ⟨t, h1, fun _ => h2⟩
  · exact W_any (fun t h => absurd h hX)
end VL

