/-! THE FOUNDATION: cells by tokens, values by whole numbers; a judgement V over them, a contract MT of a method; rows of V for each instruction -/
abbrev GC : Type := Launch × Nat × (Nat → ClassId) × (Nat → Nat → Nat) × (Nat → ClassId)
abbrev AV : Type := Nat × Int
abbrev Sh : Type := Int → Nat × Nat
abbrev Mem : Type := Int → Int → Int
abbrev Ad : Type := Int → Nat
def g_l (Γ : GC) : Launch := Γ.1
def g_b (Γ : GC) : Nat := Γ.2.1
def g_D (Γ : GC) : va_G := (Γ.2.2.1, Γ.2.2.2.1)
def g_A (Γ : GC) : Nat → ClassId := Γ.2.2.2.2
def tyA : Nat → FieldType := fun t => match t with
  | 20 => .int
  | 21 => .boolean
  | 22 => .long
  | 23 => .object RX4
  | 24 => .object RX1
  | 25 => .object RX0
  | _ => .object RX5
def g_ty (Γ : GC) : List (ClassId × FieldType) := [(g_A Γ 20, tyA 20), (g_A Γ 21, tyA 21), (g_A Γ 22, tyA 22), (g_A Γ 23, tyA 23), (g_A Γ 24, tyA 24), (g_A Γ 25, tyA 25), (g_A Γ 26, tyA 26)]
/-- the value of a kind (0 int, 1 boolean, 2 long, 3 reference by token, below 0: null; else a cell by its own address) -/
def cv (ad : Ad) (k : Nat) (x : Int) : Value := match k with
  | 0 => .int (Int32.ofInt x)
  | 1 => .int (Int32.ofInt x)
  | 2 => .long (Int64.ofInt x)
  | 3 => if x < 0 then .null else .ref (ad x)
  | _ => .ref x.toNat
def cav (ad : Ad) (v : AV) : Value := cv ad v.1 v.2
abbrev inI (x : Int) : Prop := -2147483648 ≤ x ∧ x < 2147483648
abbrev inL (x : Int) : Prop := -9223372036854775808 ≤ x ∧ x < 9223372036854775808
def okx (α : Sh) (k : Nat) (x : Int) : Prop := match k with
  | 0 => inI x
  | 1 => 0 ≤ x ∧ x ≤ 1
  | 2 => inL x
  | 3 => x < 0 ∨ (α x).1 ≠ 0
  | _ => True
def okv (α : Sh) (v : AV) : Prop := okx α v.1 v.2
/-- the kind of a cell's slot, by the cell's tag (1 to 8: classes; 20 int[], 21 boolean[], 22 long[], 23 .. arrays of references) -/
def ek (tag i : Nat) : Nat := if tag < 20 then cK (tag - 1) i else if tag = 20 then 0 else if tag = 21 then 1 else if tag = 22 then 2 else 3
def WFm (α : Sh) (μ : Mem) : Prop := ∀ (t : Int) (i : Nat), (α t).1 ≠ 0 → okx α (ek (α t).1 i) (μ t i)
def ec (Γ : GC) (ad : Ad) (sh : Nat × Nat) (f : Int → Int) : va_E :=
  if sh.1 < 20 then .inr (sh.1 - 1, (List.range (cN (sh.1 - 1))).map fun k => cv ad (cK (sh.1 - 1) k) (f k))
  else if sh.1 < 22 then .inl (g_A Γ sh.1, sh.2, .inl fun i => Int32.ofInt (f i))
  else if sh.1 = 22 then .inl (g_A Γ sh.1, sh.2, .inr (.inl fun i => Int64.ofInt (f i)))
  else .inl (g_A Γ sh.1, sh.2, .inr (.inr (.inr (.inr fun i => if f i < 0 then none else some (ad (f i))))))
def hws (Γ : GC) (ad : Ad) (α : Sh) (μ : Mem) (L : List Int) : va_W := L.map fun t => (ad t, ec Γ ad (α t) (μ t))
def HR (Γ : GC) (α : Sh) (μ : Mem) (ad : Ad) (H : Heap) : Prop :=
  (∃ L : List Int, L.Nodup ∧ (∀ t, t ∈ L ↔ (α t).1 ≠ 0) ∧ va_P (g_D Γ) CL (hws Γ ad α μ L) H ∧ va_D (fun q => g_b Γ ≤ q) (hws Γ ad α μ L)) ∧ WFm α μ
def KF (Γ : GC) (U : State) : Prop := va_K (g_D Γ) CL (g_ty Γ) U ∧ (va_AO RX4 U ∧ va_AO RX1 U ∧ va_AO RX0 U ∧ va_AO RX5 U) ∧
  (∀ own idx y h, Cond.methodLinkNest own idx y h ∈ lw_tbl → va_Nw (.methodLinkNest own idx y h) U)
theorem KF.warm {Γ : GC} {s U : State} (hW : s.WarmedH U.vm) (h : KF Γ s) : KF Γ U :=
  ⟨va_K.moved hW.alike h.1, ⟨va_AO.moved hW.alike h.2.1.1, va_AO.moved hW.alike h.2.1.2.1, va_AO.moved hW.alike h.2.1.2.2.1, va_AO.moved hW.alike h.2.1.2.2.2⟩, fun o i y hh hm => va_Nw.warmM hW (h.2.2 o i y hh hm)⟩
theorem KF.same {Γ : GC} {s U : State} (hv : s.vm = U.vm) (h : KF Γ s) : KF Γ U :=
  ⟨va_K.moved (hv ▸ Vm.Alike.refl s.vm) h.1, ⟨va_AO.moved (hv ▸ Vm.Alike.refl s.vm) h.2.1.1, va_AO.moved (hv ▸ Vm.Alike.refl s.vm) h.2.1.2.1, va_AO.moved (hv ▸ Vm.Alike.refl s.vm) h.2.1.2.2.1, va_AO.moved (hv ▸ Vm.Alike.refl s.vm) h.2.1.2.2.2⟩, fun o i y hh hm => va_Nw.same rfl hv (h.2.2 o i y hh hm)⟩
/-- what stays fixed in a method's walk -/
def FX (Γ : GC) (p : Program) (s : State) (m : MethodId) (args : Array Value) (meth : Method) (c : Code) (own : String) (cc : ByteArray) (nL : Nat) (ret : Option FieldType) (nm : String) : Prop :=
  (p.tables.exec = Jvm.exec ∧ c.code = cc) ∧ c.maxLocals = nL ∧ s.vm.findClass own = some m.cls ∧ (∀ w ∈ lw_good, w.before args s = true) ∧ meth.sig.returnType = ret ∧ meth.locks = false ∧ (nm = "<init>" → meth.name = nm) ∧ KF Γ s ∧ g_b Γ ≤ s.heap.size
def asc (ad : Ad) : Nat → List AV → List (Nat × Value)
  | _, [] => []
  | i, v :: r => if v.1 = 9 then asc ad (i + 1) r else (i, cav ad v) :: asc ad (i + 1) r
def okl (α : Sh) (l : List AV) : Prop := ∀ v ∈ l, okv α v
abbrev ZT : Type := State → Array Value → List Frame → State → Prop
def EX (α0 : Sh) (ad0 : Ad) (α : Sh) (ad : Ad) : Prop := ∀ t, (α0 t).1 ≠ 0 → α t = α0 t ∧ ad t = ad0 t
def V (Γ : GC) (α0 : Sh) (ad0 : Ad) (Z : ZT) (R : Room) (own : String) (cc : ByteArray) (nL : Nat) (ret : Option FieldType) (nm : String) (pc : Nat) (st lv : List AV) (α : Sh) (μ : Mem) (cs sl : Nat) : Prop :=
  ∀ (p : Program) (e : Env) (s : State) (m : MethodId) (args : Array Value) (below : List Frame) (meth : Method) (c : Code) (ad : Ad) (H : Heap) (ls : Array Slot) (locs : List Loc),
    FX Γ p s m args meth c own cc nL ret nm → HR Γ α μ ad H → EX α0 ad0 α ad → okl α st → okl α lv → lv_has ls nL (asc ad 0 lv) → va_S (fun q => g_b Γ ≤ q) s.heap H locs →
    W p (g_l Γ) e R s m args below meth c H locs cs sl (Z s args below) (F0 m pc ls (st.map (cav ad)))
def RM (d mc ms : Nat) : Room := { frames := d, cells := mc, slots := ms, locals := 64 * d }
def QC (Γ : GC) (α0 : Sh) (ad0 : Ad) (Q : Option AV → Sh → Mem → Prop) : Array Value → State → Outcome → State → Prop := fun _ st o t =>
  (∃ (r : Option AV) (α1 : Sh) (μ1 : Mem) (ad1 : Ad), o = .returned (r.map (cav ad1)) ∧ HR Γ α1 μ1 ad1 t.heap ∧ EX α0 ad0 α1 ad1 ∧ (∀ v ∈ r, okv α1 v) ∧ Q r α1 μ1) ∧ va_F (fun q => g_b Γ ≤ q) st t
def ZM (Γ : GC) (α0 : Sh) (ad0 : Ad) (Q : Option AV → Sh → Mem → Prop) (mc ms : Nat) : ZT := fun s args below => MQ below (QC Γ α0 ad0 Q) args s mc ms (fun q => g_b Γ ≤ q)
def wsOf (y : MethodName) (cc : ByteArray) (maxL : Nat) (ret : Option FieldType) : List Cond := .code y cc maxL ret :: lw_good
/-- the contract of a method at given arguments and cells: it returns, and Q holds of the answer and the cells -/
def MT (Γ : GC) (y : MethodName) (cc : ByteArray) (maxL : Nat) (ret : Option FieldType) (d mc ms : Nat) (args : List AV) (α : Sh) (μ : Mem) (Q : Option AV → Sh → Mem → Prop) : Prop :=
  okl α args → ∀ ad : Ad, Met (g_l Γ) y (wsOf y cc maxL ret) (RM d mc ms) (va_Pc (args.map (cav ad)) (fun U => (KF Γ U ∧ g_b Γ ≤ U.heap.size) ∧ HR Γ α μ ad U.heap)) (QC Γ α ad Q) mc ms (fun q => g_b Γ ≤ q)
-- locals
theorem asc_mem {ad : Ad} : ∀ (lv : List AV) (n i : Nat) (v : AV), lv[i]? = some v → v.1 ≠ 9 → (n + i, cav ad v) ∈ asc ad n lv := by
  intro lv
  induction lv with
  | nil => intro n i v h; simp at h
  | cons a r ih =>
    intro n i v h hv
    unfold asc
    cases i with
    | zero =>
      simp at h; subst h
      rw [if_neg hv]; exact List.mem_cons_self
    | succ j =>
      have h1 := ih (n + 1) j v (by simpa using h) hv
      rw [show n + 1 + j = n + (j + 1) by omega] at h1
      split
      · exact h1
      · exact List.mem_cons_of_mem _ h1
theorem asc_of {ad : Ad} : ∀ (lv : List AV) (n : Nat) (q : Nat × Value), q ∈ asc ad n lv → ∃ i v, lv[i]? = some v ∧ v.1 ≠ 9 ∧ q = (n + i, cav ad v) := by
  intro lv
  induction lv with
  | nil => intro n q h; simp [asc] at h
  | cons a r ih =>
    intro n q h
    unfold asc at h
    have tl : q ∈ asc ad (n + 1) r → ∃ i v, (a :: r)[i]? = some v ∧ v.1 ≠ 9 ∧ q = (n + i, cav ad v) := by
      intro h1
      obtain ⟨i, v, e1, e2, e3⟩ := ih (n + 1) q h1
      exact ⟨i + 1, v, by simpa using e1, e2, by rw [e3, show n + 1 + i = n + (i + 1) by omega]⟩
    split at h
    · exact tl h
    · rcases List.mem_cons.mp h with h1 | h1
      · exact ⟨0, a, rfl, by assumption, h1⟩
      · exact tl h1
theorem asc_at {ad : Ad} {ls : Array Slot} {nL i : Nat} {lv : List AV} {v : AV} (h : lv_has ls nL (asc ad 0 lv)) (hv : lv[i]? = some v) (h9 : v.1 ≠ 9) : ls[i]? = some (.val (cav ad v)) := by
  have h1 := asc_mem (ad := ad) lv 0 i v hv h9
  rw [Nat.zero_add] at h1
  exact h.2.2 _ h1
def okst (lv : List AV) (i : Nat) : Bool := match i with
  | 0 => true
  | j + 1 => match lv[j]? with
    | some v => v.1 != 2
    | none => true
theorem cav_cat {ad : Ad} {v : AV} (h : v.1 ≠ 2) : (cav ad v).category ≠ 2 := by
  obtain ⟨k, x⟩ := v
  match k with
  | 0 => exact (show (1 : Nat) ≠ 2 by decide)
  | 1 => exact (show (1 : Nat) ≠ 2 by decide)
  | 2 => exact absurd rfl h
  | 3 =>
    show (if x < 0 then Value.null else Value.ref (ad x)).category ≠ 2
    split
    · exact (show (1 : Nat) ≠ 2 by decide)
    · exact (show (1 : Nat) ≠ 2 by decide)
  | k + 4 => exact (show (1 : Nat) ≠ 2 by decide)
theorem okst_at {lv : List AV} {j : Nat} {w : AV} (h : okst lv (j + 1) = true) (hw : lv[j]? = some w) : w.1 ≠ 2 := by
  intro h2
  simp [okst, hw, h2] at h
theorem asc_set {ad : Ad} {ls : Array Slot} {nL i : Nat} {lv : List AV} {v : AV} (hs : okst lv i = true)
    (h : lv_has ls nL ((i, cav ad v) :: (asc ad 0 lv).filter (fun q => !(q.1 == i) && !(q.1 + 1 == i && q.2.category == 2)))) : lv_has ls nL (asc ad 0 (lv.set i v)) := by
  refine ⟨h.1, h.2.1, fun q hq => h.2.2 q ?_⟩
  obtain ⟨j, w, e1, e2, rfl⟩ := asc_of _ _ _ hq
  rw [Nat.zero_add]
  by_cases hj : j = i
  · subst hj
    rw [List.getElem?_set] at e1
    simp only [if_true] at e1
    split at e1
    · cases e1; exact List.mem_cons_self
    · cases e1
  · refine List.mem_cons_of_mem _ (List.mem_filter.mpr ⟨?_, ?_⟩)
    · have e3 : lv[j]? = some w := by
        rw [List.getElem?_set_ne (Ne.symm hj)] at e1; exact e1
      have := asc_mem (ad := ad) lv 0 j w e3 e2
      rwa [Nat.zero_add] at this
    · have e3 : lv[j]? = some w := by
        rw [List.getElem?_set_ne (Ne.symm hj)] at e1; exact e1
      by_cases h1 : j + 1 = i
      · subst h1
        have := cav_cat (ad := ad) (okst_at hs e3)
        simp [hj, this]
      · simp [hj, h1]
theorem asc_set2 {ad : Ad} {ls : Array Slot} {nL i : Nat} {lv : List AV} {v : AV} (hs : okst lv i = true)
    (h : lv_has ls nL ((i, cav ad v) :: (asc ad 0 lv).filter (fun q => !(q.1 == i) && (!(q.1 == i + 1) && !(q.1 + 1 == i && q.2.category == 2))))) : lv_has ls nL (asc ad 0 ((lv.set i v).set (i + 1) (9, 0))) := by
  refine ⟨h.1, h.2.1, fun q hq => h.2.2 q ?_⟩
  obtain ⟨j, w, e1, e2, rfl⟩ := asc_of _ _ _ hq
  rw [Nat.zero_add]
  by_cases hj1 : j = i + 1
  · subst hj1
    rw [List.getElem?_set] at e1
    simp only [if_true] at e1
    split at e1
    · cases e1; exact absurd rfl e2
    · cases e1
  rw [List.getElem?_set_ne (Ne.symm hj1)] at e1
  by_cases hj : j = i
  · subst hj
    rw [List.getElem?_set] at e1
    simp only [if_true] at e1
    split at e1
    · cases e1; exact List.mem_cons_self
    · cases e1
  · have e3 : lv[j]? = some w := by
      rw [List.getElem?_set_ne (Ne.symm hj)] at e1; exact e1
    refine List.mem_cons_of_mem _ (List.mem_filter.mpr ⟨?_, ?_⟩)
    · have := asc_mem (ad := ad) lv 0 j w e3 e2
      rwa [Nat.zero_add] at this
    · by_cases h1 : j + 1 = i
      · subst h1
        have := cav_cat (ad := ad) (okst_at hs e3)
        simp [hj, hj1, this]
      · simp [hj, hj1, h1]
theorem okl_cons {α : Sh} {v : AV} {l : List AV} (h1 : okv α v) (h2 : okl α l) : okl α (v :: l) := fun w hw => (List.mem_cons.mp hw).elim (fun e => e ▸ h1) (h2 w)
theorem okl_hd {α : Sh} {v : AV} {l : List AV} (h : okl α (v :: l)) : okv α v := h v List.mem_cons_self
theorem okl_tl {α : Sh} {v : AV} {l : List AV} (h : okl α (v :: l)) : okl α l := fun w hw => h w (List.mem_cons_of_mem _ hw)
theorem okl_nil {α : Sh} : okl α [] := fun _ h => absurd h List.not_mem_nil
theorem okl_set {α : Sh} {v : AV} {l : List AV} {i : Nat} (h1 : okv α v) (h2 : okl α l) : okl α (l.set i v) := fun w hw => (List.mem_or_eq_of_mem_set hw).elim (h2 w) (fun e => e ▸ h1)
theorem okl_at {α : Sh} {v : AV} {l : List AV} {i : Nat} (h2 : okl α l) (h : l[i]? = some v) : okv α v := h2 v (List.mem_of_getElem? h)
theorem okl_app {α : Sh} {a b : List AV} (h1 : okl α a) (h2 : okl α b) : okl α (a ++ b) := fun w hw => (List.mem_append.mp hw).elim (h1 w) (h2 w)
theorem okv_9 {α : Sh} : okv α (9, 0) := trivial
-- the entry
def ent : List AV → List AV := fun l => l.flatMap fun v => if v.1 = 2 then [v, (9, 0)] else [v]
theorem ent_sl {ad : Ad} : ∀ (args : List AV), (lg_sl (args.map (cav ad))).length = (ent args).length := by
  intro args
  induction args with
  | nil => rfl
  | cons a r ih =>
    simp only [lg_sl, ent, List.map_cons, List.flatMap_cons, List.length_append] at ih ⊢
    rw [ih]
    congr 1
    by_cases h : a.1 = 2
    · rw [if_pos h]
      obtain ⟨k, x⟩ := a
      cases h
      rfl
    · rw [if_neg h, if_neg (cav_cat h)]; rfl
theorem ent_args {ad : Ad} (k : Nat) : ∀ (args : List AV) (n : Nat) (q : Nat × Value), q ∈ asc ad n (ent args ++ List.replicate k (9, 0)) → q ∈ lv_args n (args.map (cav ad)) := by
  intro args
  induction args with
  | nil =>
    intro n q h
    obtain ⟨i, v, e1, e2, -⟩ := asc_of _ _ _ h
    simp [ent, List.getElem?_replicate] at e1
    exact absurd (by rw [← e1.2]) e2
  | cons a r ih =>
    intro n q h
    by_cases ha : a.1 = 2
    · have he : ent (a :: r) = a :: (9, 0) :: ent r := by simp [ent, ha]
      rw [he] at h
      have hc : (cav ad a).category = 2 := by
        obtain ⟨k, x⟩ := a
        cases ha
        rfl
      simp only [List.map_cons, lv_args, hc, if_true]
      simp only [List.cons_append, asc, ha, if_neg (show ¬ (2 = 9) by decide), if_true] at h
      rcases List.mem_cons.mp h with h | h
      · rw [h]; exact List.mem_cons_self
      · exact List.mem_cons_of_mem _ (ih (n + 2) q h)
    · have he : ent (a :: r) = a :: ent r := by simp [ent, ha]
      rw [he] at h
      simp only [List.map_cons, lv_args, if_neg (cav_cat ha)]
      simp only [List.cons_append, asc] at h
      split at h
      · exact List.mem_cons_of_mem _ (ih (n + 1) q h)
      · rcases List.mem_cons.mp h with h | h
        · rw [h]; exact List.mem_cons_self
        · exact List.mem_cons_of_mem _ (ih (n + 1) q h)
theorem okl_ent {α : Sh} {args : List AV} {k : Nat} (h : okl α args) : okl α (ent args ++ List.replicate k (9, 0)) := by
  refine okl_app ?_ (fun w hw => by rw [(List.mem_replicate.mp hw).2]; exact okv_9)
  intro w hw
  obtain ⟨a, h1, h2⟩ := List.mem_flatMap.mp hw
  split at h2
  · rcases List.mem_cons.mp h2 with h3 | h3
    · exact h3 ▸ h a h1
    · rw [List.mem_singleton.mp h3]; exact okv_9
  · rw [List.mem_singleton.mp h2]; exact h a h1
theorem EX.rf {α : Sh} {ad : Ad} : EX α ad α ad := fun _ _ => ⟨rfl, rfl⟩
set_option maxHeartbeats 4000000 in
theorem MT_of {Γ : GC} {y : MethodName} {cc : ByteArray} {maxL k : Nat} {ret : Option FieldType} {d mc ms : Nat} {args : List AV} {α : Sh} {μ : Mem} {Q : Option AV → Sh → Mem → Prop} (lv : List AV) (hy : plainName y.cls = true) (hlv : lv = ent args ++ List.replicate k (9, 0)) (hle : (ent args).length + k = maxL)
    (body : ∀ ad0, V Γ α ad0 (ZM Γ α ad0 Q mc ms) (RM d mc ms) y.cls cc maxL ret y.name 0 [] lv α μ 0 0) : MT Γ y cc maxL ret d mc ms args α μ Q := by
  intro hok ad
  subst hlv
  refine Met.ofW (cc := cc) (maxL := maxL) (ret := ret) hy rfl ?_
  intro p e s m ar below meth c s₁ B hml hv
  obtain ⟨rfl, ⟨hK, hbs⟩, hH⟩ := hv
  have hts : ∀ w ∈ lw_good, w.before ((args.map (cav ad)).toArray) s = true := fun w hw => atoms_spec (ws := wsOf y cc maxL ret) B.pre w (List.mem_cons_of_mem _ hw)
  have hlen : (lg_sl (args.map (cav ad))).length ≤ maxL := by rw [ent_sl]; omega
  have hl0 := lv_entry (args.map (cav ad)) (n := maxL) hlen
  rw [lg_entry_eq]
  refine body ad p e s m _ below meth c ad s.heap _ [] ⟨⟨B.exec, B.bytes⟩, hml, findClass_of_methodNamed B.named, hts, B.returns, B.notSynchronized, fun _ => (name_of_methodNamed B.named B.method).1, hK, hbs⟩ hH EX.rf okl_nil (okl_ent hok) ?_ va_S.rf
  exact ⟨hl0.1, hl0.2.1, fun q hq => hl0.2.2 q (ent_args k args 0 q hq)⟩
