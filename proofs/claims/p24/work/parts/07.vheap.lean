/-- a memory with one place changed -/
def mu (μ : Mem) (t i x : Int) : Mem := fun t1 i1 => if t1 = t ∧ i1 = i then x else μ t1 i1
/-- a memory with one cell anew -/
def mn (μ : Mem) (t : Int) (f : Int → Int) : Mem := fun t1 => if t1 = t then f else μ t1
def sa (α : Sh) (t : Int) (sh : Nat × Nat) : Sh := fun t1 => if t1 = t then sh else α t1
theorem mu_s (μ : Mem) (t i x : Int) : mu μ t i x t i = x := if_pos ⟨rfl, rfl⟩
theorem mu_t (μ : Mem) (t i x : Int) {t1 i1 : Int} (h : t1 ≠ t) : mu μ t i x t1 i1 = μ t1 i1 := if_neg (fun q => h q.1)
theorem mu_i (μ : Mem) (t i x : Int) {t1 i1 : Int} (h : i1 ≠ i) : mu μ t i x t1 i1 = μ t1 i1 := if_neg (fun q => h q.2)
theorem mu_f (μ : Mem) (t i x : Int) {t1 : Int} (h : t1 ≠ t) : mu μ t i x t1 = μ t1 := funext fun _ => mu_t μ t i x h
theorem mn_s (μ : Mem) (t : Int) (f : Int → Int) : mn μ t f t = f := if_pos rfl
theorem mn_t (μ : Mem) (t : Int) (f : Int → Int) {t1 : Int} (h : t1 ≠ t) : mn μ t f t1 = μ t1 := if_neg h
theorem sa_s (α : Sh) (t : Int) (sh : Nat × Nat) : sa α t sh t = sh := if_pos rfl
theorem sa_t (α : Sh) (t : Int) (sh : Nat × Nat) {t1 : Int} (h : t1 ≠ t) : sa α t sh t1 = α t1 := if_neg h
theorem hws_at {Γ : GC} {ad : Ad} {α : Sh} {μ : Mem} {L : List Int} {q0 : Nat} {t : Int} (h : L[q0]? = some t) : (hws Γ ad α μ L)[q0]? = some (ad t, ec Γ ad (α t) (μ t)) := by
  simp [hws, h]
theorem hws_set {Γ : GC} {ad : Ad} {α : Sh} {μ μ1 : Mem} {L : List Int} {q0 : Nat} {t : Int} (hn : L.Nodup) (h : L[q0]? = some t) (hm : ∀ u, u ≠ t → μ1 u = μ u) : (hws Γ ad α μ L).set q0 (ad t, ec Γ ad (α t) (μ1 t)) = hws Γ ad α μ1 L := by
  apply List.ext_getElem?
  intro j
  by_cases hj : q0 = j
  · subst hj
    have hlt : q0 < L.length := (List.getElem?_eq_some_iff.mp h).1
    rw [List.getElem?_set_self (by simpa [hws] using hlt), hws_at h]
  · rw [List.getElem?_set_ne hj]
    simp only [hws, List.getElem?_map]
    cases hu : L[j]? with
    | none => rfl
    | some u =>
      have hne : u ≠ t := by
        intro he
        subst he
        exact hj ((List.getElem?_inj (List.getElem?_eq_some_iff.mp h).1 hn).mp (h.trans hu.symm))
      simp [hm u hne]
theorem ec_20 {Γ : GC} {ad : Ad} {n : Nat} {f : Int → Int} : ec Γ ad (20, n) f = .inl (g_A Γ 20, n, .inl fun i => Int32.ofInt (f i)) := rfl
theorem ec_21 {Γ : GC} {ad : Ad} {n : Nat} {f : Int → Int} : ec Γ ad (21, n) f = .inl (g_A Γ 21, n, .inl fun i => Int32.ofInt (f i)) := rfl
theorem ec_22 {Γ : GC} {ad : Ad} {n : Nat} {f : Int → Int} : ec Γ ad (22, n) f = .inl (g_A Γ 22, n, .inr (.inl fun i => Int64.ofInt (f i))) := rfl
theorem ec_q {Γ : GC} {ad : Ad} {k n : Nat} {f : Int → Int} (h : 23 ≤ k) : ec Γ ad (k, n) f = .inl (g_A Γ k, n, .inr (.inr (.inr (.inr fun i => if f i < 0 then none else some (ad (f i)))))) := by
  unfold ec
  rw [if_neg (by show ¬ k < 20; omega), if_neg (by show ¬ k < 22; omega), if_neg (by show ¬ k = 22; omega)]
def cfs (ad : Ad) (ci : Nat) (f : Int → Int) : List Value := (List.range (cN ci)).map fun k : Nat => cv ad (cK ci k) (f k)
theorem ec_c {Γ : GC} {ad : Ad} {ci n : Nat} {f : Int → Int} (h : ci < 8) : ec Γ ad (ci + 1, n) f = .inr (ci, cfs ad ci f) := by
  unfold ec
  rw [if_pos (by show ci + 1 < 20; omega)]
  rfl
theorem ek_c {ci i : Nat} (h : ci < 8) : ek (ci + 1) i = cK ci i := by
  unfold ek
  rw [if_pos (by omega)]
  rfl
theorem ek_q {k i : Nat} (h : 23 ≤ k) : ek k i = 3 := by
  unfold ek
  rw [if_neg (by omega), if_neg (by omega), if_neg (by omega), if_neg (by omega)]
theorem cfs_at {ad : Ad} {ci k : Nat} {f : Int → Int} (h : k < cN ci) : (cfs ad ci f)[k]? = some (cv ad (cK ci k) (f k)) := by
  simp [cfs, List.getElem?_map, List.getElem?_range h]
theorem cfs_len {ad : Ad} {ci : Nat} {f : Int → Int} : (cfs ad ci f).length = cN ci := by simp [cfs]
theorem cfs_set {ad : Ad} {ci k : Nat} {μ : Mem} {t x : Int} : (cfs ad ci (μ t)).set k (cv ad (cK ci k) x) = cfs ad ci (mu μ t k x t) := by
  apply List.ext_getElem?
  intro j
  by_cases hj : k = j
  · subst hj
    by_cases hk : k < cN ci
    · rw [List.getElem?_set_self (by rw [cfs_len]; exact hk), cfs_at hk, mu_s]
    · rw [List.getElem?_eq_none (by rw [List.length_set, cfs_len]; omega), List.getElem?_eq_none (by rw [cfs_len]; omega)]
  · rw [List.getElem?_set_ne hj]
    by_cases hk : j < cN ci
    · rw [cfs_at hk, cfs_at hk, mu_i _ _ _ _ (by omega)]
    · rw [List.getElem?_eq_none (by rw [cfs_len]; omega), List.getElem?_eq_none (by rw [cfs_len]; omega)]
theorem WFm_put {α : Sh} {μ : Mem} {t x : Int} {i : Nat} (h : WFm α μ) (hx : okx α (ek (α t).1 i) x) : WFm α (mu μ t i x) := by
  intro u j hu
  unfold mu
  split
  · rename_i h1
    obtain ⟨h1, h2⟩ := h1
    rw [h1, show j = i by omega]; exact hx
  · exact h u j hu
theorem kv_bool {x : Int} (h : 0 ≤ x ∧ x ≤ 1) : x = 0 ∨ x = 1 := by omega
theorem nar_fit {ad : Ad} {α : Sh} {k : Nat} {ty : FieldType} {x : Int} (hk : kty k ty = true) (h3 : k ≤ 3) (hx : okx α k x) : narrow ty (cv ad k x) = cv ad k x ∧ fits ty (cv ad k x) = true := by
  match k, h3 with
  | 0, _ => rw [show ty = .int by simpa [kty] using hk]; exact ⟨rfl, rfl⟩
  | 1, _ =>
    rw [show ty = .boolean by simpa [kty] using hk]
    rcases kv_bool hx with rfl | rfl <;> exact ⟨rfl, rfl⟩
  | 2, _ => rw [show ty = .long by simpa [kty] using hk]; exact ⟨rfl, rfl⟩
  | 3, _ =>
    have h4 : isRefT ty = true := hk
    show narrow ty (if x < 0 then .null else .ref (ad x)) = (if x < 0 then .null else .ref (ad x)) ∧ fits ty (if x < 0 then .null else .ref (ad x)) = true
    cases ty <;> simp only [isRefT] at h4 <;> first | (cases h4; done) | (split <;> exact ⟨rfl, rfl⟩)
def avk (k : Nat) : Nat := if k = 1 then 0 else k
theorem cv_avk {ad : Ad} {k : Nat} {x : Int} : cv ad (avk k) x = cv ad k x := by
  unfold avk
  split
  · rename_i h; subst h; rfl
  · rfl
theorem okx_avk {α : Sh} {k : Nat} {x : Int} (h : okx α k x) : okx α (avk k) x := by
  unfold avk
  split
  · rename_i h1; subst h1
    have h2 : 0 ≤ x ∧ x ≤ 1 := h
    exact (show inI x by omega)
  · exact h
theorem HR_put {Γ : GC} {α : Sh} {μ : Mem} {ad : Ad} {H1 : Heap} {L : List Int} {t x : Int} {i q0 : Nat} (hn : L.Nodup) (hL : ∀ t, t ∈ L ↔ (α t).1 ≠ 0) (hq : L[q0]? = some t) (hW : WFm α μ) (hx : okx α (ek (α t).1 i) x) {E : va_E} (hE : E = ec Γ ad (α t) (mu μ t i x t))
    (hP : va_P (g_D Γ) CL ((hws Γ ad α μ L).set q0 (ad t, E)) H1) (hD : va_D (fun q => g_b Γ ≤ q) ((hws Γ ad α μ L).set q0 (ad t, E))) : HR Γ α (mu μ t i x) ad H1 := by
  subst hE
  rw [hws_set hn hq (fun u hu => mu_f μ t i x hu)] at hP hD
  exact ⟨⟨L, hn, hL, hP, hD⟩, WFm_put hW hx⟩
section VH
variable {Γ : GC} {α0 : Sh} {ad0 : Ad} {Z : ZT} {R : Room} {own : String} {cc : ByteArray} {nL : Nat} {ret : Option FieldType} {nm : String} {pc q : Nat} {st lv : List AV} {α : Sh} {μ : Mem} {cs sl : Nat}
theorem FX.hx {Γ : GC} {p : Program} {s : State} {m : MethodId} {args : Array Value} {meth : Method} {c : Code} (F : FX Γ p s m args meth c own cc nL ret nm) : p.tables.exec = Jvm.exec := F.1.1
theorem FX.hb {Γ : GC} {p : Program} {s : State} {m : MethodId} {args : Array Value} {meth : Method} {c : Code} (F : FX Γ p s m args meth c own cc nL ret nm) : c.code = cc := F.1.2
theorem FX.ml {Γ : GC} {p : Program} {s : State} {m : MethodId} {args : Array Value} {meth : Method} {c : Code} (F : FX Γ p s m args meth c own cc nL ret nm) : c.maxLocals = nL := F.2.1
theorem FX.ow {Γ : GC} {p : Program} {s : State} {m : MethodId} {args : Array Value} {meth : Method} {c : Code} (F : FX Γ p s m args meth c own cc nL ret nm) : s.vm.findClass own = some m.cls := F.2.2.1
theorem FX.ts {Γ : GC} {p : Program} {s : State} {m : MethodId} {args : Array Value} {meth : Method} {c : Code} (F : FX Γ p s m args meth c own cc nL ret nm) : ∀ w ∈ lw_good, w.before args s = true := F.2.2.2.1
theorem FX.w {Γ : GC} {p : Program} {s : State} {m : MethodId} {args : Array Value} {meth : Method} {c : Code} (F : FX Γ p s m args meth c own cc nL ret nm) {w : Cond} (h : w ∈ lw_tbl) (hg : goodWord w = true) : w.before args s = true := F.2.2.2.1 w (lw_gd h hg)
theorem FX.rt {Γ : GC} {p : Program} {s : State} {m : MethodId} {args : Array Value} {meth : Method} {c : Code} (F : FX Γ p s m args meth c own cc nL ret nm) : meth.sig.returnType = ret := F.2.2.2.2.1
theorem FX.lk {Γ : GC} {p : Program} {s : State} {m : MethodId} {args : Array Value} {meth : Method} {c : Code} (F : FX Γ p s m args meth c own cc nL ret nm) : meth.locks = false := F.2.2.2.2.2.1
theorem FX.nme {Γ : GC} {p : Program} {s : State} {m : MethodId} {args : Array Value} {meth : Method} {c : Code} (F : FX Γ p s m args meth c own cc nL ret nm) : nm = "<init>" → meth.name = nm := F.2.2.2.2.2.2.1
theorem FX.kf {Γ : GC} {p : Program} {s : State} {m : MethodId} {args : Array Value} {meth : Method} {c : Code} (F : FX Γ p s m args meth c own cc nL ret nm) : KF Γ s := F.2.2.2.2.2.2.2.1
theorem FX.bs {Γ : GC} {p : Program} {s : State} {m : MethodId} {args : Array Value} {meth : Method} {c : Code} (F : FX Γ p s m args meth c own cc nL ret nm) : g_b Γ ≤ s.heap.size := F.2.2.2.2.2.2.2.2
theorem cinG {ci : Nat} (h : ci < 8) : ∀ w ∈ u_ws (cR ci) (cT ci) (cN ci), w ∈ lw_good := fun w hw => lw_gd (cin ci h w hw) (cig ci h w hw)
theorem V_get {ci k idx : Nat} {x : Int} (hd : decode cc pc = .ok (.getfield idx, 3)) (hp : pc + 3 = q) (fl : FL own idx ci k) (h0 : 0 ≤ x) (hα : (α x).1 = ci + 1) (kk : okx α (cK ci k) (μ x k) → V Γ α0 ad0 Z R own cc nL ret nm q ((avk (cK ci k), μ x k) :: st) lv α μ cs sl) : V Γ α0 ad0 Z R own cc nL ret nm pc ((3, x) :: st) lv α μ cs sl := by
  intro p e s m args below meth c ad H ls locs F hH hE hst hlv hl hS
  subst hp
  obtain ⟨hlk, hk, h8⟩ := fl
  obtain ⟨⟨L, hn, hL, hP, hD⟩, hW⟩ := id hH
  obtain ⟨q0, hq⟩ := List.mem_iff_getElem?.mp ((hL x).mpr (by omega))
  have he := hws_at (Γ := Γ) (ad := ad) (α := α) (μ := μ) hq
  rw [show α x = (ci + 1, (α x).2) from Prod.ext hα rfl, ec_c h8] at he
  have hx : okx α (cK ci k) (μ x k) := by
    have := hW x k (by omega)
    rwa [hα, ek_c h8] at this
  have e1 : cav ad (3, x) = .ref (ad x) := if_neg (by omega)
  have h1 := kk hx p e s m args below meth c ad H ls locs F hH hE (okl_cons (okx_avk hx) (okl_tl hst)) hlv hl hS
  rw [List.map_cons, e1]
  rw [List.map_cons, show cav ad (avk (cK ci k), μ x k) = cv ad (cK ci k) (μ x k) from cv_avk] at h1
  exact va_get F.hx F.hb F.ts (cinG h8) F.ow F.kf.1 hP q0 he (CL_at ci h8) k hk (F.w hlk rfl) (fun _ h => h) (cfs_at hk) hd h1
theorem V_getI {ci k idx : Nat} {x : Int} (ki : Int) (hd : decode cc pc = .ok (.getfield idx, 3)) (hp : pc + 3 = q) (fl : FL own idx ci k) (h0 : 0 ≤ x) (hα : (α x).1 = ci + 1) (hki : (k : Int) = ki) (hk : cK ci k = 0) (kk : ∀ z : Int, z = μ x ki → inI z → V Γ α0 ad0 Z R own cc nL ret nm q ((0, z) :: st) lv α μ cs sl) : V Γ α0 ad0 Z R own cc nL ret nm pc ((3, x) :: st) lv α μ cs sl := by
  subst hki
  refine V_get hd hp fl h0 hα fun h => ?_
  rw [hk] at h ⊢
  exact kk _ rfl h
theorem V_getZ {ci k idx : Nat} {x : Int} (ki : Int) (hd : decode cc pc = .ok (.getfield idx, 3)) (hp : pc + 3 = q) (fl : FL own idx ci k) (h0 : 0 ≤ x) (hα : (α x).1 = ci + 1) (hki : (k : Int) = ki) (hk : cK ci k = 1) (kk : ∀ z : Int, z = μ x ki → 0 ≤ z ∧ z ≤ 1 → V Γ α0 ad0 Z R own cc nL ret nm q ((0, z) :: st) lv α μ cs sl) : V Γ α0 ad0 Z R own cc nL ret nm pc ((3, x) :: st) lv α μ cs sl := by
  subst hki
  refine V_get hd hp fl h0 hα fun h => ?_
  rw [hk] at h ⊢
  exact kk _ rfl h
theorem V_getJ {ci k idx : Nat} {x : Int} (ki : Int) (hd : decode cc pc = .ok (.getfield idx, 3)) (hp : pc + 3 = q) (fl : FL own idx ci k) (h0 : 0 ≤ x) (hα : (α x).1 = ci + 1) (hki : (k : Int) = ki) (hk : cK ci k = 2) (kk : ∀ z : Int, z = μ x ki → inL z → V Γ α0 ad0 Z R own cc nL ret nm q ((2, z) :: st) lv α μ cs sl) : V Γ α0 ad0 Z R own cc nL ret nm pc ((3, x) :: st) lv α μ cs sl := by
  subst hki
  refine V_get hd hp fl h0 hα fun h => ?_
  rw [hk] at h ⊢
  exact kk _ rfl h
theorem V_getA {ci k idx : Nat} {x : Int} (ki : Int) (hd : decode cc pc = .ok (.getfield idx, 3)) (hp : pc + 3 = q) (fl : FL own idx ci k) (h0 : 0 ≤ x) (hα : (α x).1 = ci + 1) (hki : (k : Int) = ki) (hk : cK ci k = 3) (kk : ∀ z : Int, z = μ x ki → (z < 0 ∨ (α z).1 ≠ 0) → V Γ α0 ad0 Z R own cc nL ret nm q ((3, z) :: st) lv α μ cs sl) : V Γ α0 ad0 Z R own cc nL ret nm pc ((3, x) :: st) lv α μ cs sl := by
  subst hki
  refine V_get hd hp fl h0 hα fun h => ?_
  rw [hk] at h ⊢
  exact kk _ rfl h
theorem V_put {ci k idx : Nat} {t x : Int} (hd : decode cc pc = .ok (.putfield idx, 3)) (hp : pc + 3 = q) (fl : FL own idx ci k) (hfin : (cT ci k).2.2.2 = false ∨ ((cT ci k).2.2.2 = true ∧ nm = "<init>" ∧ cR ci = own)) (h0 : 0 ≤ t) (hα : (α t).1 = ci + 1) (hx : okx α (cK ci k) x) (kk : ∀ μ1, μ1 = mu μ t k x → V Γ α0 ad0 Z R own cc nL ret nm q st lv α μ1 cs sl) : V Γ α0 ad0 Z R own cc nL ret nm pc ((avk (cK ci k), x) :: (3, t) :: st) lv α μ cs sl := by
  intro p e s m args below meth c ad H ls locs F hH hE hst hlv hl hS
  subst hp
  obtain ⟨hlk, hk, h8⟩ := fl
  obtain ⟨⟨L, hn, hL, hP, hD⟩, hW⟩ := id hH
  obtain ⟨q0, hq⟩ := List.mem_iff_getElem?.mp ((hL t).mpr (by omega))
  have hsh : α t = (ci + 1, (α t).2) := Prod.ext hα rfl
  have he := hws_at (Γ := Γ) (ad := ad) (α := α) (μ := μ) hq
  rw [hsh, ec_c h8] at he
  have e1 : cav ad (3, t) = .ref (ad t) := if_neg (by omega)
  have hnf := nar_fit (ad := ad) (ckt ci h8 k hk) (ck3 ci h8 k hk) hx
  have hfl : k < (cfs ad ci (μ t)).length := by rw [cfs_len]; exact hk
  have go : ∀ (H1 : Heap) (locs1 : List Loc), va_P (g_D Γ) CL ((hws Γ ad α μ L).set q0 (ad t, .inr (ci, (cfs ad ci (μ t)).set k (cv ad (cK ci k) x)))) H1 → va_D (fun q => g_b Γ ≤ q) ((hws Γ ad α μ L).set q0 (ad t, .inr (ci, (cfs ad ci (μ t)).set k (cv ad (cK ci k) x)))) → va_S (fun q => g_b Γ ≤ q) s.heap H1 locs1 → W p (g_l Γ) e R s m args below meth c H1 locs1 cs sl (Z s args below) (F0 m (pc + 3) ls (st.map (cav ad))) := by
    intro H1 locs1 hP1 hD1 hS1
    have hE1 : (.inr (ci, (cfs ad ci (μ t)).set k (cv ad (cK ci k) x)) : va_E) = ec Γ ad (α t) (mu μ t k x t) := by
      rw [cfs_set, hsh, ec_c h8]
    exact kk _ rfl p e s m args below meth c ad H1 ls locs1 F (HR_put hn hL hq hW (by rw [hα, ek_c h8]; exact hx) hE1 hP1 hD1) hE (okl_tl (okl_tl hst)) hlv hl hS1
  rw [List.map_cons, List.map_cons, e1, show cav ad (avk (cK ci k), x) = cv ad (cK ci k) x from cv_avk]
  rcases hfin with hf | ⟨hf, hi, ho⟩
  · exact va_put F.hx F.hb F.ts (cinG h8) (cY ci) (cty ci h8) (cnm ci h8) F.ow F.kf.1 hP hD hS q0 he (CL_at ci h8) k hk (F.w hlk rfl) (fun _ h => h) hf (cty ci h8 k hk) hnf.1 hnf.2 hfl hd go
  · exact va_putF F.hx F.hb F.ts (cinG h8) (cY ci) (cty ci h8) (cnm ci h8) F.ow F.kf.1 hP hD hS q0 he (CL_at ci h8) k hk (F.w hlk rfl) (fun _ h => h) hf ((F.nme hi).trans hi) ((cself ci h8 k hk).trans ho) (cty ci h8 k hk) hnf.1 hnf.2 hfl hd go
theorem V_putI {ci k idx : Nat} {t x : Int} (ki : Int) (hd : decode cc pc = .ok (.putfield idx, 3)) (hp : pc + 3 = q) (fl : FL own idx ci k) (hfin : (cT ci k).2.2.2 = false ∨ ((cT ci k).2.2.2 = true ∧ nm = "<init>" ∧ cR ci = own)) (h0 : 0 ≤ t) (hα : (α t).1 = ci + 1) (hki : (k : Int) = ki) (hk : cK ci k = 0) (kk : ∀ μ1, μ1 = mu μ t ki x → V Γ α0 ad0 Z R own cc nL ret nm q st lv α μ1 cs sl) : V Γ α0 ad0 Z R own cc nL ret nm pc ((0, x) :: (3, t) :: st) lv α μ cs sl := by
  subst hki
  intro p e s m args below meth c ad H ls locs F hH hE hst
  have hx : okx α 0 x := okl_hd hst
  have := V_put (st := st) (lv := lv) (μ := μ) (cs := cs) (sl := sl) (x := x) (Γ := Γ) (α0 := α0) (ad0 := ad0) (Z := Z) (R := R) (nL := nL) (ret := ret) hd hp fl hfin h0 hα (by rw [hk]; exact hx) kk
  rw [hk] at this
  exact this p e s m args below meth c ad H ls locs F hH hE hst
theorem V_putZ {ci k idx : Nat} {t x : Int} (ki : Int) (hd : decode cc pc = .ok (.putfield idx, 3)) (hp : pc + 3 = q) (fl : FL own idx ci k) (hfin : (cT ci k).2.2.2 = false ∨ ((cT ci k).2.2.2 = true ∧ nm = "<init>" ∧ cR ci = own)) (h0 : 0 ≤ t) (hα : (α t).1 = ci + 1) (hki : (k : Int) = ki) (hk : cK ci k = 1) (hx : 0 ≤ x ∧ x ≤ 1) (kk : ∀ μ1, μ1 = mu μ t ki x → V Γ α0 ad0 Z R own cc nL ret nm q st lv α μ1 cs sl) : V Γ α0 ad0 Z R own cc nL ret nm pc ((0, x) :: (3, t) :: st) lv α μ cs sl := by
  subst hki
  have := V_put (st := st) (lv := lv) (μ := μ) (cs := cs) (sl := sl) (x := x) (Γ := Γ) (α0 := α0) (ad0 := ad0) (Z := Z) (R := R) (nL := nL) (ret := ret) hd hp fl hfin h0 hα (by rw [hk]; exact hx) kk
  rw [hk] at this
  exact this
theorem V_putJ {ci k idx : Nat} {t x : Int} (ki : Int) (hd : decode cc pc = .ok (.putfield idx, 3)) (hp : pc + 3 = q) (fl : FL own idx ci k) (hfin : (cT ci k).2.2.2 = false ∨ ((cT ci k).2.2.2 = true ∧ nm = "<init>" ∧ cR ci = own)) (h0 : 0 ≤ t) (hα : (α t).1 = ci + 1) (hki : (k : Int) = ki) (hk : cK ci k = 2) (kk : ∀ μ1, μ1 = mu μ t ki x → V Γ α0 ad0 Z R own cc nL ret nm q st lv α μ1 cs sl) : V Γ α0 ad0 Z R own cc nL ret nm pc ((2, x) :: (3, t) :: st) lv α μ cs sl := by
  subst hki
  intro p e s m args below meth c ad H ls locs F hH hE hst
  have hx : okx α 2 x := okl_hd hst
  have := V_put (st := st) (lv := lv) (μ := μ) (cs := cs) (sl := sl) (x := x) (Γ := Γ) (α0 := α0) (ad0 := ad0) (Z := Z) (R := R) (nL := nL) (ret := ret) hd hp fl hfin h0 hα (by rw [hk]; exact hx) kk
  rw [hk] at this
  exact this p e s m args below meth c ad H ls locs F hH hE hst
theorem V_putA {ci k idx : Nat} {t x : Int} (ki : Int) (hd : decode cc pc = .ok (.putfield idx, 3)) (hp : pc + 3 = q) (fl : FL own idx ci k) (hfin : (cT ci k).2.2.2 = false ∨ ((cT ci k).2.2.2 = true ∧ nm = "<init>" ∧ cR ci = own)) (h0 : 0 ≤ t) (hα : (α t).1 = ci + 1) (hki : (k : Int) = ki) (hk : cK ci k = 3) (kk : ∀ μ1, μ1 = mu μ t ki x → V Γ α0 ad0 Z R own cc nL ret nm q st lv α μ1 cs sl) : V Γ α0 ad0 Z R own cc nL ret nm pc ((3, x) :: (3, t) :: st) lv α μ cs sl := by
  subst hki
  intro p e s m args below meth c ad H ls locs F hH hE hst
  have hx : okx α 3 x := okl_hd hst
  have := V_put (st := st) (lv := lv) (μ := μ) (cs := cs) (sl := sl) (x := x) (Γ := Γ) (α0 := α0) (ad0 := ad0) (Z := Z) (R := R) (nL := nL) (ret := ret) hd hp fl hfin h0 hα (by rw [hk]; exact hx) kk
  rw [hk] at this
  exact this p e s m args below meth c ad H ls locs F hH hE hst
theorem V_iald {t i : Int} {n : Nat} (hd : decode cc pc = .ok (.iaload, 1)) (hp : pc + 1 = q) (h0 : 0 ≤ t) (hα : α t = (20, n)) (hi : 0 ≤ i ∧ i < n) (kk : ∀ z : Int, z = μ t i → inI z → V Γ α0 ad0 Z R own cc nL ret nm q ((0, z) :: st) lv α μ cs sl) : V Γ α0 ad0 Z R own cc nL ret nm pc ((0, i) :: (3, t) :: st) lv α μ cs sl := by
  intro p e s m args below meth c ad H ls locs F hH hE hst hlv hl hS
  subst hp
  obtain ⟨⟨L, hn, hL, hP, hD⟩, hW⟩ := id hH
  have hii : inI i := okl_hd hst
  obtain ⟨q0, hq⟩ := List.mem_iff_getElem?.mp ((hL t).mpr (by rw [hα]; exact Nat.succ_ne_zero _))
  have he := hws_at (Γ := Γ) (ad := ad) (α := α) (μ := μ) hq
  rw [hα, ec_20] at he
  have hx : okx α 0 (μ t i) := by
    have := hW t i.toNat (by rw [hα]; exact Nat.succ_ne_zero _)
    rw [hα, Int.toNat_of_nonneg hi.1] at this
    exact this
  have e1 : cav ad (3, t) = .ref (ad t) := if_neg (by omega)
  have h1 := kk _ rfl hx p e s m args below meth c ad H ls locs F hH hE (okl_cons (v := (0, μ t i)) (okx_avk (k := 0) hx) (okl_tl (okl_tl hst))) hlv hl hS
  rw [List.map_cons, List.map_cons, e1]
  refine va_iald F.hx F.hb F.kf.1 hP q0 0 he rfl (oi_in hii hi.1 hi.2) hd ?_
  rw [oi_nat hii, Int.toNat_of_nonneg hi.1]
  exact h1
theorem V_zald {t i : Int} {n : Nat} (hd : decode cc pc = .ok (.baload, 1)) (hp : pc + 1 = q) (h0 : 0 ≤ t) (hα : α t = (21, n)) (hi : 0 ≤ i ∧ i < n) (kk : ∀ z : Int, z = μ t i → 0 ≤ z ∧ z ≤ 1 → V Γ α0 ad0 Z R own cc nL ret nm q ((0, z) :: st) lv α μ cs sl) : V Γ α0 ad0 Z R own cc nL ret nm pc ((0, i) :: (3, t) :: st) lv α μ cs sl := by
  intro p e s m args below meth c ad H ls locs F hH hE hst hlv hl hS
  subst hp
  obtain ⟨⟨L, hn, hL, hP, hD⟩, hW⟩ := id hH
  have hii : inI i := okl_hd hst
  obtain ⟨q0, hq⟩ := List.mem_iff_getElem?.mp ((hL t).mpr (by rw [hα]; exact Nat.succ_ne_zero _))
  have he := hws_at (Γ := Γ) (ad := ad) (α := α) (μ := μ) hq
  rw [hα, ec_21] at he
  have hx : okx α 1 (μ t i) := by
    have := hW t i.toNat (by rw [hα]; exact Nat.succ_ne_zero _)
    rw [hα, Int.toNat_of_nonneg hi.1] at this
    exact this
  have e1 : cav ad (3, t) = .ref (ad t) := if_neg (by omega)
  have h1 := kk _ rfl hx p e s m args below meth c ad H ls locs F hH hE (okl_cons (v := (0, μ t i)) (okx_avk (k := 1) hx) (okl_tl (okl_tl hst))) hlv hl hS
  rw [List.map_cons, List.map_cons, e1]
  refine va_zald F.hx F.hb F.kf.1 hP q0 1 he rfl (oi_in hii hi.1 hi.2) hd ?_
  rw [oi_nat hii, Int.toNat_of_nonneg hi.1]
  exact h1
theorem V_lald {t i : Int} {n : Nat} (hd : decode cc pc = .ok (.laload, 1)) (hp : pc + 1 = q) (h0 : 0 ≤ t) (hα : α t = (22, n)) (hi : 0 ≤ i ∧ i < n) (kk : ∀ z : Int, z = μ t i → inL z → V Γ α0 ad0 Z R own cc nL ret nm q ((2, z) :: st) lv α μ cs sl) : V Γ α0 ad0 Z R own cc nL ret nm pc ((0, i) :: (3, t) :: st) lv α μ cs sl := by
  intro p e s m args below meth c ad H ls locs F hH hE hst hlv hl hS
  subst hp
  obtain ⟨⟨L, hn, hL, hP, hD⟩, hW⟩ := id hH
  have hii : inI i := okl_hd hst
  obtain ⟨q0, hq⟩ := List.mem_iff_getElem?.mp ((hL t).mpr (by rw [hα]; exact Nat.succ_ne_zero _))
  have he := hws_at (Γ := Γ) (ad := ad) (α := α) (μ := μ) hq
  rw [hα, ec_22] at he
  have hx : okx α 2 (μ t i) := by
    have := hW t i.toNat (by rw [hα]; exact Nat.succ_ne_zero _)
    rw [hα, Int.toNat_of_nonneg hi.1] at this
    exact this
  have e1 : cav ad (3, t) = .ref (ad t) := if_neg (by omega)
  have h1 := kk _ rfl hx p e s m args below meth c ad H ls locs F hH hE (okl_cons (v := (2, μ t i)) (okx_avk (k := 2) hx) (okl_tl (okl_tl hst))) hlv hl hS
  rw [List.map_cons, List.map_cons, e1]
  refine va_lald F.hx F.hb F.kf.1 hP q0 2 he rfl (oi_in hii hi.1 hi.2) hd ?_
  rw [oi_nat hii, Int.toNat_of_nonneg hi.1]
  exact h1
theorem g_ty_at {Γ : GC} {ci ta : Nat} (h : tyA ta = .object (cR ci)) (h1 : 23 ≤ ta ∧ ta ≤ 26) : (g_ty Γ)[ta - 20]? = some (g_A Γ ta, .object (cR ci)) := by
  rcases (show ta = 23 ∨ ta = 24 ∨ ta = 25 ∨ ta = 26 by omega) with rfl | rfl | rfl | rfl <;> (rw [← h]; rfl)
theorem V_aald {t i : Int} {n ta ci : Nat} (hd : decode cc pc = .ok (.aaload, 1)) (hp : pc + 1 = q) (h0 : 0 ≤ t) (hα : α t = (ta, n)) (hta : tyA ta = .object (cR ci)) (h1 : 23 ≤ ta ∧ ta ≤ 26) (hi : 0 ≤ i ∧ i < n) (kk : ∀ z : Int, z = μ t i → (z < 0 ∨ (α z).1 ≠ 0) → V Γ α0 ad0 Z R own cc nL ret nm q ((3, z) :: st) lv α μ cs sl) : V Γ α0 ad0 Z R own cc nL ret nm pc ((0, i) :: (3, t) :: st) lv α μ cs sl := by
  intro p e s m args below meth c ad H ls locs F hH hE hst hlv hl hS
  subst hp
  obtain ⟨⟨L, hn, hL, hP, hD⟩, hW⟩ := id hH
  have hii : inI i := okl_hd hst
  obtain ⟨q0, hq⟩ := List.mem_iff_getElem?.mp ((hL t).mpr (by rw [hα]; show ta ≠ 0; omega))
  have he := hws_at (Γ := Γ) (ad := ad) (α := α) (μ := μ) hq
  rw [hα, ec_q h1.1] at he
  have hx : okx α 3 (μ t i) := by
    have := hW t i.toNat (by rw [hα]; show ta ≠ 0; omega)
    rw [hα, Int.toNat_of_nonneg hi.1, ek_q h1.1] at this
    exact this
  have e1 : cav ad (3, t) = .ref (ad t) := if_neg (by omega)
  have h2 := kk _ rfl hx p e s m args below meth c ad H ls locs F hH hE (okl_cons (v := (3, μ t i)) hx (okl_tl (okl_tl hst))) hlv hl hS
  rw [List.map_cons, List.map_cons, e1]
  refine va_aldq F.hx F.hb F.kf.1 hP q0 (ta - 20) he (g_ty_at hta h1) (oi_in hii hi.1 hi.2) hd ?_
  rw [oi_nat hii, Int.toNat_of_nonneg hi.1]
  have e2 : va_rf (if μ t i < 0 then none else some (ad (μ t i))) = cav ad (3, μ t i) := by
    show _ = (if μ t i < 0 then Value.null else Value.ref (ad (μ t i)))
    split <;> rfl
  rw [e2]
  exact h2
theorem V_iast {t i x : Int} {n : Nat} (hd : decode cc pc = .ok (.iastore, 1)) (hp : pc + 1 = q) (h0 : 0 ≤ t) (hα : α t = (20, n)) (hi : 0 ≤ i ∧ i < n) (kk : ∀ μ1, μ1 = mu μ t i x → V Γ α0 ad0 Z R own cc nL ret nm q st lv α μ1 cs sl) : V Γ α0 ad0 Z R own cc nL ret nm pc ((0, x) :: (0, i) :: (3, t) :: st) lv α μ cs sl := by
  intro p e s m args below meth c ad H ls locs F hH hE hst hlv hl hS
  subst hp
  obtain ⟨⟨L, hn, hL, hP, hD⟩, hW⟩ := id hH
  have hxx := okl_hd hst
  have hii : inI i := okl_hd (okl_tl hst)
  obtain ⟨q0, hq⟩ := List.mem_iff_getElem?.mp ((hL t).mpr (by rw [hα]; exact Nat.succ_ne_zero _))
  have he := hws_at (Γ := Γ) (ad := ad) (α := α) (μ := μ) hq
  rw [hα, ec_20] at he
  have e1 : cav ad (3, t) = .ref (ad t) := if_neg (by omega)
  have hit : ((i.toNat : Nat) : Int) = i := Int.toNat_of_nonneg hi.1
  rw [List.map_cons, List.map_cons, List.map_cons, e1]
  refine va_iast F.hx F.hb F.kf.1 hP hD hS q0 0 he rfl (oi_in hii hi.1 hi.2) hd ?_
  intro H1 locs1 hP1 hD1 hS1
  rw [oi_nat hii] at hP1 hD1
  have hE1 : (.inl (g_A Γ 20, n, .inl (upd (fun j : Nat => Int32.ofInt (μ t j)) i.toNat (Int32.ofInt x))) : va_E) = ec Γ ad (α t) (mu μ t (i.toNat : Nat) x t) := by
    rw [hα, ec_20]
    congr 4
    funext j
    unfold upd mu
    by_cases hj : j = i.toNat
    · rw [if_pos hj, if_pos ⟨rfl, by omega⟩]
    · rw [if_neg hj, if_neg (fun h => hj (by omega))]
  have h1 := kk _ rfl p e s m args below meth c ad H1 ls locs1 F (by have := HR_put hn hL hq hW (i := i.toNat) (x := x) (by rw [hα]; exact hxx) hE1 hP1 hD1; rwa [hit] at this) hE (okl_tl (okl_tl (okl_tl hst))) hlv hl hS1
  exact h1
theorem V_zast {t i x : Int} {n : Nat} (hd : decode cc pc = .ok (.bastore, 1)) (hp : pc + 1 = q) (h0 : 0 ≤ t) (hα : α t = (21, n)) (hi : 0 ≤ i ∧ i < n) (hx : 0 ≤ x ∧ x ≤ 1) (kk : ∀ μ1, μ1 = mu μ t i x → V Γ α0 ad0 Z R own cc nL ret nm q st lv α μ1 cs sl) : V Γ α0 ad0 Z R own cc nL ret nm pc ((0, x) :: (0, i) :: (3, t) :: st) lv α μ cs sl := by
  intro p e s m args below meth c ad H ls locs F hH hE hst hlv hl hS
  subst hp
  obtain ⟨⟨L, hn, hL, hP, hD⟩, hW⟩ := id hH
  have hxx := okl_hd hst
  have hii : inI i := okl_hd (okl_tl hst)
  obtain ⟨q0, hq⟩ := List.mem_iff_getElem?.mp ((hL t).mpr (by rw [hα]; exact Nat.succ_ne_zero _))
  have he := hws_at (Γ := Γ) (ad := ad) (α := α) (μ := μ) hq
  rw [hα, ec_21] at he
  have e1 : cav ad (3, t) = .ref (ad t) := if_neg (by omega)
  have hit : ((i.toNat : Nat) : Int) = i := Int.toNat_of_nonneg hi.1
  rw [List.map_cons, List.map_cons, List.map_cons, e1]
  refine va_zast F.hx F.hb F.kf.1 hP hD hS q0 1 he rfl (oi_in hii hi.1 hi.2) hd ?_
  intro H1 locs1 hP1 hD1 hS1
  rw [oi_nat hii] at hP1 hD1
  have hnar : vp_nar .boolean (Int32.ofInt x) = Int32.ofInt x := by rcases kv_bool hx with rfl | rfl <;> rfl
  rw [hnar] at hP1 hD1
  have hE1 : (.inl (g_A Γ 21, n, .inl (upd (fun j : Nat => Int32.ofInt (μ t j)) i.toNat (Int32.ofInt x))) : va_E) = ec Γ ad (α t) (mu μ t (i.toNat : Nat) x t) := by
    rw [hα, ec_21]
    congr 4
    funext j
    unfold upd mu
    by_cases hj : j = i.toNat
    · rw [if_pos hj, if_pos ⟨rfl, by omega⟩]
    · rw [if_neg hj, if_neg (fun h => hj (by omega))]
  have h1 := kk _ rfl p e s m args below meth c ad H1 ls locs1 F (by have := HR_put hn hL hq hW (i := i.toNat) (x := x) (by rw [hα]; exact hx) hE1 hP1 hD1; rwa [hit] at this) hE (okl_tl (okl_tl (okl_tl hst))) hlv hl hS1
  exact h1
theorem V_last {t i x : Int} {n : Nat} (hd : decode cc pc = .ok (.lastore, 1)) (hp : pc + 1 = q) (h0 : 0 ≤ t) (hα : α t = (22, n)) (hi : 0 ≤ i ∧ i < n) (kk : ∀ μ1, μ1 = mu μ t i x → V Γ α0 ad0 Z R own cc nL ret nm q st lv α μ1 cs sl) : V Γ α0 ad0 Z R own cc nL ret nm pc ((2, x) :: (0, i) :: (3, t) :: st) lv α μ cs sl := by
  intro p e s m args below meth c ad H ls locs F hH hE hst hlv hl hS
  subst hp
  obtain ⟨⟨L, hn, hL, hP, hD⟩, hW⟩ := id hH
  have hxx := okl_hd hst
  have hii : inI i := okl_hd (okl_tl hst)
  obtain ⟨q0, hq⟩ := List.mem_iff_getElem?.mp ((hL t).mpr (by rw [hα]; exact Nat.succ_ne_zero _))
  have he := hws_at (Γ := Γ) (ad := ad) (α := α) (μ := μ) hq
  rw [hα, ec_22] at he
  have e1 : cav ad (3, t) = .ref (ad t) := if_neg (by omega)
  have hit : ((i.toNat : Nat) : Int) = i := Int.toNat_of_nonneg hi.1
  rw [List.map_cons, List.map_cons, List.map_cons, e1]
  refine va_last F.hx F.hb F.kf.1 hP hD hS q0 2 he rfl (oi_in hii hi.1 hi.2) hd ?_
  intro H1 locs1 hP1 hD1 hS1
  rw [oi_nat hii] at hP1 hD1
  have hE1 : (.inl (g_A Γ 22, n, .inr (.inl (vp_updL (fun j : Nat => Int64.ofInt (μ t j)) i.toNat (Int64.ofInt x)))) : va_E) = ec Γ ad (α t) (mu μ t (i.toNat : Nat) x t) := by
    rw [hα, ec_22]
    congr 5
    funext j
    unfold vp_updL mu
    by_cases hj : j = i.toNat
    · rw [if_pos hj, if_pos ⟨rfl, by omega⟩]
    · rw [if_neg hj, if_neg (fun h => hj (by omega))]
  have h1 := kk _ rfl p e s m args below meth c ad H1 ls locs1 F (by have := HR_put hn hL hq hW (i := i.toNat) (x := x) (by rw [hα]; exact hxx) hE1 hP1 hD1; rwa [hit] at this) hE (okl_tl (okl_tl (okl_tl hst))) hlv hl hS1
  exact h1
theorem V_aast {t i x : Int} {n ta ci : Nat} (hd : decode cc pc = .ok (.aastore, 1)) (hp : pc + 1 = q) (h0 : 0 ≤ t) (hα : α t = (ta, n)) (hta : tyA ta = .object (cR ci)) (h8 : ci < 8) (h1 : 23 ≤ ta ∧ ta ≤ 26) (hi : 0 ≤ i ∧ i < n) (hx0 : 0 ≤ x) (hx : (α x).1 = ci + 1) (kk : ∀ μ1, μ1 = mu μ t i x → V Γ α0 ad0 Z R own cc nL ret nm q st lv α μ1 cs sl) : V Γ α0 ad0 Z R own cc nL ret nm pc ((3, x) :: (0, i) :: (3, t) :: st) lv α μ cs sl := by
  intro p e s m args below meth c ad H ls locs F hH hE hst hlv hl hS
  subst hp
  obtain ⟨⟨L, hn, hL, hP, hD⟩, hW⟩ := id hH
  have hii : inI i := okl_hd (okl_tl hst)
  obtain ⟨q0, hq⟩ := List.mem_iff_getElem?.mp ((hL t).mpr (by rw [hα]; show ta ≠ 0; omega))
  obtain ⟨q1, hq1⟩ := List.mem_iff_getElem?.mp ((hL x).mpr (by omega))
  have he := hws_at (Γ := Γ) (ad := ad) (α := α) (μ := μ) hq
  rw [hα, ec_q h1.1] at he
  have he1 := hws_at (Γ := Γ) (ad := ad) (α := α) (μ := μ) hq1
  rw [show α x = (ci + 1, (α x).2) from Prod.ext hx rfl, ec_c h8] at he1
  have e1 : cav ad (3, t) = .ref (ad t) := if_neg (by omega)
  have e2 : cav ad (3, x) = .ref (ad x) := if_neg (by omega)
  have hit : ((i.toNat : Nat) : Int) = i := Int.toNat_of_nonneg hi.1
  rw [List.map_cons, List.map_cons, List.map_cons, e1, e2]
  refine va_astq F.hx F.hb F.kf.1 hP hD hS q0 (ta - 20) q1 ci he (g_ty_at hta h1) he1 (CL_at ci h8) (oi_in hii hi.1 hi.2) hd ?_
  intro H1 locs1 hP1 hD1 hS1
  rw [oi_nat hii] at hP1 hD1
  have hE1 : (.inl (g_A Γ ta, n, .inr (.inr (.inr (.inr (va_up (fun j : Nat => if μ t j < 0 then none else some (ad (μ t j))) i.toNat (some (ad x))))))) : va_E) = ec Γ ad (α t) (mu μ t (i.toNat : Nat) x t) := by
    rw [hα, ec_q h1.1]
    congr 7
    funext j
    unfold va_up
    by_cases hj : j = i.toNat
    · rw [if_pos hj, show mu μ t (i.toNat : Nat) x t (j : Int) = x from by rw [hj]; exact mu_s _ _ _ _, if_neg (by omega)]
    · rw [if_neg hj, mu_i _ _ _ _ (show (j : Int) ≠ (i.toNat : Nat) by omega)]
  have h2 := kk _ rfl p e s m args below meth c ad H1 ls locs1 F (by have := HR_put hn hL hq hW (i := i.toNat) (x := x) (by rw [hα, ek_q h1.1]; exact Or.inr (by omega)) hE1 hP1 hD1; rwa [hit] at this) hE (okl_tl (okl_tl (okl_tl hst))) hlv hl hS1
  exact h2
theorem V_alen {t : Int} {n : Nat} (hd : decode cc pc = .ok (.arraylength, 1)) (hp : pc + 1 = q) (h0 : 0 ≤ t) (hα : α t = (20, n)) (hn32 : inI n) (k : V Γ α0 ad0 Z R own cc nL ret nm q ((0, (n : Int)) :: st) lv α μ cs sl) : V Γ α0 ad0 Z R own cc nL ret nm pc ((3, t) :: st) lv α μ cs sl := by
  intro p e s m args below meth c ad H ls locs F hH hE hst hlv hl hS
  subst hp
  obtain ⟨⟨L, hn, hL, hP, hD⟩, hW⟩ := id hH
  obtain ⟨q0, hq⟩ := List.mem_iff_getElem?.mp ((hL t).mpr (by rw [hα]; exact Nat.succ_ne_zero _))
  have he := hws_at (Γ := Γ) (ad := ad) (α := α) (μ := μ) hq
  rw [hα, ec_20] at he
  have e1 : cav ad (3, t) = .ref (ad t) := if_neg (by omega)
  rw [List.map_cons, e1]
  have h1 := hP q0 _ he
  refine W.alen F.hx F.hb (cell := vp_cell (g_A Γ 20) (n, .inl fun i : Nat => Int32.ofInt (μ t i))) (ty := .int) h1 ((F.kf.1.2 0 _ rfl).1 _ _) (n := Int32.ofInt n) ?_ rfl rfl hd ?_
  · rw [vp_cell_i]
    simp only [arrV, Array.size_ofFn]
    exact Int32.ofInt_eq_ofNat.symm
  · exact k p e s m args below meth c ad H ls locs F hH hE (okl_cons (v := (0, (n : Int))) hn32 (okl_tl hst)) hlv hl hS
end VH
