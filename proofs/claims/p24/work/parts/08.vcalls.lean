theorem cv_ex {α α1 : Sh} {ad ad1 : Ad} {k : Nat} {x : Int} (h : okx α k x) (hE : EX α ad α1 ad1) : cv ad1 k x = cv ad k x := by
  match k with
  | 0 => rfl
  | 1 => rfl
  | 2 => rfl
  | 3 =>
    show (if x < 0 then Value.null else Value.ref (ad1 x)) = (if x < 0 then Value.null else Value.ref (ad x))
    split
    · rfl
    · rcases h with h | h
      · contradiction
      · rw [(hE x h).2]
  | k + 4 => rfl
theorem okx_ex {α α1 : Sh} {ad ad1 : Ad} {k : Nat} {x : Int} (h : okx α k x) (hE : EX α ad α1 ad1) : okx α1 k x := by
  match k with
  | 0 => exact h
  | 1 => exact h
  | 2 => exact h
  | 3 =>
    rcases h with h | h
    · exact Or.inl h
    · exact Or.inr (by rw [(hE x h).1]; exact h)
  | k + 4 => trivial
theorem okl_ex {α α1 : Sh} {ad ad1 : Ad} {l : List AV} (h : okl α l) (hE : EX α ad α1 ad1) : okl α1 l := fun v hv => okx_ex (h v hv) hE
theorem map_ex {α α1 : Sh} {ad ad1 : Ad} {l : List AV} (h : okl α l) (hE : EX α ad α1 ad1) : l.map (cav ad1) = l.map (cav ad) := List.map_congr_left fun v hv => cv_ex (h v hv) hE
theorem asc_ex {α α1 : Sh} {ad ad1 : Ad} (hE : EX α ad α1 ad1) : ∀ (l : List AV) (n : Nat), okl α l → asc ad1 n l = asc ad n l := by
  intro l
  induction l with
  | nil => intro n _; rfl
  | cons v r ih =>
    intro n h
    unfold asc
    rw [ih (n + 1) (okl_tl h), show cav ad1 v = cav ad v from cv_ex (okl_hd h) hE]
theorem ec_ex {Γ : GC} {α α1 : Sh} {ad ad1 : Ad} {sh : Nat × Nat} {f : Int → Int} (hf : ∀ i : Nat, okx α (ek sh.1 i) (f i)) (hE : EX α ad α1 ad1) : ec Γ ad1 sh f = ec Γ ad sh f := by
  unfold ec
  split
  · rename_i h
    congr 2
    apply List.map_congr_left
    intro k hk
    have h1 := hf k
    unfold ek at h1
    rw [if_pos h] at h1
    exact cv_ex h1 hE
  · rename_i h
    split
    · rfl
    · rename_i h2
      split
      · rfl
      · rename_i h3
        congr 7
        funext i
        have h1 := hf i
        rw [ek_q (by omega)] at h1
        split
        · rfl
        · rcases h1 with h1 | h1
          · contradiction
          · rw [(hE _ h1).2]
theorem EX.trans {α0 α α1 : Sh} {ad0 ad ad1 : Ad} (h : EX α0 ad0 α ad) (h1 : EX α ad α1 ad1) : EX α0 ad0 α1 ad1 := by
  intro t ht
  obtain ⟨e1, e2⟩ := h t ht
  obtain ⟨e3, e4⟩ := h1 t (by rw [e1]; exact ht)
  exact ⟨e3.trans e1, e4.trans e2⟩
def adn (ad : Ad) (t : Int) (q : Nat) : Ad := fun u => if u = t then q else ad u
theorem EX_new {α : Sh} {ad : Ad} {t : Int} {sh : Nat × Nat} {q : Nat} (ht : (α t).1 = 0) : EX α ad (sa α t sh) (adn ad t q) := by
  intro u hu
  have hne : u ≠ t := fun h => hu (by rw [h]; exact ht)
  exact ⟨sa_t _ _ _ hne, if_neg hne⟩
theorem HR_new {Γ : GC} {α : Sh} {μ : Mem} {ad : Ad} {H1 : Heap} {L : List Int} {t : Int} {q : Nat} {sh : Nat × Nat} {f : Int → Int} {E : va_E} (hn : L.Nodup) (hL : ∀ t, t ∈ L ↔ (α t).1 ≠ 0) (hW : WFm α μ) (ht : (α t).1 = 0) (hs0 : sh.1 ≠ 0) (hf : ∀ i : Nat, okx (sa α t sh) (ek sh.1 i) (f i)) (hE : E = ec Γ (adn ad t q) sh f)
    (hP : va_P (g_D Γ) CL (hws Γ ad α μ L ++ [(q, E)]) H1) (hD : va_D (fun q => g_b Γ ≤ q) (hws Γ ad α μ L ++ [(q, E)])) : HR Γ (sa α t sh) (mn μ t f) (adn ad t q) H1 := by
  have hX : EX α ad (sa α t sh) (adn ad t q) := EX_new ht
  have hnt : t ∉ L := fun h => (hL t).mp h ht
  have e : hws Γ (adn ad t q) (sa α t sh) (mn μ t f) (L ++ [t]) = hws Γ ad α μ L ++ [(q, E)] := by
    unfold hws
    rw [List.map_append]
    congr 1
    · apply List.map_congr_left
      intro u hu
      have hu0 := (hL u).mp hu
      have hne : u ≠ t := fun h => hu0 (by rw [h]; exact ht)
      rw [(hX u hu0).1, (hX u hu0).2, mn_t _ _ _ hne, ec_ex (fun i => hW u i hu0) hX]
    · rw [List.map_singleton, sa_s, mn_s, hE]
      congr 2
      exact if_pos rfl
  rw [← e] at hP hD
  refine ⟨⟨L ++ [t], List.nodup_append.mpr ⟨hn, (by simp : [t].Nodup), fun a ha b hb hab => hnt (by rw [List.mem_singleton] at hb; rw [← hb, ← hab]; exact ha)⟩, fun u => ?_, hP, hD⟩, fun u i hu => ?_⟩
  · by_cases hu : u = t
    · subst hu
      rw [sa_s]
      exact ⟨fun _ => hs0, fun _ => List.mem_append_right _ (List.mem_singleton.mpr rfl)⟩
    · rw [sa_t _ _ _ hu, List.mem_append, List.mem_singleton]
      exact ⟨fun h => (hL u).mp (h.resolve_right hu), fun h => Or.inl ((hL u).mpr h)⟩
  · by_cases h : u = t
    · subst h
      rw [sa_s, mn_s]
      exact hf i
    · rw [sa_t _ _ _ h, mn_t _ _ _ h]
      rw [sa_t _ _ _ h] at hu
      exact okx_ex (hW u i hu) hX
def dk (k : Nat) : Int := if k = 3 then -1 else 0
theorem okx_dk {α : Sh} (k : Nat) : okx α k (dk k) := by
  match k with
  | 0 => exact ⟨by decide, by decide⟩
  | 1 => exact ⟨by decide, by decide⟩
  | 2 => exact ⟨by decide, by decide⟩
  | 3 => exact Or.inl (by decide)
  | k + 4 => trivial
theorem dv_ok {ad : Ad} {k : Nat} {ty : FieldType} (hk : kty k ty = true) (h3 : k ≤ 3) : defaultValue ty = cv ad k (dk k) := by
  match k, h3 with
  | 0, _ => rw [show ty = .int by simpa [kty] using hk]; rfl
  | 1, _ => rw [show ty = .boolean by simpa [kty] using hk]; rfl
  | 2, _ => rw [show ty = .long by simpa [kty] using hk]; rfl
  | 3, _ =>
    have h4 : isRefT ty = true := hk
    cases ty <;> simp only [isRefT] at h4 <;> first | (cases h4; done) | rfl
/-- a new object's fields -/
def dkf (ci : Nat) : Int → Int := fun i => dk (cK ci i.toNat)
section VC
variable {Γ : GC} {α0 : Sh} {ad0 : Ad} {Z : ZT} {R : Room} {own : String} {cc : ByteArray} {nL : Nat} {ret : Option FieldType} {nm : String} {pc q : Nat} {st lv : List AV} {α : Sh} {μ : Mem} {cs sl : Nat}
theorem lv_ex {α1 : Sh} {ad ad1 : Ad} {ls : Array Slot} (hlv : okl α lv) (hE : EX α ad α1 ad1) (hl : lv_has ls nL (asc ad 0 lv)) : lv_has ls nL (asc ad1 0 lv) := by rw [asc_ex hE _ _ hlv]; exact hl
theorem V_new {ci idx : Nat} (t : Int) (hd : decode cc pc = .ok (.new idx, 3)) (hp : pc + 3 = q) (ck : CLk own idx ci) (ht : (α t).1 = 0) (h0 : 0 ≤ t) (hcs : cs + 1 ≤ R.cells) (hsl : sl + cN ci ≤ R.slots) (kk : ∀ α1 μ1, α1 = sa α t (ci + 1, 0) → μ1 = mn μ t (dkf ci) → V Γ α0 ad0 Z R own cc nL ret nm q ((3, t) :: st) lv α1 μ1 (cs + 1) (sl + cN ci)) : V Γ α0 ad0 Z R own cc nL ret nm pc st lv α μ cs sl := by
  intro p e s m args below meth c ad H ls locs F hH hE hst hlv hl hS
  subst hp
  obtain ⟨hcl, hin, hini, h8⟩ := ck
  obtain ⟨⟨L, hn, hL, hP, hD⟩, hW⟩ := id hH
  refine va_new (fs := cfs ad ci (dkf ci)) F.hx F.hb F.ts (cinG h8) (cY ci) (cty ci h8) F.ow (F.w hcl rfl) (F.w hin rfl) (F.w hini rfl) F.kf.1 hP hD hS (fun z hz => Nat.le_trans F.bs hz) (CL_at ci h8) ?_ hcs hsl hd ?_
  · intro j hj
    unfold vp_V
    rw [List.getD_eq_getElem?_getD, cfs_at hj]
    show _ = cv ad (cK ci j) (dk (cK ci j))
    exact dv_ok (ckt ci h8 j hj) (ck3 ci h8 j hj)
  · intro a H1 hP1 hD1 hS1
    have hX : EX α ad (sa α t (ci + 1, 0)) (adn ad t a) := EX_new ht
    have hf : ∀ i : Nat, okx (sa α t (ci + 1, 0)) (ek ((ci + 1, 0) : Nat × Nat).1 i) (dkf ci i) := fun i => by
      show okx _ (ek (ci + 1) i) (dk (cK ci i))
      rw [ek_c h8]
      exact okx_dk _
    have hE1 : (.inr (ci, cfs ad ci (dkf ci)) : va_E) = ec Γ (adn ad t a) (ci + 1, 0) (dkf ci) := by
      rw [ec_c h8]
      congr 2
      apply List.map_congr_left
      intro k hk
      exact (cv_ex (α := α) (okx_dk _) hX).symm
    have hh := HR_new hn hL hW ht (by exact Nat.succ_ne_zero ci) hf hE1 hP1 hD1
    have e1 : cav (adn ad t a) (3, t) = .ref a := by
      show (if t < 0 then Value.null else Value.ref (adn ad t a t)) = _
      rw [if_neg (by omega)]
      congr 1
      exact if_pos rfl
    have h1 := kk _ _ rfl rfl p e s m args below meth c (adn ad t a) H1 ls locs F hh (hE.trans hX) (okl_cons (show okx _ 3 t from Or.inr (by rw [sa_s]; exact Nat.succ_ne_zero ci)) (okl_ex hst hX)) (okl_ex hlv hX) (lv_ex hlv hX hl) hS1
    rw [List.map_cons, e1, map_ex hst hX] at h1
    exact h1
theorem V_newI {n : Nat} {x : Int} (t : Int) (hd : decode cc pc = .ok (.newarray .int, 2)) (hp : pc + 2 = q) (hx : x = (n : Nat)) (hn1 : n ≤ 100000) (hw : Cond.arrayClass .int ∈ lw_tbl) (ht : (α t).1 = 0) (h0 : 0 ≤ t) (hcs : cs + 1 ≤ R.cells) (hsl : sl + n ≤ R.slots) (kk : ∀ α1 μ1, α1 = sa α t (20, n) → μ1 = mn μ t (fun _ => 0) → V Γ α0 ad0 Z R own cc nL ret nm q ((3, t) :: st) lv α1 μ1 (cs + 1) (sl + n)) : V Γ α0 ad0 Z R own cc nL ret nm pc ((0, x) :: st) lv α μ cs sl := by
  intro p e s m args below meth c ad H ls locs F hH hE hst hlv hl hS
  subst hp
  subst hx
  obtain ⟨⟨L, hn, hL, hP, hD⟩, hW⟩ := id hH
  have hi : inI (n : Int) := by omega
  refine va_newa (a0 := (n, .inl fun _ : Nat => Int32.ofInt 0)) F.hx F.hb (atype := .int) (F.w hw rfl) rfl F.kf.1 hP hD hS (fun z hz => Nat.le_trans F.bs hz) (fun _ => rfl) (fun h => by have := (oi_lt0 hi).mp h; omega) (by rw [oi_nat hi]; rfl) (Nat.le_trans (Nat.mul_le_mul_right _ hn1) (Nat.le_of_ble_eq_true rfl)) hcs hsl hd ?_
  intro a cA H1 hK1 hP1 hD1 hS1
  have hcA : cA = g_A Γ 20 := Option.some.inj ((show s.vm.findClass ("[" ++ FieldType.toString .int) = some cA from (hK1.2 7 _ rfl).2).symm.trans (show s.vm.findClass ("[" ++ FieldType.toString .int) = some (g_A Γ 20) from (F.kf.1.2 0 _ rfl).2))
  rw [hcA] at hP1 hD1
  have hX : EX α ad (sa α t (20, n)) (adn ad t a) := EX_new ht
  have hh := HR_new (sh := (20, n)) (f := fun _ => 0) hn hL hW ht (Nat.succ_ne_zero _) (fun i => (show okx _ 0 0 from ⟨by decide, by decide⟩)) rfl hP1 hD1
  have e1 : cav (adn ad t a) (3, t) = .ref a := by
    show (if t < 0 then Value.null else Value.ref (adn ad t a t)) = _
    rw [if_neg (by omega)]
    congr 1
    exact if_pos rfl
  have h1 := kk _ _ rfl rfl p e s m args below meth c (adn ad t a) H1 ls locs F hh (hE.trans hX) (okl_cons (show okx _ 3 t from Or.inr (by rw [sa_s]; exact Nat.succ_ne_zero _)) (okl_ex (okl_tl hst) hX)) (okl_ex hlv hX) (lv_ex hlv hX hl) hS1
  rw [List.map_cons, e1, map_ex (okl_tl hst) hX] at h1
  exact h1
theorem V_newZ {n : Nat} {x : Int} (t : Int) (hd : decode cc pc = .ok (.newarray .boolean, 2)) (hp : pc + 2 = q) (hx : x = (n : Nat)) (hn1 : n ≤ 100000) (hw : Cond.arrayClass .boolean ∈ lw_tbl) (ht : (α t).1 = 0) (h0 : 0 ≤ t) (hcs : cs + 1 ≤ R.cells) (hsl : sl + n ≤ R.slots) (kk : ∀ α1 μ1, α1 = sa α t (21, n) → μ1 = mn μ t (fun _ => 0) → V Γ α0 ad0 Z R own cc nL ret nm q ((3, t) :: st) lv α1 μ1 (cs + 1) (sl + n)) : V Γ α0 ad0 Z R own cc nL ret nm pc ((0, x) :: st) lv α μ cs sl := by
  intro p e s m args below meth c ad H ls locs F hH hE hst hlv hl hS
  subst hp
  subst hx
  obtain ⟨⟨L, hn, hL, hP, hD⟩, hW⟩ := id hH
  have hi : inI (n : Int) := by omega
  refine va_newa (a0 := (n, .inl fun _ : Nat => Int32.ofInt 0)) F.hx F.hb (atype := .boolean) (F.w hw rfl) rfl F.kf.1 hP hD hS (fun z hz => Nat.le_trans F.bs hz) (fun _ => rfl) (fun h => by have := (oi_lt0 hi).mp h; omega) (by rw [oi_nat hi]; rfl) (Nat.le_trans (Nat.mul_le_mul_right _ hn1) (Nat.le_of_ble_eq_true rfl)) hcs hsl hd ?_
  intro a cA H1 hK1 hP1 hD1 hS1
  have hcA : cA = g_A Γ 21 := Option.some.inj ((show s.vm.findClass ("[" ++ FieldType.toString .boolean) = some cA from (hK1.2 7 _ rfl).2).symm.trans (show s.vm.findClass ("[" ++ FieldType.toString .boolean) = some (g_A Γ 21) from (F.kf.1.2 1 _ rfl).2))
  rw [hcA] at hP1 hD1
  have hX : EX α ad (sa α t (21, n)) (adn ad t a) := EX_new ht
  have hh := HR_new (sh := (21, n)) (f := fun _ => 0) hn hL hW ht (Nat.succ_ne_zero _) (fun i => (show okx _ 1 0 from ⟨by decide, by decide⟩)) rfl hP1 hD1
  have e1 : cav (adn ad t a) (3, t) = .ref a := by
    show (if t < 0 then Value.null else Value.ref (adn ad t a t)) = _
    rw [if_neg (by omega)]
    congr 1
    exact if_pos rfl
  have h1 := kk _ _ rfl rfl p e s m args below meth c (adn ad t a) H1 ls locs F hh (hE.trans hX) (okl_cons (show okx _ 3 t from Or.inr (by rw [sa_s]; exact Nat.succ_ne_zero _)) (okl_ex (okl_tl hst) hX)) (okl_ex hlv hX) (lv_ex hlv hX hl) hS1
  rw [List.map_cons, e1, map_ex (okl_tl hst) hX] at h1
  exact h1
theorem V_newJ {n : Nat} {x : Int} (t : Int) (hd : decode cc pc = .ok (.newarray .long, 2)) (hp : pc + 2 = q) (hx : x = (n : Nat)) (hn1 : n ≤ 100000) (hw : Cond.arrayClass .long ∈ lw_tbl) (ht : (α t).1 = 0) (h0 : 0 ≤ t) (hcs : cs + 1 ≤ R.cells) (hsl : sl + n ≤ R.slots) (kk : ∀ α1 μ1, α1 = sa α t (22, n) → μ1 = mn μ t (fun _ => 0) → V Γ α0 ad0 Z R own cc nL ret nm q ((3, t) :: st) lv α1 μ1 (cs + 1) (sl + n)) : V Γ α0 ad0 Z R own cc nL ret nm pc ((0, x) :: st) lv α μ cs sl := by
  intro p e s m args below meth c ad H ls locs F hH hE hst hlv hl hS
  subst hp
  subst hx
  obtain ⟨⟨L, hn, hL, hP, hD⟩, hW⟩ := id hH
  have hi : inI (n : Int) := by omega
  refine va_newa (a0 := (n, .inr (.inl fun _ : Nat => Int64.ofInt 0))) F.hx F.hb (atype := .long) (F.w hw rfl) rfl F.kf.1 hP hD hS (fun z hz => Nat.le_trans F.bs hz) (fun _ => rfl) (fun h => by have := (oi_lt0 hi).mp h; omega) (by rw [oi_nat hi]; rfl) (Nat.le_trans (Nat.mul_le_mul_right _ hn1) (Nat.le_of_ble_eq_true rfl)) hcs hsl hd ?_
  intro a cA H1 hK1 hP1 hD1 hS1
  have hcA : cA = g_A Γ 22 := Option.some.inj ((show s.vm.findClass ("[" ++ FieldType.toString .long) = some cA from (hK1.2 7 _ rfl).2).symm.trans (show s.vm.findClass ("[" ++ FieldType.toString .long) = some (g_A Γ 22) from (F.kf.1.2 2 _ rfl).2))
  rw [hcA] at hP1 hD1
  have hX : EX α ad (sa α t (22, n)) (adn ad t a) := EX_new ht
  have hh := HR_new (sh := (22, n)) (f := fun _ => 0) hn hL hW ht (Nat.succ_ne_zero _) (fun i => (show okx _ 2 0 from ⟨by decide, by decide⟩)) rfl hP1 hD1
  have e1 : cav (adn ad t a) (3, t) = .ref a := by
    show (if t < 0 then Value.null else Value.ref (adn ad t a t)) = _
    rw [if_neg (by omega)]
    congr 1
    exact if_pos rfl
  have h1 := kk _ _ rfl rfl p e s m args below meth c (adn ad t a) H1 ls locs F hh (hE.trans hX) (okl_cons (show okx _ 3 t from Or.inr (by rw [sa_s]; exact Nat.succ_ne_zero _)) (okl_ex (okl_tl hst) hX)) (okl_ex hlv hX) (lv_ex hlv hX hl) hS1
  rw [List.map_cons, e1, map_ex (okl_tl hst) hX] at h1
  exact h1
theorem KF.ao {Γ : GC} {U : State} {ta ci : Nat} (h : KF Γ U) (hta : tyA ta = .object (cR ci)) (h1 : 23 ≤ ta ∧ ta ≤ 26) : va_AO (cR ci) U := by
  rcases (show ta = 23 ∨ ta = 24 ∨ ta = 25 ∨ ta = 26 by omega) with rfl | rfl | rfl | rfl
  · rw [show cR ci = RX4 from (FieldType.object.inj hta).symm]; exact h.2.1.1
  · rw [show cR ci = RX1 from (FieldType.object.inj hta).symm]; exact h.2.1.2.1
  · rw [show cR ci = RX0 from (FieldType.object.inj hta).symm]; exact h.2.1.2.2.1
  · rw [show cR ci = RX5 from (FieldType.object.inj hta).symm]; exact h.2.1.2.2.2
theorem V_newA {n idx ci ta : Nat} {x : Int} (t : Int) (hd : decode cc pc = .ok (.anewarray idx, 3)) (hp : pc + 3 = q) (hx : x = (n : Nat)) (hn1 : n ≤ 100000) (ca : CLa own idx ci) (hta : tyA ta = .object (cR ci)) (hr : 23 ≤ ta ∧ ta ≤ 26) (ht : (α t).1 = 0) (h0 : 0 ≤ t) (hcs : cs + 1 ≤ R.cells) (hsl : sl + n ≤ R.slots) (kk : ∀ α1 μ1, α1 = sa α t (ta, n) → μ1 = mn μ t (fun _ => -1) → V Γ α0 ad0 Z R own cc nL ret nm q ((3, t) :: st) lv α1 μ1 (cs + 1) (sl + n)) : V Γ α0 ad0 Z R own cc nL ret nm pc ((0, x) :: st) lv α μ cs sl := by
  intro p e s m args below meth c ad H ls locs F hH hE hst hlv hl hS
  subst hp
  subst hx
  obtain ⟨⟨L, hn, hL, hP, hD⟩, hW⟩ := id hH
  have hi : inI (n : Int) := by omega
  refine va_newq (N' := n) F.hx F.hb F.ow (F.w ca.1 rfl) (F.kf.ao hta hr) F.kf.1 hP hD hS (fun z hz => Nat.le_trans F.bs hz) (fun h => by have := (oi_lt0 hi).mp h; omega) (by rw [oi_nat hi]; rfl) (by omega) hcs hsl hd ?_
  intro a cA H1 hK1 hP1 hD1 hS1
  have h1a := (hK1.2 7 _ rfl).2
  have h1b := (F.kf.1.2 _ _ (g_ty_at hta hr)).2
  obtain ⟨_, _, _, _, _, h1c⟩ := h1a
  obtain ⟨_, _, _, _, _, h1d⟩ := h1b
  have hcA : cA = g_A Γ ta := Option.some.inj (h1c.symm.trans h1d)
  rw [hcA] at hP1 hD1
  have hX : EX α ad (sa α t (ta, n)) (adn ad t a) := EX_new ht
  have hh := HR_new (sh := (ta, n)) (f := fun _ => -1) (ad := ad) hn hL hW ht (show ta ≠ 0 by omega) (fun i => (by show okx _ (ek ta i) (-1); rw [ek_q hr.1]; exact Or.inl (by decide))) (by rw [ec_q hr.1]; rfl) hP1 hD1
  have e1 : cav (adn ad t a) (3, t) = .ref a := by
    show (if t < 0 then Value.null else Value.ref (adn ad t a t)) = _
    rw [if_neg (by omega)]
    congr 1
    exact if_pos rfl
  have h1 := kk _ _ rfl rfl p e s m args below meth c (adn ad t a) H1 ls locs F hh (hE.trans hX) (okl_cons (show okx _ 3 t from Or.inr (by rw [sa_s]; show ta ≠ 0; omega)) (okl_ex (okl_tl hst) hX)) (okl_ex hlv hX) (lv_ex hlv hX hl) hS1
  rw [List.map_cons, e1, map_ex (okl_tl hst) hX] at h1
  exact h1
def catL (st : List AV) : Nat := (st.map fun v => if v.1 = 2 then 2 else 1).sum
theorem catL_eq {ad : Ad} : ∀ st : List AV, ((st.map (cav ad)).map fun v => v.category).sum = catL st := by
  intro st
  induction st with
  | nil => rfl
  | cons v r ih =>
    unfold catL at ih ⊢
    simp only [List.map_cons, List.sum_cons, ih]
    congr 1
    split
    · rename_i h
      obtain ⟨k, x⟩ := v
      cases h
      rfl
    · rename_i h
      exact cav_cat1 h
theorem V_objInit {idx : Nat} {t : Int} (hd : decode cc pc = .ok (.invokespecial idx, 3)) (hp : pc + 3 = q) (ml : MLk own idx objectInit) (h0 : 0 ≤ t) (hf : 1 ≤ R.frames) (hlo : catL st + 12 ≤ R.locals) (k : V Γ α0 ad0 Z R own cc nL ret nm q st lv α μ cs sl) : V Γ α0 ad0 Z R own cc nL ret nm pc ((3, t) :: st) lv α μ cs sl := by
  intro p e s m args below meth c ad H ls locs F hH hE hst hlv hl hS
  subst hp
  have e1 : cav ad (3, t) = .ref (ad t) := if_neg (by omega)
  rw [List.map_cons, e1]
  refine W.objInit F.hx F.hb F.ow (F.w ml rfl) (F.w oi_inst rfl) (F.w oi_code rfl) rfl (hl.1.trans F.ml.symm) rfl hd hf ?_ (k p e s m args below meth c ad H ls locs F hH hE (okl_tl hst) hlv hl hS)
  show 2 * (F0 m pc ls _).monitorRoom + _ + 12 ≤ _
  rw [catL_eq]
  have : (F0 m pc ls (Value.ref (ad t) :: st.map (cav ad))).monitorRoom = 0 := rfl
  omega
end VC
