theorem oi_add (x y : Int) : Int32.ofInt x + Int32.ofInt y = Int32.ofInt (x + y) := (Int32.ofInt_add x y).symm
theorem oi_mul (x y : Int) : Int32.ofInt x * Int32.ofInt y = Int32.ofInt (x * y) := (Int32.ofInt_mul x y).symm
theorem oi_sub (x y : Int) : Int32.ofInt x - Int32.ofInt y = Int32.ofInt (x - y) := (Int32.ofInt_sub x y).symm
theorem oi_int {x : Int} (h : inI x) : (Int32.ofInt x).toInt = x := Int32.toInt_ofInt_of_le (by simpa using h.1) (by simpa using h.2)
theorem oi_nat {x : Int} (h : inI x) : (Int32.ofInt x).toNatClampNeg = x.toNat := Int32.toNatClampNeg_ofInt_of_le (by simpa using h.1) (by simpa using h.2)
theorem oi_eq {x y : Int} (hx : inI x) (hy : inI y) : Int32.ofInt x = Int32.ofInt y ↔ x = y := ⟨fun h => by rw [← oi_int hx, ← oi_int hy, h], fun h => by rw [h]⟩
theorem oi_lt {x y : Int} (hx : inI x) (hy : inI y) : Int32.ofInt x < Int32.ofInt y ↔ x < y := by rw [Int32.lt_iff_toInt_lt, oi_int hx, oi_int hy]
theorem oi_le {x y : Int} (hx : inI x) (hy : inI y) : Int32.ofInt x ≤ Int32.ofInt y ↔ x ≤ y := by rw [Int32.le_iff_toInt_le, oi_int hx, oi_int hy]
theorem oi_0 : Int32.ofInt 0 = 0 := rfl
theorem in0 : inI 0 := ⟨by decide, by decide⟩
theorem oi_eq0 {x : Int} (hx : inI x) : Int32.ofInt x = 0 ↔ x = 0 := oi_eq hx in0
theorem oi_lt0 {x : Int} (hx : inI x) : Int32.ofInt x < 0 ↔ x < 0 := oi_lt hx in0
theorem oi_le0 {x : Int} (hx : inI x) : Int32.ofInt x ≤ 0 ↔ x ≤ 0 := oi_le hx in0
theorem oi_0lt {x : Int} (hx : inI x) : 0 < Int32.ofInt x ↔ 0 < x := oi_lt in0 hx
theorem oi_0le {x : Int} (hx : inI x) : 0 ≤ Int32.ofInt x ↔ 0 ≤ x := oi_le in0 hx
theorem oi_in {x : Int} {n : Nat} (h : inI x) (h0 : 0 ≤ x) (hn : x < n) : vp_in (Int32.ofInt x) n := by
  rw [vp_in_iff, oi_int h]; exact ⟨h0, hn⟩
theorem oi_i8 {n : Int} (h : -128 ≤ n ∧ n < 128) : (Int8.ofInt n).toInt32 = Int32.ofInt n := Int8.toInt32_ofInt (by simpa using h.1) (by have : Int8.maxValue.toInt = 127 := rfl; omega)
theorem oi_i16 {n : Int} (h : -32768 ≤ n ∧ n < 32768) : (Int16.ofInt n).toInt32 = Int32.ofInt n := Int16.toInt32_ofInt (by simpa using h.1) (by have : Int16.maxValue.toInt = 32767 := rfl; omega)
theorem oi_div {x y : Int} (hx : inI x) (hy : inI y) (h0 : 0 ≤ x) (h1 : 0 < y) : Int32.ofInt x / Int32.ofInt y = Int32.ofInt (x / y) := by
  have h := lg_idiv_nonneg (x := Int32.ofInt x) (y := Int32.ofInt y) (by rw [oi_int hx]; exact h0) (by rw [oi_int hy]; exact h1)
  rw [oi_int hx, oi_int hy] at h
  rw [← Int32.ofInt_toInt (Int32.ofInt x / Int32.ofInt y), h]
section VR
variable {Γ : GC} {α0 : Sh} {ad0 : Ad} {Z : ZT} {R : Room} {own : String} {cc : ByteArray} {nL : Nat} {ret : Option FieldType} {nm : String} {pc q : Nat} {st lv : List AV} {α : Sh} {μ : Mem} {cs sl : Nat}
theorem V_iconst {n : Int} (hd : decode cc pc = .ok (.iconst n, 1)) (hp : pc + 1 = q) (hn : inI n) (k : V Γ α0 ad0 Z R own cc nL ret nm q ((0, n) :: st) lv α μ cs sl) : V Γ α0 ad0 Z R own cc nL ret nm pc st lv α μ cs sl := by
  intro p e s m args below meth c ad H ls locs F hH hE hst hlv hl hS
  subst hp
  exact lv_iconst F.1.1 F.1.2 hd rfl (k p e s m args below meth c ad H ls locs F hH hE (okl_cons hn hst) (hlv) (hl) hS)
theorem V_bipush {n : Int} (hd : decode cc pc = .ok (.bipush n, 2)) (hp : pc + 2 = q) (hn : -128 ≤ n ∧ n < 128) (k : V Γ α0 ad0 Z R own cc nL ret nm q ((0, n) :: st) lv α μ cs sl) : V Γ α0 ad0 Z R own cc nL ret nm pc st lv α μ cs sl := by
  intro p e s m args below meth c ad H ls locs F hH hE hst hlv hl hS
  subst hp
  exact lv_bipush F.1.1 F.1.2 hd (oi_i8 hn) (k p e s m args below meth c ad H ls locs F hH hE (okl_cons (show inI n by omega) hst) (hlv) (hl) hS)
theorem V_sipush {n : Int} (hd : decode cc pc = .ok (.sipush n, 3)) (hp : pc + 3 = q) (hn : -32768 ≤ n ∧ n < 32768) (k : V Γ α0 ad0 Z R own cc nL ret nm q ((0, n) :: st) lv α μ cs sl) : V Γ α0 ad0 Z R own cc nL ret nm pc st lv α μ cs sl := by
  intro p e s m args below meth c ad H ls locs F hH hE hst hlv hl hS
  subst hp
  exact lv_sipush F.1.1 F.1.2 hd (oi_i16 hn) (k p e s m args below meth c ad H ls locs F hH hE (okl_cons (show inI n by omega) hst) (hlv) (hl) hS)
theorem V_lconst {n : Fin 2} {x : Int} (hd : decode cc pc = .ok (.lconst n, 1)) (hp : pc + 1 = q) (hx : x = (n : Nat)) (k : V Γ α0 ad0 Z R own cc nL ret nm q ((2, x) :: st) lv α μ cs sl) : V Γ α0 ad0 Z R own cc nL ret nm pc st lv α μ cs sl := by
  intro p e s m args below meth c ad H ls locs F hH hE hst hlv hl hS
  subst hp
  subst hx
  exact lv_lconst F.1.1 F.1.2 hd (by cases n using Fin.cases <;> rfl) (k p e s m args below meth c ad H ls locs F hH hE (okl_cons (show inL _ by have := n.isLt; constructor <;> omega) hst) (hlv) (hl) hS)
theorem V_ldc2m1 {idx : Nat} (hd : decode cc pc = .ok (.ldc2_w idx, 3)) (hp : pc + 3 = q) (hw : Cond.constantLong own idx (-1) ∈ lw_tbl) (k : V Γ α0 ad0 Z R own cc nL ret nm q ((2, -1) :: st) lv α μ cs sl) : V Γ α0 ad0 Z R own cc nL ret nm pc st lv α μ cs sl := by
  intro p e s m args below meth c ad H ls locs F hH hE hst hlv hl hS
  subst hp
  exact lv_ldc2 F.1.1 F.1.2 F.2.2.1 (F.2.2.2.1 _ (lw_gd hw rfl)) hd (k p e s m args below meth c ad H ls locs F hH hE (okl_cons (show inL (-1) by decide) hst) (hlv) (hl) hS)
theorem V_null (hd : decode cc pc = .ok (.aconst_null, 1)) (hp : pc + 1 = q) (k : V Γ α0 ad0 Z R own cc nL ret nm q ((3, -1) :: st) lv α μ cs sl) : V Γ α0 ad0 Z R own cc nL ret nm pc st lv α μ cs sl := by
  intro p e s m args below meth c ad H ls locs F hH hE hst hlv hl hS
  subst hp
  exact lv_null F.1.1 F.1.2 hd (k p e s m args below meth c ad H ls locs F hH hE (okl_cons (show okx α 3 (-1) from Or.inl (by decide)) hst) (hlv) (hl) hS)
theorem V_iload_n {k0 : Fin 4} {i : Nat} {x : Int} (hd : decode cc pc = .ok (.iload_n k0, 1)) (hi : (k0 : Nat) = i) (hp : pc + 1 = q) (hx : lv[i]? = some (0, x)) (k : V Γ α0 ad0 Z R own cc nL ret nm q ((0, x) :: st) lv α μ cs sl) : V Γ α0 ad0 Z R own cc nL ret nm pc st lv α μ cs sl := by
  intro p e s m args below meth c ad H ls locs F hH hE hst hlv hl hS
  subst hp
  exact lv_iload_n F.1.1 F.1.2 hd hi (asc_at hl hx (show (0 : Nat) ≠ 9 by decide)) (k p e s m args below meth c ad H ls locs F hH hE (okl_cons (okl_at hlv hx) hst) (hlv) (hl) hS)
theorem V_iload {i : Nat} {x : Int} (hd : decode cc pc = .ok (.iload i, 2)) (hp : pc + 2 = q) (hx : lv[i]? = some (0, x)) (k : V Γ α0 ad0 Z R own cc nL ret nm q ((0, x) :: st) lv α μ cs sl) : V Γ α0 ad0 Z R own cc nL ret nm pc st lv α μ cs sl := by
  intro p e s m args below meth c ad H ls locs F hH hE hst hlv hl hS
  subst hp
  exact lv_iload F.1.1 F.1.2 hd (asc_at hl hx (show (0 : Nat) ≠ 9 by decide)) (k p e s m args below meth c ad H ls locs F hH hE (okl_cons (okl_at hlv hx) hst) (hlv) (hl) hS)
theorem V_lload_n {k0 : Fin 4} {i : Nat} {x : Int} (hd : decode cc pc = .ok (.lload_n k0, 1)) (hi : (k0 : Nat) = i) (hp : pc + 1 = q) (hx : lv[i]? = some (2, x)) (k : V Γ α0 ad0 Z R own cc nL ret nm q ((2, x) :: st) lv α μ cs sl) : V Γ α0 ad0 Z R own cc nL ret nm pc st lv α μ cs sl := by
  intro p e s m args below meth c ad H ls locs F hH hE hst hlv hl hS
  subst hp
  exact lv_lload_n F.1.1 F.1.2 hd hi (asc_at hl hx (show (2 : Nat) ≠ 9 by decide)) (k p e s m args below meth c ad H ls locs F hH hE (okl_cons (okl_at hlv hx) hst) (hlv) (hl) hS)
theorem V_lload {i : Nat} {x : Int} (hd : decode cc pc = .ok (.lload i, 2)) (hp : pc + 2 = q) (hx : lv[i]? = some (2, x)) (k : V Γ α0 ad0 Z R own cc nL ret nm q ((2, x) :: st) lv α μ cs sl) : V Γ α0 ad0 Z R own cc nL ret nm pc st lv α μ cs sl := by
  intro p e s m args below meth c ad H ls locs F hH hE hst hlv hl hS
  subst hp
  exact lv_lload F.1.1 F.1.2 hd (asc_at hl hx (show (2 : Nat) ≠ 9 by decide)) (k p e s m args below meth c ad H ls locs F hH hE (okl_cons (okl_at hlv hx) hst) (hlv) (hl) hS)
theorem V_aload_n {k0 : Fin 4} {i : Nat} {x : Int} (hd : decode cc pc = .ok (.aload_n k0, 1)) (hi : (k0 : Nat) = i) (hp : pc + 1 = q) (hx : lv[i]? = some (3, x)) (k : V Γ α0 ad0 Z R own cc nL ret nm q ((3, x) :: st) lv α μ cs sl) : V Γ α0 ad0 Z R own cc nL ret nm pc st lv α μ cs sl := by
  intro p e s m args below meth c ad H ls locs F hH hE hst hlv hl hS
  subst hp
  have h1 := asc_at hl hx (show (3 : Nat) ≠ 9 by decide)
  have h2 := k p e s m args below meth c ad H ls locs F hH hE (okl_cons (okl_at hlv hx) hst) (hlv) (hl) hS
  by_cases h0 : x < 0
  · have e : cav ad (3, x) = .null := if_pos h0
    rw [e] at h1
    rw [List.map_cons, e] at h2
    exact lv_aload_nN F.1.1 F.1.2 hd hi h1 h2
  · have e : cav ad (3, x) = .ref (ad x) := if_neg h0
    rw [e] at h1
    rw [List.map_cons, e] at h2
    exact lv_aload_n F.1.1 F.1.2 hd hi h1 h2
theorem V_aload {i : Nat} {x : Int} (hd : decode cc pc = .ok (.aload i, 2)) (hp : pc + 2 = q) (hx : lv[i]? = some (3, x)) (k : V Γ α0 ad0 Z R own cc nL ret nm q ((3, x) :: st) lv α μ cs sl) : V Γ α0 ad0 Z R own cc nL ret nm pc st lv α μ cs sl := by
  intro p e s m args below meth c ad H ls locs F hH hE hst hlv hl hS
  subst hp
  have h1 := asc_at hl hx (show (3 : Nat) ≠ 9 by decide)
  have h2 := k p e s m args below meth c ad H ls locs F hH hE (okl_cons (okl_at hlv hx) hst) (hlv) (hl) hS
  by_cases h0 : x < 0
  · have e : cav ad (3, x) = .null := if_pos h0
    rw [e] at h1
    rw [List.map_cons, e] at h2
    exact lv_aloadN F.1.1 F.1.2 hd h1 h2
  · have e : cav ad (3, x) = .ref (ad x) := if_neg h0
    rw [e] at h1
    rw [List.map_cons, e] at h2
    exact lv_aload F.1.1 F.1.2 hd h1 h2
theorem V_istore_n {k0 : Fin 4} {i : Nat} {x : Int} {lv1 : List AV} (hd : decode cc pc = .ok (.istore_n k0, 1)) (hi : (k0 : Nat) = i) (hp : pc + 1 = q) (hn : i < nL) (hs : okst lv i = true) (hlv1 : lv.set i (0, x) = lv1) (k : V Γ α0 ad0 Z R own cc nL ret nm q st lv1 α μ cs sl) : V Γ α0 ad0 Z R own cc nL ret nm pc ((0, x) :: st) lv α μ cs sl := by
  intro p e s m args below meth c ad H ls locs F hH hE hst hlv hl hS
  subst hp; subst hlv1
  exact lv_istore_n F.1.1 F.1.2 hd hi hl hn rfl (fun ls1 h1 => k p e s m args below meth c ad H ls1 locs F hH hE (okl_tl hst) (okl_set (okl_hd hst) hlv) (asc_set (v := (0, x)) hs h1) hS)
theorem V_istore {i : Nat} {x : Int} {lv1 : List AV} (hd : decode cc pc = .ok (.istore i, 2)) (hp : pc + 2 = q) (hn : i < nL) (hs : okst lv i = true) (hlv1 : lv.set i (0, x) = lv1) (k : V Γ α0 ad0 Z R own cc nL ret nm q st lv1 α μ cs sl) : V Γ α0 ad0 Z R own cc nL ret nm pc ((0, x) :: st) lv α μ cs sl := by
  intro p e s m args below meth c ad H ls locs F hH hE hst hlv hl hS
  subst hp; subst hlv1
  exact lv_istore F.1.1 F.1.2 hd hl hn rfl (fun ls1 h1 => k p e s m args below meth c ad H ls1 locs F hH hE (okl_tl hst) (okl_set (okl_hd hst) hlv) (asc_set (v := (0, x)) hs h1) hS)
theorem V_astore_n {k0 : Fin 4} {i : Nat} {x : Int} {lv1 : List AV} (hd : decode cc pc = .ok (.astore_n k0, 1)) (hi : (k0 : Nat) = i) (hp : pc + 1 = q) (hn : i < nL) (hs : okst lv i = true) (hlv1 : lv.set i (3, x) = lv1) (k : V Γ α0 ad0 Z R own cc nL ret nm q st lv1 α μ cs sl) : V Γ α0 ad0 Z R own cc nL ret nm pc ((3, x) :: st) lv α μ cs sl := by
  intro p e s m args below meth c ad H ls locs F hH hE hst hlv hl hS
  subst hp; subst hlv1
  have h2 := fun ls1 (h1 : lv_has ls1 nL (asc ad 0 (lv.set i (3, x)))) => k p e s m args below meth c ad H ls1 locs F hH hE (okl_tl hst) (okl_set (okl_hd hst) hlv) (h1) hS
  have h3 := fun ls1 => asc_set (ad := ad) (ls := ls1) (nL := nL) (v := (3, x)) hs
  show W _ _ _ _ _ _ _ _ _ _ _ _ _ _ _ (F0 m pc ls (cav ad (3, x) :: st.map (cav ad)))
  by_cases h0 : x < 0
  · have e : cav ad (3, x) = .null := if_pos h0
    rw [e] at h3 ⊢
    exact lv_astore_nN F.1.1 F.1.2 hd hi hl hn rfl (fun ls1 h1 => h2 ls1 (h3 ls1 h1))
  · have e : cav ad (3, x) = .ref (ad x) := if_neg h0
    rw [e] at h3 ⊢
    exact lv_astore_n F.1.1 F.1.2 hd hi hl hn rfl (fun ls1 h1 => h2 ls1 (h3 ls1 h1))
theorem V_astore {i : Nat} {x : Int} {lv1 : List AV} (hd : decode cc pc = .ok (.astore i, 2)) (hp : pc + 2 = q) (hn : i < nL) (hs : okst lv i = true) (hlv1 : lv.set i (3, x) = lv1) (k : V Γ α0 ad0 Z R own cc nL ret nm q st lv1 α μ cs sl) : V Γ α0 ad0 Z R own cc nL ret nm pc ((3, x) :: st) lv α μ cs sl := by
  intro p e s m args below meth c ad H ls locs F hH hE hst hlv hl hS
  subst hp; subst hlv1
  have h2 := fun ls1 (h1 : lv_has ls1 nL (asc ad 0 (lv.set i (3, x)))) => k p e s m args below meth c ad H ls1 locs F hH hE (okl_tl hst) (okl_set (okl_hd hst) hlv) (h1) hS
  have h3 := fun ls1 => asc_set (ad := ad) (ls := ls1) (nL := nL) (v := (3, x)) hs
  show W _ _ _ _ _ _ _ _ _ _ _ _ _ _ _ (F0 m pc ls (cav ad (3, x) :: st.map (cav ad)))
  by_cases h0 : x < 0
  · have e : cav ad (3, x) = .null := if_pos h0
    rw [e] at h3 ⊢
    exact lv_astoreN F.1.1 F.1.2 hd hl hn rfl (fun ls1 h1 => h2 ls1 (h3 ls1 h1))
  · have e : cav ad (3, x) = .ref (ad x) := if_neg h0
    rw [e] at h3 ⊢
    exact lv_astore F.1.1 F.1.2 hd hl hn rfl (fun ls1 h1 => h2 ls1 (h3 ls1 h1))
theorem V_lstore_n {k0 : Fin 4} {i : Nat} {x : Int} {lv1 : List AV} (hd : decode cc pc = .ok (.lstore_n k0, 1)) (hi : (k0 : Nat) = i) (hp : pc + 1 = q) (hn : i + 1 < nL) (hs : okst lv i = true) (hlv1 : (lv.set i (2, x)).set (i + 1) (9, 0) = lv1) (k : V Γ α0 ad0 Z R own cc nL ret nm q st lv1 α μ cs sl) : V Γ α0 ad0 Z R own cc nL ret nm pc ((2, x) :: st) lv α μ cs sl := by
  intro p e s m args below meth c ad H ls locs F hH hE hst hlv hl hS
  subst hp; subst hlv1
  exact lv_lstore_n F.1.1 F.1.2 hd hi hl hn rfl (fun ls1 h1 => k p e s m args below meth c ad H ls1 locs F hH hE (okl_tl hst) (okl_set okv_9 (okl_set (okl_hd hst) hlv)) (asc_set2 (v := (2, x)) hs h1) hS)
theorem V_lstore {i : Nat} {x : Int} {lv1 : List AV} (hd : decode cc pc = .ok (.lstore i, 2)) (hp : pc + 2 = q) (hn : i + 1 < nL) (hs : okst lv i = true) (hlv1 : (lv.set i (2, x)).set (i + 1) (9, 0) = lv1) (k : V Γ α0 ad0 Z R own cc nL ret nm q st lv1 α μ cs sl) : V Γ α0 ad0 Z R own cc nL ret nm pc ((2, x) :: st) lv α μ cs sl := by
  intro p e s m args below meth c ad H ls locs F hH hE hst hlv hl hS
  subst hp; subst hlv1
  exact lv_lstore F.1.1 F.1.2 hd hl hn rfl (fun ls1 h1 => k p e s m args below meth c ad H ls1 locs F hH hE (okl_tl hst) (okl_set okv_9 (okl_set (okl_hd hst) hlv)) (asc_set2 (v := (2, x)) hs h1) hS)
theorem V_iinc {i : Nat} {n x : Int} (hd : decode cc pc = .ok (.iinc i n, 3)) (hp : pc + 3 = q) (hx : lv[i]? = some (0, x)) (hn : i < nL) (hs : okst lv i = true) (hr : inI (x + n)) (k : ∀ (z : Int) (lv1 : List AV), z = x + n → lv1 = lv.set i (0, z) → V Γ α0 ad0 Z R own cc nL ret nm q st lv1 α μ cs sl) : V Γ α0 ad0 Z R own cc nL ret nm pc st lv α μ cs sl := by
  intro p e s m args below meth c ad H ls locs F hH hE hst hlv hl hS
  subst hp
  have h1 := asc_mem (ad := ad) lv 0 i _ hx (show (0 : Nat) ≠ 9 by decide)
  rw [Nat.zero_add] at h1
  obtain ⟨k1, hk1⟩ := List.mem_iff_getElem?.mp h1
  exact lv_iinc F.1.1 F.1.2 hd hl hk1 (oi_add x n) hn rfl (fun ls1 h2 => k _ _ rfl rfl p e s m args below meth c ad H ls1 locs F hH hE hst (okl_set (v := (0, x + n)) hr hlv) (asc_set (v := (0, x + n)) hs h2) hS)
theorem V_iadd {x y : Int} (hd : decode cc pc = .ok (.iadd, 1)) (hp : pc + 1 = q) (hr : inI (x + y)) (k : ∀ z : Int, z = x + y → V Γ α0 ad0 Z R own cc nL ret nm q ((0, z) :: st) lv α μ cs sl) : V Γ α0 ad0 Z R own cc nL ret nm pc ((0, y) :: (0, x) :: st) lv α μ cs sl := by
  intro p e s m args below meth c ad H ls locs F hH hE hst hlv hl hS
  subst hp
  refine lv_iadd F.1.1 F.1.2 hd ?_
  rw [oi_add]
  exact k _ rfl p e s m args below meth c ad H ls locs F hH hE (okl_cons hr (okl_tl (okl_tl hst))) hlv hl hS
theorem V_isub {x y : Int} (hd : decode cc pc = .ok (.isub, 1)) (hp : pc + 1 = q) (hr : inI (x - y)) (k : ∀ z : Int, z = x - y → V Γ α0 ad0 Z R own cc nL ret nm q ((0, z) :: st) lv α μ cs sl) : V Γ α0 ad0 Z R own cc nL ret nm pc ((0, y) :: (0, x) :: st) lv α μ cs sl := by
  intro p e s m args below meth c ad H ls locs F hH hE hst hlv hl hS
  subst hp
  refine lv_isub F.1.1 F.1.2 hd ?_
  rw [oi_sub]
  exact k _ rfl p e s m args below meth c ad H ls locs F hH hE (okl_cons hr (okl_tl (okl_tl hst))) hlv hl hS
theorem V_imul {x y : Int} (hd : decode cc pc = .ok (.imul, 1)) (hp : pc + 1 = q) (hr : inI (x * y)) (k : ∀ z : Int, z = x * y → V Γ α0 ad0 Z R own cc nL ret nm q ((0, z) :: st) lv α μ cs sl) : V Γ α0 ad0 Z R own cc nL ret nm pc ((0, y) :: (0, x) :: st) lv α μ cs sl := by
  intro p e s m args below meth c ad H ls locs F hH hE hst hlv hl hS
  subst hp
  refine lv_imul F.1.1 F.1.2 hd ?_
  rw [oi_mul]
  exact k _ rfl p e s m args below meth c ad H ls locs F hH hE (okl_cons hr (okl_tl (okl_tl hst))) hlv hl hS
theorem V_idiv {x y : Int} (hd : decode cc pc = .ok (.idiv, 1)) (hp : pc + 1 = q) (h0 : 0 ≤ x) (h1 : 0 < y) (k : ∀ z : Int, z = x / y → V Γ α0 ad0 Z R own cc nL ret nm q ((0, z) :: st) lv α μ cs sl) : V Γ α0 ad0 Z R own cc nL ret nm pc ((0, y) :: (0, x) :: st) lv α μ cs sl := by
  intro p e s m args below meth c ad H ls locs F hH hE hst hlv hl hS
  subst hp
  have hy : inI y := okl_hd hst
  have hx : inI x := okl_hd (okl_tl hst)
  refine lv_idiv F.1.1 F.1.2 hd (fun h => ?_) ?_
  · have := (oi_eq0 hy).mp h
    omega
  rw [oi_div hx hy h0 h1]
  have h2 : x / y ≤ x := Int.ediv_le_self y h0
  have h3 : 0 ≤ x / y := Int.ediv_nonneg h0 (by omega)
  exact k _ rfl p e s m args below meth c ad H ls locs F hH hE (okl_cons (show inI (x / y) by omega) (okl_tl (okl_tl hst))) hlv hl hS
theorem V_iand {x y : Int} (hd : decode cc pc = .ok (.iand, 1)) (hp : pc + 1 = q) (k : ∀ z : Int, inI z → V Γ α0 ad0 Z R own cc nL ret nm q ((0, z) :: st) lv α μ cs sl) : V Γ α0 ad0 Z R own cc nL ret nm pc ((0, y) :: (0, x) :: st) lv α μ cs sl := by
  intro p e s m args below meth c ad H ls locs F hH hE hst hlv hl hS
  subst hp
  refine lv_iand F.1.1 F.1.2 hd ?_
  have hz : inI (Int32.ofInt x &&& Int32.ofInt y).toInt := ⟨by have := Int32.le_toInt (Int32.ofInt x &&& Int32.ofInt y); simpa using this, by have := Int32.toInt_lt (Int32.ofInt x &&& Int32.ofInt y); simpa using this⟩
  have := k _ hz p e s m args below meth c ad H ls locs F hH hE (okl_cons hz (okl_tl (okl_tl hst))) hlv hl hS
  have e1 : cav ad (0, (Int32.ofInt x &&& Int32.ofInt y).toInt) = .int (Int32.ofInt x &&& Int32.ofInt y) := by show Value.int (Int32.ofInt _) = _; rw [Int32.ofInt_toInt]
  rw [List.map_cons, e1] at this
  exact this
theorem V_if_eq {x off : Int} {tgt : Nat} (hd : decode cc pc = .ok (.ifCond .eq off, 3)) (ht : (pc : Int) + off = (tgt : Int)) (hp : pc + 3 = q) (kt : x = 0 → V Γ α0 ad0 Z R own cc nL ret nm tgt st lv α μ cs sl) (kf : ¬ (x = 0) → V Γ α0 ad0 Z R own cc nL ret nm q st lv α μ cs sl) : V Γ α0 ad0 Z R own cc nL ret nm pc ((0, x) :: st) lv α μ cs sl := by
  intro p e s m args below meth c ad H ls locs F hH hE hst hlv hl hS
  subst hp
  have hx : inI x := okl_hd hst
  exact lv_if_eq F.1.1 F.1.2 hd ht (fun h => kt ((oi_eq0 hx).mp h) p e s m args below meth c ad H ls locs F hH hE (okl_tl hst) hlv hl hS) (fun h => kf (fun h2 => h ((oi_eq0 hx).mpr h2)) p e s m args below meth c ad H ls locs F hH hE (okl_tl hst) hlv hl hS)
theorem V_icmp_eq {x y off : Int} {tgt : Nat} (hd : decode cc pc = .ok (.if_icmp .eq off, 3)) (ht : (pc : Int) + off = (tgt : Int)) (hp : pc + 3 = q) (kt : x = y → V Γ α0 ad0 Z R own cc nL ret nm tgt st lv α μ cs sl) (kf : ¬ (x = y) → V Γ α0 ad0 Z R own cc nL ret nm q st lv α μ cs sl) : V Γ α0 ad0 Z R own cc nL ret nm pc ((0, y) :: (0, x) :: st) lv α μ cs sl := by
  intro p e s m args below meth c ad H ls locs F hH hE hst hlv hl hS
  subst hp
  have hy : inI y := okl_hd hst
  have hx : inI x := okl_hd (okl_tl hst)
  exact lv_icmp_eq F.1.1 F.1.2 hd ht (fun h => kt ((oi_eq hx hy).mp h) p e s m args below meth c ad H ls locs F hH hE (okl_tl (okl_tl hst)) hlv hl hS) (fun h => kf (fun h2 => h ((oi_eq hx hy).mpr h2)) p e s m args below meth c ad H ls locs F hH hE (okl_tl (okl_tl hst)) hlv hl hS)
theorem V_if_ne {x off : Int} {tgt : Nat} (hd : decode cc pc = .ok (.ifCond .ne off, 3)) (ht : (pc : Int) + off = (tgt : Int)) (hp : pc + 3 = q) (kt : x ≠ 0 → V Γ α0 ad0 Z R own cc nL ret nm tgt st lv α μ cs sl) (kf : x = 0 → V Γ α0 ad0 Z R own cc nL ret nm q st lv α μ cs sl) : V Γ α0 ad0 Z R own cc nL ret nm pc ((0, x) :: st) lv α μ cs sl := by
  intro p e s m args below meth c ad H ls locs F hH hE hst hlv hl hS
  subst hp
  have hx : inI x := okl_hd hst
  exact lv_if_ne F.1.1 F.1.2 hd ht (fun h => kt ((not_congr (oi_eq0 hx)).mp h) p e s m args below meth c ad H ls locs F hH hE (okl_tl hst) hlv hl hS) (fun h => kf ((oi_eq0 hx).mp h) p e s m args below meth c ad H ls locs F hH hE (okl_tl hst) hlv hl hS)
theorem V_icmp_ne {x y off : Int} {tgt : Nat} (hd : decode cc pc = .ok (.if_icmp .ne off, 3)) (ht : (pc : Int) + off = (tgt : Int)) (hp : pc + 3 = q) (kt : x ≠ y → V Γ α0 ad0 Z R own cc nL ret nm tgt st lv α μ cs sl) (kf : x = y → V Γ α0 ad0 Z R own cc nL ret nm q st lv α μ cs sl) : V Γ α0 ad0 Z R own cc nL ret nm pc ((0, y) :: (0, x) :: st) lv α μ cs sl := by
  intro p e s m args below meth c ad H ls locs F hH hE hst hlv hl hS
  subst hp
  have hy : inI y := okl_hd hst
  have hx : inI x := okl_hd (okl_tl hst)
  exact lv_icmp_ne F.1.1 F.1.2 hd ht (fun h => kt ((not_congr (oi_eq hx hy)).mp h) p e s m args below meth c ad H ls locs F hH hE (okl_tl (okl_tl hst)) hlv hl hS) (fun h => kf ((oi_eq hx hy).mp h) p e s m args below meth c ad H ls locs F hH hE (okl_tl (okl_tl hst)) hlv hl hS)
theorem V_if_lt {x off : Int} {tgt : Nat} (hd : decode cc pc = .ok (.ifCond .lt off, 3)) (ht : (pc : Int) + off = (tgt : Int)) (hp : pc + 3 = q) (kt : x < 0 → V Γ α0 ad0 Z R own cc nL ret nm tgt st lv α μ cs sl) (kf : ¬ (x < 0) → V Γ α0 ad0 Z R own cc nL ret nm q st lv α μ cs sl) : V Γ α0 ad0 Z R own cc nL ret nm pc ((0, x) :: st) lv α μ cs sl := by
  intro p e s m args below meth c ad H ls locs F hH hE hst hlv hl hS
  subst hp
  have hx : inI x := okl_hd hst
  exact lv_if_lt F.1.1 F.1.2 hd ht (fun h => kt ((oi_lt0 hx).mp h) p e s m args below meth c ad H ls locs F hH hE (okl_tl hst) hlv hl hS) (fun h => kf (fun h2 => h ((oi_lt0 hx).mpr h2)) p e s m args below meth c ad H ls locs F hH hE (okl_tl hst) hlv hl hS)
theorem V_icmp_lt {x y off : Int} {tgt : Nat} (hd : decode cc pc = .ok (.if_icmp .lt off, 3)) (ht : (pc : Int) + off = (tgt : Int)) (hp : pc + 3 = q) (kt : x < y → V Γ α0 ad0 Z R own cc nL ret nm tgt st lv α μ cs sl) (kf : ¬ (x < y) → V Γ α0 ad0 Z R own cc nL ret nm q st lv α μ cs sl) : V Γ α0 ad0 Z R own cc nL ret nm pc ((0, y) :: (0, x) :: st) lv α μ cs sl := by
  intro p e s m args below meth c ad H ls locs F hH hE hst hlv hl hS
  subst hp
  have hy : inI y := okl_hd hst
  have hx : inI x := okl_hd (okl_tl hst)
  exact lv_icmp_lt F.1.1 F.1.2 hd ht (fun h => kt ((oi_lt hx hy).mp h) p e s m args below meth c ad H ls locs F hH hE (okl_tl (okl_tl hst)) hlv hl hS) (fun h => kf (fun h2 => h ((oi_lt hx hy).mpr h2)) p e s m args below meth c ad H ls locs F hH hE (okl_tl (okl_tl hst)) hlv hl hS)
theorem V_if_ge {x off : Int} {tgt : Nat} (hd : decode cc pc = .ok (.ifCond .ge off, 3)) (ht : (pc : Int) + off = (tgt : Int)) (hp : pc + 3 = q) (kt : 0 ≤ x → V Γ α0 ad0 Z R own cc nL ret nm tgt st lv α μ cs sl) (kf : ¬ (0 ≤ x) → V Γ α0 ad0 Z R own cc nL ret nm q st lv α μ cs sl) : V Γ α0 ad0 Z R own cc nL ret nm pc ((0, x) :: st) lv α μ cs sl := by
  intro p e s m args below meth c ad H ls locs F hH hE hst hlv hl hS
  subst hp
  have hx : inI x := okl_hd hst
  exact lv_if_ge F.1.1 F.1.2 hd ht (fun h => kt ((oi_0le hx).mp h) p e s m args below meth c ad H ls locs F hH hE (okl_tl hst) hlv hl hS) (fun h => kf (fun h2 => h ((oi_0le hx).mpr h2)) p e s m args below meth c ad H ls locs F hH hE (okl_tl hst) hlv hl hS)
theorem V_icmp_ge {x y off : Int} {tgt : Nat} (hd : decode cc pc = .ok (.if_icmp .ge off, 3)) (ht : (pc : Int) + off = (tgt : Int)) (hp : pc + 3 = q) (kt : y ≤ x → V Γ α0 ad0 Z R own cc nL ret nm tgt st lv α μ cs sl) (kf : ¬ (y ≤ x) → V Γ α0 ad0 Z R own cc nL ret nm q st lv α μ cs sl) : V Γ α0 ad0 Z R own cc nL ret nm pc ((0, y) :: (0, x) :: st) lv α μ cs sl := by
  intro p e s m args below meth c ad H ls locs F hH hE hst hlv hl hS
  subst hp
  have hy : inI y := okl_hd hst
  have hx : inI x := okl_hd (okl_tl hst)
  exact lv_icmp_ge F.1.1 F.1.2 hd ht (fun h => kt ((oi_le hy hx).mp h) p e s m args below meth c ad H ls locs F hH hE (okl_tl (okl_tl hst)) hlv hl hS) (fun h => kf (fun h2 => h ((oi_le hy hx).mpr h2)) p e s m args below meth c ad H ls locs F hH hE (okl_tl (okl_tl hst)) hlv hl hS)
theorem V_if_gt {x off : Int} {tgt : Nat} (hd : decode cc pc = .ok (.ifCond .gt off, 3)) (ht : (pc : Int) + off = (tgt : Int)) (hp : pc + 3 = q) (kt : 0 < x → V Γ α0 ad0 Z R own cc nL ret nm tgt st lv α μ cs sl) (kf : ¬ (0 < x) → V Γ α0 ad0 Z R own cc nL ret nm q st lv α μ cs sl) : V Γ α0 ad0 Z R own cc nL ret nm pc ((0, x) :: st) lv α μ cs sl := by
  intro p e s m args below meth c ad H ls locs F hH hE hst hlv hl hS
  subst hp
  have hx : inI x := okl_hd hst
  exact lv_if_gt F.1.1 F.1.2 hd ht (fun h => kt ((oi_0lt hx).mp h) p e s m args below meth c ad H ls locs F hH hE (okl_tl hst) hlv hl hS) (fun h => kf (fun h2 => h ((oi_0lt hx).mpr h2)) p e s m args below meth c ad H ls locs F hH hE (okl_tl hst) hlv hl hS)
theorem V_icmp_gt {x y off : Int} {tgt : Nat} (hd : decode cc pc = .ok (.if_icmp .gt off, 3)) (ht : (pc : Int) + off = (tgt : Int)) (hp : pc + 3 = q) (kt : y < x → V Γ α0 ad0 Z R own cc nL ret nm tgt st lv α μ cs sl) (kf : ¬ (y < x) → V Γ α0 ad0 Z R own cc nL ret nm q st lv α μ cs sl) : V Γ α0 ad0 Z R own cc nL ret nm pc ((0, y) :: (0, x) :: st) lv α μ cs sl := by
  intro p e s m args below meth c ad H ls locs F hH hE hst hlv hl hS
  subst hp
  have hy : inI y := okl_hd hst
  have hx : inI x := okl_hd (okl_tl hst)
  exact lv_icmp_gt F.1.1 F.1.2 hd ht (fun h => kt ((oi_lt hy hx).mp h) p e s m args below meth c ad H ls locs F hH hE (okl_tl (okl_tl hst)) hlv hl hS) (fun h => kf (fun h2 => h ((oi_lt hy hx).mpr h2)) p e s m args below meth c ad H ls locs F hH hE (okl_tl (okl_tl hst)) hlv hl hS)
theorem V_if_le {x off : Int} {tgt : Nat} (hd : decode cc pc = .ok (.ifCond .le off, 3)) (ht : (pc : Int) + off = (tgt : Int)) (hp : pc + 3 = q) (kt : x ≤ 0 → V Γ α0 ad0 Z R own cc nL ret nm tgt st lv α μ cs sl) (kf : ¬ (x ≤ 0) → V Γ α0 ad0 Z R own cc nL ret nm q st lv α μ cs sl) : V Γ α0 ad0 Z R own cc nL ret nm pc ((0, x) :: st) lv α μ cs sl := by
  intro p e s m args below meth c ad H ls locs F hH hE hst hlv hl hS
  subst hp
  have hx : inI x := okl_hd hst
  exact lv_if_le F.1.1 F.1.2 hd ht (fun h => kt ((oi_le0 hx).mp h) p e s m args below meth c ad H ls locs F hH hE (okl_tl hst) hlv hl hS) (fun h => kf (fun h2 => h ((oi_le0 hx).mpr h2)) p e s m args below meth c ad H ls locs F hH hE (okl_tl hst) hlv hl hS)
theorem V_icmp_le {x y off : Int} {tgt : Nat} (hd : decode cc pc = .ok (.if_icmp .le off, 3)) (ht : (pc : Int) + off = (tgt : Int)) (hp : pc + 3 = q) (kt : x ≤ y → V Γ α0 ad0 Z R own cc nL ret nm tgt st lv α μ cs sl) (kf : ¬ (x ≤ y) → V Γ α0 ad0 Z R own cc nL ret nm q st lv α μ cs sl) : V Γ α0 ad0 Z R own cc nL ret nm pc ((0, y) :: (0, x) :: st) lv α μ cs sl := by
  intro p e s m args below meth c ad H ls locs F hH hE hst hlv hl hS
  subst hp
  have hy : inI y := okl_hd hst
  have hx : inI x := okl_hd (okl_tl hst)
  exact lv_icmp_le F.1.1 F.1.2 hd ht (fun h => kt ((oi_le hx hy).mp h) p e s m args below meth c ad H ls locs F hH hE (okl_tl (okl_tl hst)) hlv hl hS) (fun h => kf (fun h2 => h ((oi_le hx hy).mpr h2)) p e s m args below meth c ad H ls locs F hH hE (okl_tl (okl_tl hst)) hlv hl hS)
theorem V_ifnull {x off : Int} {tgt : Nat} (hd : decode cc pc = .ok (.ifnull off, 3)) (ht : (pc : Int) + off = (tgt : Int)) (hp : pc + 3 = q) (kt : x < 0 → V Γ α0 ad0 Z R own cc nL ret nm tgt st lv α μ cs sl) (kf : 0 ≤ x → V Γ α0 ad0 Z R own cc nL ret nm q st lv α μ cs sl) : V Γ α0 ad0 Z R own cc nL ret nm pc ((3, x) :: st) lv α μ cs sl := by
  intro p e s m args below meth c ad H ls locs F hH hE hst hlv hl hS
  subst hp
  show W _ _ _ _ _ _ _ _ _ _ _ _ _ _ _ (F0 m pc ls (cav ad (3, x) :: st.map (cav ad)))
  by_cases h0 : x < 0
  · have e3 : cav ad (3, x) = .null := if_pos h0
    rw [e3]
    exact lv_ifnullN F.1.1 F.1.2 hd ht (kt h0 p e s m args below meth c ad H ls locs F hH hE (okl_tl hst) hlv hl hS)
  · have e3 : cav ad (3, x) = .ref (ad x) := if_neg h0
    rw [e3]
    exact lv_ifnull F.1.1 F.1.2 hd (kf (by omega) p e s m args below meth c ad H ls locs F hH hE (okl_tl hst) hlv hl hS)
theorem V_ifnonnull {x off : Int} {tgt : Nat} (hd : decode cc pc = .ok (.ifnonnull off, 3)) (ht : (pc : Int) + off = (tgt : Int)) (hp : pc + 3 = q) (kt : 0 ≤ x → V Γ α0 ad0 Z R own cc nL ret nm tgt st lv α μ cs sl) (kf : x < 0 → V Γ α0 ad0 Z R own cc nL ret nm q st lv α μ cs sl) : V Γ α0 ad0 Z R own cc nL ret nm pc ((3, x) :: st) lv α μ cs sl := by
  intro p e s m args below meth c ad H ls locs F hH hE hst hlv hl hS
  subst hp
  show W _ _ _ _ _ _ _ _ _ _ _ _ _ _ _ (F0 m pc ls (cav ad (3, x) :: st.map (cav ad)))
  by_cases h0 : x < 0
  · have e3 : cav ad (3, x) = .null := if_pos h0
    rw [e3]
    exact lv_ifnonnullN F.1.1 F.1.2 hd (kf h0 p e s m args below meth c ad H ls locs F hH hE (okl_tl hst) hlv hl hS)
  · have e3 : cav ad (3, x) = .ref (ad x) := if_neg h0
    rw [e3]
    exact lv_ifnonnull F.1.1 F.1.2 hd ht (kt (by omega) p e s m args below meth c ad H ls locs F hH hE (okl_tl hst) hlv hl hS)
theorem V_goto {off : Int} {tgt : Nat} (hd : decode cc pc = .ok (.goto off, 3)) (ht : (pc : Int) + off = (tgt : Int)) (k : V Γ α0 ad0 Z R own cc nL ret nm tgt st lv α μ cs sl) : V Γ α0 ad0 Z R own cc nL ret nm pc st lv α μ cs sl := by
  intro p e s m args below meth c ad H ls locs F hH hE hst hlv hl hS
  exact lv_goto F.1.1 F.1.2 hd ht (k p e s m args below meth c ad H ls locs F hH hE hst hlv hl hS)
theorem V_tswIn {dflt lo hi x off : Int} {offs : Array Int} {len tgt : Nat} (hd : decode cc pc = .ok (.tableswitch dflt lo hi offs, len)) (h1 : lo ≤ x) (h2 : x ≤ hi) (ho : offs[(x - lo).toNat]? = some off) (ht : (pc : Int) + off = (tgt : Int)) (k : V Γ α0 ad0 Z R own cc nL ret nm tgt st lv α μ cs sl) : V Γ α0 ad0 Z R own cc nL ret nm pc ((0, x) :: st) lv α μ cs sl := by
  intro p e s m args below meth c ad H ls locs F hH hE hst hlv hl hS
  have hx : inI x := okl_hd hst
  exact lv_tableIn F.1.1 F.1.2 hd (by rw [oi_int hx]; omega) (by rw [oi_int hx]; omega) (by rw [oi_int hx]; exact ho) ht (k p e s m args below meth c ad H ls locs F hH hE (okl_tl hst) hlv hl hS)
theorem V_tswOut {dflt lo hi x : Int} {offs : Array Int} {len tgt : Nat} (hd : decode cc pc = .ok (.tableswitch dflt lo hi offs, len)) (h : x < lo ∨ hi < x) (ht : (pc : Int) + dflt = (tgt : Int)) (k : V Γ α0 ad0 Z R own cc nL ret nm tgt st lv α μ cs sl) : V Γ α0 ad0 Z R own cc nL ret nm pc ((0, x) :: st) lv α μ cs sl := by
  intro p e s m args below meth c ad H ls locs F hH hE hst hlv hl hS
  have hx : inI x := okl_hd hst
  exact lv_tableOut F.1.1 F.1.2 hd (by rw [oi_int hx]; exact h) ht (k p e s m args below meth c ad H ls locs F hH hE (okl_tl hst) hlv hl hS)
theorem V_lsw {dflt x off : Int} {ps : Array (Int × Int)} {len tgt : Nat} (hd : decode cc pc = .ok (.lookupswitch dflt ps, len)) (hs : (ps.toList.zip (ps.toList.drop 1)).all (fun (a, next) => a.1 < next.1) = true) (ho : Op.lookupswitch.offset ps.toList dflt x = off) (ht : (pc : Int) + off = (tgt : Int)) (k : V Γ α0 ad0 Z R own cc nL ret nm tgt st lv α μ cs sl) : V Γ α0 ad0 Z R own cc nL ret nm pc ((0, x) :: st) lv α μ cs sl := by
  intro p e s m args below meth c ad H ls locs F hH hE hst hlv hl hS
  have hx : inI x := okl_hd hst
  exact lv_lookup F.1.1 F.1.2 hd hs (by rw [oi_int hx]; exact ho) ht (k p e s m args below meth c ad H ls locs F hH hE (okl_tl hst) hlv hl hS)
theorem cav_cat1 {ad : Ad} {v : AV} (h : v.1 ≠ 2) : (cav ad v).category = 1 := by
  obtain ⟨k, x⟩ := v
  match k with
  | 0 => rfl
  | 1 => rfl
  | 2 => exact absurd rfl h
  | 3 =>
    show (if x < 0 then Value.null else Value.ref (ad x)).category = 1
    split <;> rfl
  | k + 4 => rfl
theorem V_dup {v : AV} (hd : decode cc pc = .ok (.dup, 1)) (hp : pc + 1 = q) (hv : v.1 ≠ 2) (k : V Γ α0 ad0 Z R own cc nL ret nm q (v :: v :: st) lv α μ cs sl) : V Γ α0 ad0 Z R own cc nL ret nm pc (v :: st) lv α μ cs sl := by
  intro p e s m args below meth c ad H ls locs F hH hE hst hlv hl hS
  subst hp
  exact lv_dup F.1.1 F.1.2 hd (cav_cat1 hv) (k p e s m args below meth c ad H ls locs F hH hE (okl_cons (okl_hd hst) hst) hlv hl hS)
theorem V_dup2 {v w : AV} (hd : decode cc pc = .ok (.dup2, 1)) (hp : pc + 1 = q) (hv : v.1 ≠ 2) (hw : w.1 ≠ 2) (k : V Γ α0 ad0 Z R own cc nL ret nm q (v :: w :: v :: w :: st) lv α μ cs sl) : V Γ α0 ad0 Z R own cc nL ret nm pc (v :: w :: st) lv α μ cs sl := by
  intro p e s m args below meth c ad H ls locs F hH hE hst hlv hl hS
  subst hp
  exact lv_dup2_11 F.1.1 F.1.2 hd (cav_cat1 hv) (cav_cat1 hw) (k p e s m args below meth c ad H ls locs F hH hE (okl_cons (okl_hd hst) (okl_cons (okl_hd (okl_tl hst)) hst)) hlv hl hS)
end VR
