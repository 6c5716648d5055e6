/-! LONGS BY BITS -/
def bt (x : Int) (j : Nat) : Bool := (BitVec.ofInt 64 x).getLsbD j
theorem bt_of (v : Int64) (j : Nat) : bt v.toInt j = v.toBitVec.getLsbD j := by
  show (BitVec.ofInt 64 v.toInt).getLsbD j = _
  rw [show BitVec.ofInt 64 v.toInt = v.toBitVec from congrArg Int64.toBitVec (Int64.ofInt_toInt v)]
theorem bt_big {x : Int} {j : Nat} (h : 64 ≤ j) : bt x j = false := BitVec.getLsbD_of_ge _ _ h
theorem inL_v (v : Int64) : inL v.toInt := ⟨Int64.le_toInt v, Int64.toInt_lt v⟩
theorem bt_ext {x y : Int} (hx : inL x) (hy : inL y) (h : ∀ j, j < 64 → bt x j = bt y j) : x = y := by
  have e : BitVec.ofInt 64 x = BitVec.ofInt 64 y := BitVec.eq_of_getLsbD_eq h
  have e2 : Int64.ofInt x = Int64.ofInt y := Int64.toBitVec.inj e
  have a := Int64.toInt_ofInt_of_le (n := x) (by simpa using hx.1) (by simpa using hx.2)
  have b := Int64.toInt_ofInt_of_le (n := y) (by simpa using hy.1) (by simpa using hy.2)
  exact a.symm.trans ((congrArg Int64.toInt e2).trans b)
theorem bt_0 (j : Nat) : bt 0 j = false := by unfold bt; simp
theorem bt_1 (j : Nat) : bt 1 j = decide (j = 0) := by
  show (BitVec.ofInt 64 1).getLsbD j = _
  rw [show BitVec.ofInt 64 1 = 1#64 from rfl, BitVec.getLsbD_one]
  simp
theorem bt_m1 (j : Nat) : bt (-1) j = decide (j < 64) := by
  show (BitVec.ofInt 64 (-1)).getLsbD j = _
  rw [show BitVec.ofInt 64 (-1) = BitVec.allOnes 64 from rfl, BitVec.getLsbD_allOnes]
theorem inL0 : inL 0 := ⟨by decide, by decide⟩
theorem bt_z {z : Int} (h : inL z) : z = 0 ↔ ∀ j, j < 64 → bt z j = false := ⟨fun e j _ => by rw [e]; exact bt_0 j, fun e => bt_ext h inL0 fun j hj => by rw [e j hj, bt_0]⟩
theorem sh_k : ∀ n : Nat, n < 64 → (((Int32.ofInt (n : Int)).toInt64 &&& 63).toBitVec.smod 64) = BitVec.ofNat 64 n := by decide +kernel
/-- the answer of 'is the bit s of x set': z1 = x >> s, z2 = z1 & 1 -/
theorem bt_test {x z1 z2 : Int} {s : Nat} (hs : s < 64) (h1 : ∀ j, j < 64 → j + s < 64 → bt z1 j = bt x (j + s)) (h2 : ∀ j, bt z2 j = (bt z1 j && bt 1 j)) (hz : inL z2) : (z2 = 0 ↔ bt x s = false) := by
  rw [bt_z hz]
  constructor
  · intro h
    have := h 0 (by decide)
    rw [h2, bt_1, h1 0 (by decide) (by omega)] at this
    simpa using this
  · intro h j hj
    rw [h2, bt_1]
    by_cases hj0 : j = 0
    · rw [hj0, h1 0 (by decide) (by omega), Nat.zero_add, h]; rfl
    · simp [hj0]
/-- 1 << s -/
theorem bt_one {z : Int} {s : Nat} (h : ∀ j, bt z j = (decide (j < 64) && !decide (j < s) && bt 1 (j - s))) (j : Nat) (hj : j < 64) : bt z j = decide (j = s) := by
  rw [h j, bt_1]
  by_cases h1 : j < s
  · have : j ≠ s := by omega
    simp [h1, this]
  · by_cases h2 : j = s
    · simp [h2] ; omega
    · have : j - s ≠ 0 := by omega
      simp [h2, this]
section VLG
variable {Γ : GC} {α0 : Sh} {ad0 : Ad} {Z : ZT} {R : Room} {own : String} {cc : ByteArray} {nL : Nat} {ret : Option FieldType} {nm : String} {pc q : Nat} {st lv : List AV} {α : Sh} {μ : Mem} {cs sl : Nat}
theorem V_land {x y : Int} (hd : decode cc pc = .ok (.land, 1)) (hp : pc + 1 = q) (k : ∀ z : Int, (∀ j, bt z j = (bt x j && bt y j)) → inL z → V Γ α0 ad0 Z R own cc nL ret nm q ((2, z) :: st) lv α μ cs sl) : V Γ α0 ad0 Z R own cc nL ret nm pc ((2, y) :: (2, x) :: st) lv α μ cs sl := by
  intro p e s m args below meth c ad H ls locs F hH hE hst hlv hl hS
  subst hp
  refine lv_land F.hx F.hb hd ?_
  have hk := k (Int64.ofInt x &&& Int64.ofInt y).toInt (fun j => by rw [bt_of, Int64.toBitVec_and, BitVec.getLsbD_and]; rfl) (inL_v _) p e s m args below meth c ad H ls locs F hH hE (okl_cons (show okx _ 2 _ from inL_v _) (okl_tl (okl_tl hst))) hlv hl hS
  rw [List.map_cons, show cav ad (2, (Int64.ofInt x &&& Int64.ofInt y).toInt) = .long (Int64.ofInt x &&& Int64.ofInt y) from congrArg Value.long (Int64.ofInt_toInt _)] at hk
  exact hk
theorem V_lor {x y : Int} (hd : decode cc pc = .ok (.lor, 1)) (hp : pc + 1 = q) (k : ∀ z : Int, (∀ j, bt z j = (bt x j || bt y j)) → inL z → V Γ α0 ad0 Z R own cc nL ret nm q ((2, z) :: st) lv α μ cs sl) : V Γ α0 ad0 Z R own cc nL ret nm pc ((2, y) :: (2, x) :: st) lv α μ cs sl := by
  intro p e s m args below meth c ad H ls locs F hH hE hst hlv hl hS
  subst hp
  refine lv_lor F.hx F.hb hd ?_
  have hk := k (Int64.ofInt x ||| Int64.ofInt y).toInt (fun j => by rw [bt_of, Int64.toBitVec_or, BitVec.getLsbD_or]; rfl) (inL_v _) p e s m args below meth c ad H ls locs F hH hE (okl_cons (show okx _ 2 _ from inL_v _) (okl_tl (okl_tl hst))) hlv hl hS
  rw [List.map_cons, show cav ad (2, (Int64.ofInt x ||| Int64.ofInt y).toInt) = .long (Int64.ofInt x ||| Int64.ofInt y) from congrArg Value.long (Int64.ofInt_toInt _)] at hk
  exact hk
theorem V_lxor {x y : Int} (hd : decode cc pc = .ok (.lxor, 1)) (hp : pc + 1 = q) (k : ∀ z : Int, (∀ j, bt z j = (bt x j ^^ bt y j)) → inL z → V Γ α0 ad0 Z R own cc nL ret nm q ((2, z) :: st) lv α μ cs sl) : V Γ α0 ad0 Z R own cc nL ret nm pc ((2, y) :: (2, x) :: st) lv α μ cs sl := by
  intro p e s m args below meth c ad H ls locs F hH hE hst hlv hl hS
  subst hp
  refine lv_lxor F.hx F.hb hd ?_
  have hk := k (Int64.ofInt x ^^^ Int64.ofInt y).toInt (fun j => by rw [bt_of, Int64.toBitVec_xor, BitVec.getLsbD_xor]; rfl) (inL_v _) p e s m args below meth c ad H ls locs F hH hE (okl_cons (show okx _ 2 _ from inL_v _) (okl_tl (okl_tl hst))) hlv hl hS
  rw [List.map_cons, show cav ad (2, (Int64.ofInt x ^^^ Int64.ofInt y).toInt) = .long (Int64.ofInt x ^^^ Int64.ofInt y) from congrArg Value.long (Int64.ofInt_toInt _)] at hk
  exact hk
theorem V_lshl {x s0 : Int} (hd : decode cc pc = .ok (.lshl, 1)) (hp : pc + 1 = q) (hs : 0 ≤ s0 ∧ s0 < 64) (k : ∀ z : Int, (∀ j, bt z j = (decide (j < 64) && !decide (j < s0.toNat) && bt x (j - s0.toNat))) → inL z → V Γ α0 ad0 Z R own cc nL ret nm q ((2, z) :: st) lv α μ cs sl) : V Γ α0 ad0 Z R own cc nL ret nm pc ((0, s0) :: (2, x) :: st) lv α μ cs sl := by
  intro p e s m args below meth c ad H ls locs F hH hE hst hlv hl hS
  subst hp
  obtain ⟨n, rfl⟩ : ∃ n : Nat, s0 = (n : Int) := ⟨s0.toNat, by omega⟩
  refine lv_lshl F.hx F.hb hd rfl ?_
  have hn : n < 64 := by omega
  have hk := k (Int64.ofInt x <<< ((Int32.ofInt (n : Int)).toInt64 &&& 63)).toInt (fun j => by rw [bt_of, Int64.toBitVec_shiftLeft, sh_k n hn, BitVec.shiftLeft_eq', BitVec.getLsbD_shiftLeft, BitVec.toNat_ofNat, Nat.mod_eq_of_lt (by omega), Int.toNat_natCast]; rfl) (inL_v _) p e s m args below meth c ad H ls locs F hH hE (okl_cons (show okx _ 2 _ from inL_v _) (okl_tl (okl_tl hst))) hlv hl hS
  rw [List.map_cons, show cav ad (2, (Int64.ofInt x <<< ((Int32.ofInt (n : Int)).toInt64 &&& 63)).toInt) = .long (Int64.ofInt x <<< ((Int32.ofInt (n : Int)).toInt64 &&& 63)) from congrArg Value.long (Int64.ofInt_toInt _)] at hk
  exact hk
theorem V_lshr {x s0 : Int} (hd : decode cc pc = .ok (.lshr, 1)) (hp : pc + 1 = q) (hs : 0 ≤ s0 ∧ s0 < 64) (k : ∀ z : Int, (∀ j, j < 64 → j + s0.toNat < 64 → bt z j = bt x (j + s0.toNat)) → inL z → V Γ α0 ad0 Z R own cc nL ret nm q ((2, z) :: st) lv α μ cs sl) : V Γ α0 ad0 Z R own cc nL ret nm pc ((0, s0) :: (2, x) :: st) lv α μ cs sl := by
  intro p e s m args below meth c ad H ls locs F hH hE hst hlv hl hS
  subst hp
  obtain ⟨n, rfl⟩ : ∃ n : Nat, s0 = (n : Int) := ⟨s0.toNat, by omega⟩
  refine lv_lshr F.hx F.hb hd rfl ?_
  have hn : n < 64 := by omega
  have hk := k (Int64.ofInt x >>> ((Int32.ofInt (n : Int)).toInt64 &&& 63)).toInt (fun j h1 h2 => by rw [bt_of, Int64.toBitVec_shiftRight, sh_k n hn, BitVec.sshiftRight_eq', BitVec.getLsbD_sshiftRight, BitVec.toNat_ofNat, Nat.mod_eq_of_lt (by omega)]; rw [Int.toNat_natCast] at h2 ⊢; rw [if_pos (by omega), Nat.add_comm n j]; simp [bt]; omega) (inL_v _) p e s m args below meth c ad H ls locs F hH hE (okl_cons (show okx _ 2 _ from inL_v _) (okl_tl (okl_tl hst))) hlv hl hS
  rw [List.map_cons, show cav ad (2, (Int64.ofInt x >>> ((Int32.ofInt (n : Int)).toInt64 &&& 63)).toInt) = .long (Int64.ofInt x >>> ((Int32.ofInt (n : Int)).toInt64 &&& 63)) from congrArg Value.long (Int64.ofInt_toInt _)] at hk
  exact hk
/-- compared with 0 -/
theorem V_lcmp0 {x : Int} (hd : decode cc pc = .ok (.lcmp, 1)) (hp : pc + 1 = q) (k : ∀ z : Int, (z = 0 ↔ x = 0) → V Γ α0 ad0 Z R own cc nL ret nm q ((0, z) :: st) lv α μ cs sl) : V Γ α0 ad0 Z R own cc nL ret nm pc ((2, 0) :: (2, x) :: st) lv α μ cs sl := by
  intro p e s m args below meth c ad H ls locs F hH hE hst hlv hl hS
  subst hp
  refine W.lcmp F.hx F.hb hd ?_
  have hx : inL x := hst (2, x) (List.mem_cons_of_mem _ List.mem_cons_self)
  have h0 : (Int64.ofInt x = Int64.ofInt 0) ↔ x = 0 := ⟨fun h => (Int64.toInt_ofInt_of_le (n := x) (by simpa using hx.1) (by simpa using hx.2)).symm.trans ((congrArg Int64.toInt h).trans rfl), fun h => by rw [h]⟩
  have hz : inI (lg_cmp (Int64.ofInt x) (Int64.ofInt 0)).toInt := ⟨Int32.le_toInt _, Int32.toInt_lt _⟩
  have hk := k (lg_cmp (Int64.ofInt x) (Int64.ofInt 0)).toInt (by
    unfold lg_cmp
    split
    · rename_i hh
      refine ⟨fun h => absurd h (by decide), fun h => ?_⟩
      rw [h] at hh
      exact absurd hh (by decide)
    · split
      · rename_i h1
        exact ⟨fun _ => h0.mp h1, fun _ => rfl⟩
      · rename_i h1
        exact ⟨fun h => absurd h (by decide), fun h => absurd (h0.mpr h) h1⟩) p e s m args below meth c ad H ls locs F hH hE (okl_cons (show okx _ 0 _ from hz) (okl_tl (okl_tl hst))) hlv hl hS
  rw [List.map_cons, show cav ad (0, (lg_cmp (Int64.ofInt x) (Int64.ofInt 0)).toInt) = .int (lg_cmp (Int64.ofInt x) (Int64.ofInt 0)) from congrArg Value.int (Int32.ofInt_toInt _)] at hk
  exact hk
end VLG
