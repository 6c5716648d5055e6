/-! THE REFERENCE: its object is token 0, the array of its field k is token k+1; M k i is place i of that array, M k 0 a plain field -/
def mSh : Nat → Nat × Nat := fun k => match k with
  | 1 => (21, 40)
  | 2 => (21, 40)
  | 3 => (20, 40)
  | 4 => (20, 40)
  | 5 => (20, 160)
  | 6 => (20, 40)
  | 7 => (20, 240)
  | 8 => (21, 240)
  | 9 => (20, 240)
  | 10 => (20, 40)
  | 11 => (20, 160)
  | 12 => (20, 200)
  | 13 => (20, 2400)
  | 14 => (20, 2400)
  | 15 => (20, 2400)
  | 16 => (20, 2400)
  | 18 => (20, 400)
  | 19 => (21, 40)
  | 20 => (20, 41)
  | 22 => (21, 40)
  | 23 => (21, 400)
  | 24 => (20, 60)
  | 26 => (21, 40)
  | 27 => (20, 1700)
  | 28 => (20, 520)
  | 29 => (20, 3120)
  | 30 => (20, 13)
  | 31 => (20, 3900)
  | 32 => (20, 13)
  | 33 => (20, 520)
  | 34 => (20, 12)
  | 35 => (20, 12)
  | 36 => (20, 48)
  | 39 => (21, 100)
  | 40 => (20, 100)
  | 41 => (20, 100)
  | 42 => (20, 100)
  | 43 => (21, 100)
  | 57 => (21, 100)
  | _ => (0, 0)
def gα (αC : Sh) : Sh := fun t => if t = 0 then (8, 0) else if 1 ≤ t ∧ t ≤ 58 then mSh (t - 1).toNat else αC t
def mm (M C : Mem) : Mem := fun t i => if t = 0 then (if (mSh i.toNat).1 = 0 then M i 0 else i + 1) else if 1 ≤ t ∧ t ≤ 58 then (if (mSh (t - 1).toNat).1 = 0 then 0 else M (t - 1) i) else C t i
theorem gα_0 {αC : Sh} : (gα αC 0) = (7 + 1, 0) := rfl
theorem gα_a {αC : Sh} {k : Nat} {t : Int} (ht : t = k + 1) (hk : k < 58) : gα αC t = mSh k := by
  subst ht
  unfold gα
  rw [if_neg (by omega), if_pos (by omega)]
  congr 1
  omega
theorem gα_c {αC : Sh} {t : Int} (ht : t < 0 ∨ 59 ≤ t) : gα αC t = αC t := by
  unfold gα
  rw [if_neg (by omega), if_neg (by omega)]
theorem mm_0 {M C : Mem} {k : Nat} (h : (mSh k).1 = 0) : mm M C 0 k = M k 0 := by
  unfold mm
  rw [if_pos rfl, Int.toNat_natCast, if_pos h]
theorem mm_r {M C : Mem} {k : Nat} (h : (mSh k).1 ≠ 0) : mm M C 0 k = k + 1 := by
  unfold mm
  rw [if_pos rfl, Int.toNat_natCast, if_neg h]
theorem mm_a {M C : Mem} {k : Nat} {t i : Int} (ht : t = k + 1) (hk : k < 58) (h : (mSh k).1 ≠ 0) : mm M C t i = M k i := by
  subst ht
  unfold mm
  rw [if_neg (by omega), if_pos (by omega), show ((k : Int) + 1 - 1).toNat = k by omega, if_neg h, show (k : Int) + 1 - 1 = k by omega]
theorem mm_c {M C : Mem} {t : Int} (ht : t < 0 ∨ 59 ≤ t) (i : Int) : mm M C t i = C t i := by
  unfold mm
  rw [if_neg (by omega), if_neg (by omega)]
theorem mm_put {M C : Mem} {k : Nat} {x : Int} (h : (mSh k).1 = 0) (hk : k < 58) : mu (mm M C) 0 k x = mm (mu M k 0 x) C := by
  funext t i
  by_cases ht : t = 0
  · subst ht
    by_cases hi : i = k
    · subst hi
      rw [mu_s, mm_0 h, mu_s]
    · rw [mu_i _ _ _ _ hi]
      unfold mm
      rw [if_pos rfl, if_pos rfl, mu_t _ _ _ _ hi]
  · rw [mu_t _ _ _ _ ht]
    unfold mm
    rw [if_neg ht, if_neg ht]
    split
    · rename_i h1
      split
      · rfl
      · rename_i h2
        rw [mu_t _ _ _ _ (fun h3 => h2 (by rw [show (t - 1).toNat = k by omega]; exact h))]
    · rfl
theorem mm_ast {M C : Mem} {k : Nat} {t i x : Int} (ht : t = k + 1) (hk : k < 58) (h : (mSh k).1 ≠ 0) : mu (mm M C) t i x = mm (mu M k i x) C := by
  subst ht
  funext u j
  by_cases hu : u = k + 1
  · subst hu
    rw [mm_a rfl hk h]
    by_cases hj : j = i
    · subst hj
      rw [mu_s, mu_s]
    · rw [mu_i _ _ _ _ hj, mu_i _ _ _ _ hj, mm_a rfl hk h]
  · rw [mu_t _ _ _ _ hu]
    unfold mm
    split
    · rename_i h0
      split
      · rename_i h1
        rw [mu_t _ _ _ _ (fun h3 => h (by rw [show k = j.toNat by omega]; exact h1))]
      · rfl
    · split
      · split
        · rfl
        · rw [mu_t _ _ _ _ (by omega)]
      · rfl

section VM
variable {Γ : GC} {αC : Sh} {C M : Mem} {ad0 : Ad} {Z : ZT} {R : Room} {cc : ByteArray} {nL : Nat} {ret : Option FieldType} {nm : String} {pc q : Nat} {st lv : List AV} {cs sl : Nat}
theorem VM_getI {k idx : Nat} (ki : Int) (hd : decode cc pc = .ok (.getfield idx, 3)) (hp : pc + 3 = q) (fl : FL RX7 idx 7 k) (hki : (k : Int) = ki) (hk : kX7 k = 0) (hs : (mSh k).1 = 0) (kk : ∀ z : Int, z = M ki 0 → inI z → V Γ (gα αC) ad0 Z R RX7 cc nL ret nm q ((0, z) :: st) lv (gα αC) (mm M C) cs sl) : V Γ (gα αC) ad0 Z R RX7 cc nL ret nm pc ((3, 0) :: st) lv (gα αC) (mm M C) cs sl := by
  subst hki
  refine V_getI (ci := 7) k hd hp fl (by decide) rfl rfl hk fun z hz h => kk z ?_ h
  rw [hz, mm_0 hs]
theorem VM_putI {k idx : Nat} {x : Int} (ki : Int) (hd : decode cc pc = .ok (.putfield idx, 3)) (hp : pc + 3 = q) (fl : FL RX7 idx 7 k) (hki : (k : Int) = ki) (hk : kX7 k = 0) (hs : (mSh k).1 = 0) (hfin : (TX7 k).2.2.2 = false) (kk : ∀ M1, M1 = mu M ki 0 x → V Γ (gα αC) ad0 Z R RX7 cc nL ret nm q st lv (gα αC) (mm M1 C) cs sl) : V Γ (gα αC) ad0 Z R RX7 cc nL ret nm pc ((0, x) :: (3, 0) :: st) lv (gα αC) (mm M C) cs sl := by
  subst hki
  refine V_putI (ci := 7) k hd hp fl (Or.inl hfin) (by decide) rfl rfl hk fun μ1 hμ => ?_
  rw [mm_put hs fl.2.1] at hμ
  subst hμ
  exact kk _ rfl
theorem VM_getZ {k idx : Nat} (ki : Int) (hd : decode cc pc = .ok (.getfield idx, 3)) (hp : pc + 3 = q) (fl : FL RX7 idx 7 k) (hki : (k : Int) = ki) (hk : kX7 k = 1) (hs : (mSh k).1 = 0) (kk : ∀ z : Int, z = M ki 0 → 0 ≤ z ∧ z ≤ 1 → V Γ (gα αC) ad0 Z R RX7 cc nL ret nm q ((0, z) :: st) lv (gα αC) (mm M C) cs sl) : V Γ (gα αC) ad0 Z R RX7 cc nL ret nm pc ((3, 0) :: st) lv (gα αC) (mm M C) cs sl := by
  subst hki
  refine V_getZ (ci := 7) k hd hp fl (by decide) rfl rfl hk fun z hz h => kk z ?_ h
  rw [hz, mm_0 hs]
theorem VM_putZ {k idx : Nat} {x : Int} (ki : Int) (hd : decode cc pc = .ok (.putfield idx, 3)) (hp : pc + 3 = q) (fl : FL RX7 idx 7 k) (hki : (k : Int) = ki) (hk : kX7 k = 1) (hs : (mSh k).1 = 0) (hfin : (TX7 k).2.2.2 = false) (hx : 0 ≤ x ∧ x ≤ 1) (kk : ∀ M1, M1 = mu M ki 0 x → V Γ (gα αC) ad0 Z R RX7 cc nL ret nm q st lv (gα αC) (mm M1 C) cs sl) : V Γ (gα αC) ad0 Z R RX7 cc nL ret nm pc ((0, x) :: (3, 0) :: st) lv (gα αC) (mm M C) cs sl := by
  subst hki
  refine V_putZ (ci := 7) k hd hp fl (Or.inl hfin) (by decide) rfl rfl hk hx fun μ1 hμ => ?_
  rw [mm_put hs fl.2.1] at hμ
  subst hμ
  exact kk _ rfl
theorem VM_getA {k idx : Nat} (k1 : Int) (hd : decode cc pc = .ok (.getfield idx, 3)) (hp : pc + 3 = q) (fl : FL RX7 idx 7 k) (hki : (k : Int) + 1 = k1) (hk : kX7 k = 3) (hs : (mSh k).1 ≠ 0) (kk : V Γ (gα αC) ad0 Z R RX7 cc nL ret nm q ((3, k1) :: st) lv (gα αC) (mm M C) cs sl) : V Γ (gα αC) ad0 Z R RX7 cc nL ret nm pc ((3, 0) :: st) lv (gα αC) (mm M C) cs sl := by
  refine V_getA (ci := 7) k hd hp fl (by decide) rfl rfl hk fun z hz h => ?_
  rw [mm_r hs, hki] at hz
  subst hz
  exact kk
theorem VM_iald {t i : Int} {k n : Nat} (ki : Int) (hd : decode cc pc = .ok (.iaload, 1)) (hp : pc + 1 = q) (hs : mSh k = (20, n)) (hk : k < 58) (hki : (k : Int) = ki) (ht : ki + 1 = t) (hi : 0 ≤ i ∧ i < n) (kk : ∀ z : Int, z = M ki i → inI z → V Γ (gα αC) ad0 Z R RX7 cc nL ret nm q ((0, z) :: st) lv (gα αC) (mm M C) cs sl) : V Γ (gα αC) ad0 Z R RX7 cc nL ret nm pc ((0, i) :: (3, t) :: st) lv (gα αC) (mm M C) cs sl := by
  subst hki
  refine V_iald (n := n) hd hp (by omega) ((gα_a ht.symm hk).trans hs) hi fun z hz h => kk z ?_ h
  rw [hz, mm_a ht.symm hk (by rw [hs]; exact Nat.succ_ne_zero _)]
theorem VM_zald {t i : Int} {k n : Nat} (ki : Int) (hd : decode cc pc = .ok (.baload, 1)) (hp : pc + 1 = q) (hs : mSh k = (21, n)) (hk : k < 58) (hki : (k : Int) = ki) (ht : ki + 1 = t) (hi : 0 ≤ i ∧ i < n) (kk : ∀ z : Int, z = M ki i → 0 ≤ z ∧ z ≤ 1 → V Γ (gα αC) ad0 Z R RX7 cc nL ret nm q ((0, z) :: st) lv (gα αC) (mm M C) cs sl) : V Γ (gα αC) ad0 Z R RX7 cc nL ret nm pc ((0, i) :: (3, t) :: st) lv (gα αC) (mm M C) cs sl := by
  subst hki
  refine V_zald (n := n) hd hp (by omega) ((gα_a ht.symm hk).trans hs) hi fun z hz h => kk z ?_ h
  rw [hz, mm_a ht.symm hk (by rw [hs]; exact Nat.succ_ne_zero _)]
theorem VM_iast {t i x : Int} {k n : Nat} (ki : Int) (hd : decode cc pc = .ok (.iastore, 1)) (hp : pc + 1 = q) (hs : mSh k = (20, n)) (hk : k < 58) (hki : (k : Int) = ki) (ht : ki + 1 = t) (hi : 0 ≤ i ∧ i < n) (kk : ∀ M1, M1 = mu M ki i x → V Γ (gα αC) ad0 Z R RX7 cc nL ret nm q st lv (gα αC) (mm M1 C) cs sl) : V Γ (gα αC) ad0 Z R RX7 cc nL ret nm pc ((0, x) :: (0, i) :: (3, t) :: st) lv (gα αC) (mm M C) cs sl := by
  subst hki
  refine V_iast (n := n) hd hp (by omega) ((gα_a ht.symm hk).trans hs) hi fun μ1 hμ => ?_
  rw [mm_ast ht.symm hk (by rw [hs]; exact Nat.succ_ne_zero _)] at hμ
  subst hμ
  exact kk _ rfl
theorem VM_zast {t i x : Int} {k n : Nat} (ki : Int) (hd : decode cc pc = .ok (.bastore, 1)) (hp : pc + 1 = q) (hs : mSh k = (21, n)) (hk : k < 58) (hki : (k : Int) = ki) (ht : ki + 1 = t) (hi : 0 ≤ i ∧ i < n) (hx : 0 ≤ x ∧ x ≤ 1) (kk : ∀ M1, M1 = mu M ki i x → V Γ (gα αC) ad0 Z R RX7 cc nL ret nm q st lv (gα αC) (mm M1 C) cs sl) : V Γ (gα αC) ad0 Z R RX7 cc nL ret nm pc ((0, x) :: (0, i) :: (3, t) :: st) lv (gα αC) (mm M C) cs sl := by
  subst hki
  refine V_zast (n := n) hd hp (by omega) ((gα_a ht.symm hk).trans hs) hi hx fun μ1 hμ => ?_
  rw [mm_ast ht.symm hk (by rw [hs]; exact Nat.succ_ne_zero _)] at hμ
  subst hμ
  exact kk _ rfl
/-- the end of a method of the reference -/
def mQ (αC : Sh) (C : Mem) (Q : Option AV → Mem → Prop) : Option AV → Sh → Mem → Prop := fun r α1 μ1 => α1 = gα αC ∧ ∃ M1, μ1 = mm M1 C ∧ Q r M1
def MM (Γ : GC) (y : MethodName) (cc : ByteArray) (maxL : Nat) (ret : Option FieldType) (d : Nat) (args : List AV) (αC : Sh) (C M : Mem) (Q : Option AV → Mem → Prop) : Prop := MT Γ y cc maxL ret d 0 0 ((3, 0) :: args) (gα αC) (mm M C) (mQ αC C Q)
def mI (P : Int → Mem → Prop) : Option AV → Mem → Prop := fun r M => ∃ v, r = some (0, v) ∧ P v M
def mN (P : Mem → Prop) : Option AV → Mem → Prop := fun r M => r = none ∧ P M
theorem MM_of {Γ : GC} {y : MethodName} {cc : ByteArray} {maxL k : Nat} {ret : Option FieldType} {d : Nat} {args : List AV} {αC : Sh} {C M : Mem} {Q : Option AV → Mem → Prop} (lv : List AV) (hy : plainName y.cls = true) (hc : y.cls = RX7) (hlv : lv = ent ((3, 0) :: args) ++ List.replicate k (9, 0)) (hle : (ent ((3, 0) :: args)).length + k = maxL)
    (body : ∀ ad0, V Γ (gα αC) ad0 (ZM Γ (gα αC) ad0 (mQ αC C Q) 0 0) (RM d 0 0) RX7 cc maxL ret y.name 0 [] lv (gα αC) (mm M C) 0 0) : MM Γ y cc maxL ret d args αC C M Q :=
  MT_of lv hy hlv hle (fun ad0 => by rw [hc]; exact body ad0)
section VMI
variable {d : Nat}
theorem VM_callI {idx n d1 mL : Nat} {y : MethodName} {cy : ByteArray} {ry : Option FieldType} {As stk : List AV} {P : Int → Mem → Prop} (hM : MM Γ y cy mL ry d1 As αC C M (mI P)) (hd : decode cc pc = .ok (.invokevirtual idx, 3)) (hp : pc + 3 = q) (ml : MLk RX7 idx y) (mw : MWk y cy mL ry) (im : IMk y) (sk : SLk y) (md : MDk y n) (hci : RX7 = y.cls) (hn : As.length = n) (hstk : stk = As.reverse ++ (3, 0) :: st) (hf : d1 + 1 ≤ R.frames) (hlo : 8 + (mL + 11) + 64 * d1 ≤ R.locals) (hcs : cs ≤ R.cells) (hsl : sl ≤ R.slots) (hcat : catL st ≤ 8)
    (kk : ∀ v M1, inI v → P v M1 → V Γ (gα αC) ad0 Z R RX7 cc nL ret nm q ((0, v) :: st) lv (gα αC) (mm M1 C) cs sl) : V Γ (gα αC) ad0 Z R RX7 cc nL ret nm pc stk lv (gα αC) (mm M C) cs sl := by
  refine V_invV hM hd hp ml mw im sk md (ci := 7) hci (by decide) (by decide) rfl hn hstk hf hlo hcs hsl hcat ?_
  rintro r α1 μ1 he hr ⟨rfl, M1, rfl, v, rfl, hP⟩
  exact kk v M1 (hr _ rfl) hP
theorem VM_callN {idx n d1 mL : Nat} {y : MethodName} {cy : ByteArray} {As stk : List AV} {P : Mem → Prop} (hM : MM Γ y cy mL none d1 As αC C M (mN P)) (hd : decode cc pc = .ok (.invokevirtual idx, 3)) (hp : pc + 3 = q) (ml : MLk RX7 idx y) (mw : MWk y cy mL none) (im : IMk y) (sk : SLk y) (md : MDk y n) (hci : RX7 = y.cls) (hn : As.length = n) (hstk : stk = As.reverse ++ (3, 0) :: st) (hf : d1 + 1 ≤ R.frames) (hlo : 8 + (mL + 11) + 64 * d1 ≤ R.locals) (hcs : cs ≤ R.cells) (hsl : sl ≤ R.slots) (hcat : catL st ≤ 8)
    (kk : ∀ M1, P M1 → V Γ (gα αC) ad0 Z R RX7 cc nL ret nm q st lv (gα αC) (mm M1 C) cs sl) : V Γ (gα αC) ad0 Z R RX7 cc nL ret nm pc stk lv (gα αC) (mm M C) cs sl := by
  refine V_invV hM hd hp ml mw im sk md (ci := 7) hci (by decide) (by decide) rfl hn hstk hf hlo hcs hsl hcat ?_
  rintro r α1 μ1 he hr ⟨rfl, M1, rfl, rfl, hP⟩
  exact kk M1 hP
theorem VM_iret {x : Int} {Q : Option AV → Mem → Prop} (hd : decode cc pc = .ok (.ireturn, 1)) (hq : Q (some (0, x)) M) : V Γ (gα αC) ad0 (ZM Γ (gα αC) ad0 (mQ αC C Q) 0 0) R RX7 cc nL (some .int) nm pc [(0, x)] lv (gα αC) (mm M C) 0 0 :=
  V_iret hd (Nat.le_refl _) (Nat.le_refl _) ⟨rfl, M, rfl, hq⟩
theorem VM_zret {x : Int} {Q : Option AV → Mem → Prop} (hd : decode cc pc = .ok (.ireturn, 1)) (hb : 0 ≤ x ∧ x ≤ 1) (hq : Q (some (0, x)) M) : V Γ (gα αC) ad0 (ZM Γ (gα αC) ad0 (mQ αC C Q) 0 0) R RX7 cc nL (some .boolean) nm pc [(0, x)] lv (gα αC) (mm M C) 0 0 :=
  V_zret hd hb (Nat.le_refl _) (Nat.le_refl _) ⟨rfl, M, rfl, hq⟩
theorem VM_vret {Q : Option AV → Mem → Prop} (hd : decode cc pc = .ok (.return_, 1)) (hq : Q none M) : V Γ (gα αC) ad0 (ZM Γ (gα αC) ad0 (mQ αC C Q) 0 0) R RX7 cc nL none nm pc [] lv (gα αC) (mm M C) 0 0 :=
  V_vret hd (Nat.le_refl _) (Nat.le_refl _) ⟨rfl, M, rfl, hq⟩
end VMI
end VM
