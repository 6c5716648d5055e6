/-! THE REFERENCE: its constructor -/
/-- the reference while it is made: the rows of its fields below n are there -/
def gk (n : Nat) (αC : Sh) : Sh := fun t => if t = 0 then (8, 0) else if 1 ≤ t ∧ t ≤ n then mSh (t - 1).toNat else αC t
def mk9 (n : Nat) (C : Mem) : Mem := fun t i => if t = 0 then (if 0 ≤ i ∧ i < n ∧ (mSh i.toNat).1 ≠ 0 then i + 1 else dkf 7 i) else if 1 ≤ t ∧ t ≤ 58 then 0 else C t i
def M0w (w : Int) : Mem := fun k i => if (k = 34 ∨ k = 35) ∧ 0 ≤ i ∧ i < w then -6 else 0
theorem gk_skip {n : Nat} {αC : Sh} (hC : ∀ t, 0 ≤ t → t ≤ 58 → αC t = (0, 0)) (h : mSh n = (0, 0)) (hn : n < 58) : gk n αC = gk (n + 1) αC := by
  funext t
  unfold gk
  by_cases h0 : t = 0
  · rw [if_pos h0, if_pos h0]
  · rw [if_neg h0, if_neg h0]
    by_cases h1 : 1 ≤ t ∧ t ≤ n
    · rw [if_pos h1, if_pos ⟨h1.1, by omega⟩]
    · rw [if_neg h1]
      by_cases h2 : 1 ≤ t ∧ t ≤ ((n + 1 : Nat) : Int)
      · rw [if_pos h2, show (t - 1).toNat = n by omega, h, hC t (by omega) (by omega)]
      · rw [if_neg h2]
theorem mk9_skip {n : Nat} {C : Mem} (h : mSh n = (0, 0)) : mk9 n C = mk9 (n + 1) C := by
  funext t i
  unfold mk9
  by_cases h0 : t = 0
  · rw [if_pos h0, if_pos h0]
    by_cases h1 : 0 ≤ i ∧ i < n ∧ (mSh i.toNat).1 ≠ 0
    · rw [if_pos h1, if_pos ⟨h1.1, by omega, h1.2.2⟩]
    · rw [if_neg h1]
      by_cases h2 : 0 ≤ i ∧ i < ((n + 1 : Nat) : Int) ∧ (mSh i.toNat).1 ≠ 0
      · exfalso
        by_cases h3 : i = n
        · exact h2.2.2 (by rw [show i.toNat = n by omega, h])
        · exact h1 ⟨h2.1, by omega, h2.2.2⟩
      · rw [if_neg h2]
  · rw [if_neg h0, if_neg h0]
theorem gk_s {n : Nat} {αC : Sh} {sh : Nat × Nat} {t : Int} (h : mSh n = sh) (ht : t = n + 1) : sa (gk n αC) t sh = gk (n + 1) αC := by
  subst ht
  funext u
  by_cases h0 : u = n + 1
  · subst h0
    rw [sa_s]
    unfold gk
    rw [if_neg (by omega), if_pos (by omega), ← h]
    congr 1
    omega
  · rw [sa_t _ _ _ h0]
    unfold gk
    by_cases h1 : u = 0
    · rw [if_pos h1, if_pos h1]
    · rw [if_neg h1, if_neg h1]
      by_cases h2 : 1 ≤ u ∧ u ≤ n
      · rw [if_pos h2, if_pos (by omega)]
      · rw [if_neg h2, if_neg (by omega)]
theorem mk9_s {n : Nat} {C : Mem} {t k : Int} (h : (mSh n).1 ≠ 0) (hn : n < 58) (ht : t = n + 1) (hk : k = n) : mu (mn (mk9 n C) t (fun _ => 0)) 0 k t = mk9 (n + 1) C := by
  subst ht
  subst hk
  funext u i
  by_cases h0 : u = 0
  · subst h0
    unfold mk9
    rw [if_pos rfl]
    by_cases h1 : i = n
    · subst h1
      rw [mu_s, if_pos ⟨by omega, by omega, by simpa using h⟩]
    · rw [mu_i _ _ _ _ h1, mn_t _ _ _ (by omega)]
      rw [if_pos rfl]
      by_cases h2 : 0 ≤ i ∧ i < n ∧ (mSh i.toNat).1 ≠ 0
      · rw [if_pos h2, if_pos ⟨h2.1, by omega, h2.2.2⟩]
      · rw [if_neg h2, if_neg (fun h3 => h2 ⟨h3.1, by omega, h3.2.2⟩)]
  · rw [mu_t _ _ _ _ h0]
    unfold mk9
    rw [if_neg h0]
    by_cases h1 : u = n + 1
    · subst h1
      rw [mn_s, if_pos (by omega)]
    · rw [mn_t _ _ _ h1, if_neg h0]
theorem gk_58 {αC : Sh} : gk 58 αC = gα αC := rfl
theorem V_cs {Γ : GC} {α0 : Sh} {ad0 : Ad} {Z : ZT} {R : Room} {own : String} {cc : ByteArray} {nL : Nat} {ret : Option FieldType} {nm : String} {pc : Nat} {st lv : List AV} {α : Sh} {μ : Mem} {cs sl : Nat} {c1 l1 : Nat} (h1 : cs = c1) (h2 : sl = l1) (k : V Γ α0 ad0 Z R own cc nL ret nm pc st lv α μ c1 l1) : V Γ α0 ad0 Z R own cc nL ret nm pc st lv α μ cs sl := by
  subst h1
  subst h2
  exact k
theorem mSh_big : ∀ n : Nat, mSh (n + 58) = (0, 0) := fun _ => rfl
theorem mSh_k : ∀ n : Nat, (mSh n).1 = 0 → dk (cK 7 n) = 0 := by
  have h : ∀ n, n < 58 → (mSh n).1 = 0 → dk (cK 7 n) = 0 := by decide
  intro n hn
  by_cases h1 : n < 58
  · exact h n h1 hn
  · obtain ⟨m, rfl⟩ : ∃ m, n = m + 58 := ⟨n - 58, by omega⟩
    rfl
theorem mk9_58 {C : Mem} : mk9 58 C = mm (M0w 0) C := by
  have h0 : ∀ k i, M0w 0 k i = 0 := fun k i => if_neg (fun h => by omega)
  funext t i
  unfold mk9 mm
  by_cases ht : t = 0
  · rw [if_pos ht, if_pos ht]
    by_cases h1 : (mSh i.toNat).1 = 0
    · rw [if_neg (fun h => h.2.2 h1), if_pos h1, h0]
      exact mSh_k _ h1
    · rw [if_neg h1, if_pos]
      refine ⟨?_, ?_, h1⟩
      · apply Classical.byContradiction
        intro h2
        exact h1 (by rw [show i.toNat = 0 by omega]; rfl)
      · apply Classical.byContradiction
        intro h2
        obtain ⟨m, hm⟩ : ∃ m, i.toNat = m + 58 := ⟨i.toNat - 58, by omega⟩
        exact h1 (by rw [hm]; rfl)
  · rw [if_neg ht, if_neg ht]
    by_cases h1 : 1 ≤ t ∧ t ≤ 58
    · rw [if_pos h1, if_pos h1, h0, ite_self]
    · rw [if_neg h1, if_neg h1]
theorem M0w_s {w : Int} (h : 0 ≤ w) : mu (mu (M0w w) 34 w (-6)) 35 w (-6) = M0w (w + 1) := by
  funext k i
  unfold mu M0w
  by_cases h1 : k = 35 ∧ i = w
  · rw [if_pos h1, if_pos (by omega)]
  · rw [if_neg h1]
    by_cases h2 : k = 34 ∧ i = w
    · rw [if_pos h2, if_pos (by omega)]
    · rw [if_neg h2]
      by_cases h3 : (k = 34 ∨ k = 35) ∧ 0 ≤ i ∧ i < w
      · rw [if_pos h3, if_pos (by omega)]
      · rw [if_neg h3, if_neg (by omega)]
set_option maxRecDepth 20000 in
theorem tX7_init {Γ : GC} {αC : Sh} {C : Mem} (hC : ∀ t, 0 ≤ t → t ≤ 58 → αC t = (0, 0)) : MT Γ yX7_init cX7_init 2 none 1 39 22559 [(3, 0)] (sa αC 0 (8, 0)) (mn C 0 (dkf 7)) (QN fun α1 μ1 => α1 = gα αC ∧ μ1 = mm (M0w 12) C) := by
  have ea : sa αC 0 (8, 0) = gk 0 αC := by
    funext t
    by_cases h : t = 0
    · subst h; rfl
    · rw [sa_t _ _ _ h]; unfold gk; rw [if_neg h, if_neg (by omega)]
  obtain ⟨α0, eα0⟩ : ∃ α0, α0 = gk 0 αC := ⟨_, rfl⟩
  rw [ea, ← eα0]
  refine MT_of (k := 1) [(3, 0), (9, 0)] pn_X7_init rfl rfl (fun ad0 => ?_)
  suffices h : V Γ α0 ad0 (ZM Γ α0 ad0 (QN fun α1 μ1 => α1 = gα αC ∧ μ1 = mm (M0w 12) C) 39 22559) (RM 1 39 22559) RX7 cX7_init 2 none yX7_init.name 0 [] [(3, 0), (9, 0)] (gk 0 αC) (mn C 0 (dkf 7)) 0 0 by rw [← eα0] at h; exact h
  refine V_mch (mk9 0 C) (fun t ht => ?_) ?_
  · funext i
    unfold mk9
    by_cases h : t = 0
    · subst h; rw [if_pos rfl, if_neg (by omega), mn_s]
    · rw [if_neg h, mn_t _ _ _ h, if_neg]
      intro h1
      apply ht
      unfold gk
      rw [if_neg h, if_neg (by omega), hC t (by omega) (by omega)]
  have loop : ∀ w : Int, (0 ≤ w ∧ w ≤ 12) → V Γ α0 ad0 (ZM Γ α0 ad0 (QN fun α1 μ1 => α1 = gα αC ∧ μ1 = mm (M0w 12) C) 39 22559) (RM 1 39 22559) RX7 cX7_init 2 none yX7_init.name 335 [] [(3, 0), (0, w)] (gα αC) (mm (M0w w) C) 39 22559 := by
    refine loop1 _ (fun w => (12 - w).toNat) _ ?_
    rintro w ⟨h1, h2⟩ ih
    refine V_iload_n (q := 336) dX7_init_335 rfl rfl rfl ?_
    refine V_bipush (q := 338) dX7_init_336 rfl (by decide) ?_
    refine V_icmp_ge (q := 341) (tgt := 363) dX7_init_338 (by decide) rfl (fun c => ?_) (fun c => ?_)
    · obtain rfl : w = 12 := by omega
      exact V_vret dX7_init_363 (Nat.le_refl _) (Nat.le_refl _) ⟨rfl, rfl, rfl⟩
    · refine V_aload_n (q := 342) dX7_init_341 rfl rfl rfl ?_
      refine V_getA (ci := 7) (q := 345) 34 dX7_init_342 rfl flX7_101 (by decide) rfl rfl rfl (fun z ez rz => ?_)
      obtain rfl : z = 35 := ez.trans (mm_r (k := 34) (by decide))
      refine V_iload_n (q := 346) dX7_init_345 rfl rfl rfl ?_
      refine V_bipush (q := 348) dX7_init_346 rfl (by decide) ?_
      refine V_iast (q := 349) (n := 12) dX7_init_348 rfl (by decide) (gα_a (k := 34) rfl (by decide)) (by omega) (fun M348 eM348 => ?_)
      rw [mm_ast (k := 34) (t := 35) rfl (by decide) (by decide)] at eM348
      refine V_aload_n (q := 350) dX7_init_349 rfl rfl rfl ?_
      refine V_getA (ci := 7) (q := 353) 35 dX7_init_350 rfl flX7_104 (by decide) rfl rfl rfl (fun z ez rz => ?_)
      rw [eM348] at ez
      obtain rfl : z = 36 := ez.trans (mm_r (k := 35) (by decide))
      refine V_iload_n (q := 354) dX7_init_353 rfl rfl rfl ?_
      refine V_bipush (q := 356) dX7_init_354 rfl (by decide) ?_
      refine V_iast (q := 357) (n := 12) dX7_init_356 rfl (by decide) (gα_a (k := 35) rfl (by decide)) (by omega) (fun M356 eM356 => ?_)
      rw [eM348, mm_ast (k := 35) (t := 36) rfl (by decide) (by decide)] at eM356
      refine V_iinc (q := 360) dX7_init_357 rfl rfl (by decide) rfl (by omega) (fun z1 l1 ez1 hl1 => ?_)
      obtain rfl : l1 = [(3, 0), (0, z1)] := hl1
      refine V_goto (tgt := 335) dX7_init_360 (by decide) ?_
      rw [eM356, show ((34 : Nat) : Int) = 34 from rfl, show ((35 : Nat) : Int) = 35 from rfl, M0w_s h1, ← ez1]
      exact ih z1 (by omega) (by omega)
  refine V_aload_n (q := 1) dX7_init_0 rfl rfl rfl ?_
  refine V_objInit (q := 4) dX7_init_1 rfl mlX7_1 (by decide) (by decide) (by decide) ?_
  rw [gk_skip (n := 0) hC rfl (by decide), mk9_skip (n := 0) rfl]
  refine V_aload_n (q := 5) dX7_init_4 rfl rfl rfl ?_
  refine V_bipush (q := 7) dX7_init_5 rfl (by decide) ?_
  refine V_newZ (q := 9) (n := 40) 2 dX7_init_7 rfl rfl (by decide) ar_793 (show (gk 1 αC 2).1 = 0 by unfold gk; rw [if_neg (by omega), if_neg (by omega), hC _ (by omega) (by omega)]) (by decide) (Nat.le_of_ble_eq_true rfl) (Nat.le_of_ble_eq_true rfl) (fun A1 N1 eA1 eN1 => ?_)
  obtain rfl : A1 = gk 2 αC := eA1.trans (gk_s rfl (by decide))
  refine V_putA (q := 12) 1 dX7_init_9 rfl flX7_7 (Or.inr ⟨rfl, rfl, rfl⟩) (by decide) (show (gk 2 αC 0).1 = 7 + 1 from rfl) rfl rfl (fun O1 eO1 => ?_)
  rw [eN1, mk9_s (n := 1) (by decide) (by decide) (by decide) (by decide)] at eO1
  subst eO1
  refine V_aload_n (q := 13) dX7_init_12 rfl rfl rfl ?_
  refine V_bipush (q := 15) dX7_init_13 rfl (by decide) ?_
  refine V_newZ (q := 17) (n := 40) 3 dX7_init_15 rfl rfl (by decide) ar_793 (show (gk 2 αC 3).1 = 0 by unfold gk; rw [if_neg (by omega), if_neg (by omega), hC _ (by omega) (by omega)]) (by decide) (Nat.le_of_ble_eq_true rfl) (Nat.le_of_ble_eq_true rfl) (fun A2 N2 eA2 eN2 => ?_)
  obtain rfl : A2 = gk 3 αC := eA2.trans (gk_s rfl (by decide))
  refine V_putA (q := 20) 2 dX7_init_17 rfl flX7_13 (Or.inr ⟨rfl, rfl, rfl⟩) (by decide) (show (gk 3 αC 0).1 = 7 + 1 from rfl) rfl rfl (fun O2 eO2 => ?_)
  rw [eN2, mk9_s (n := 2) (by decide) (by decide) (by decide) (by decide)] at eO2
  subst eO2
  refine V_aload_n (q := 21) dX7_init_20 rfl rfl rfl ?_
  refine V_bipush (q := 23) dX7_init_21 rfl (by decide) ?_
  refine V_newI (q := 25) (n := 40) 4 dX7_init_23 rfl rfl (by decide) ar_106 (show (gk 3 αC 4).1 = 0 by unfold gk; rw [if_neg (by omega), if_neg (by omega), hC _ (by omega) (by omega)]) (by decide) (Nat.le_of_ble_eq_true rfl) (Nat.le_of_ble_eq_true rfl) (fun A3 N3 eA3 eN3 => ?_)
  obtain rfl : A3 = gk 4 αC := eA3.trans (gk_s rfl (by decide))
  refine V_putA (q := 28) 3 dX7_init_25 rfl flX7_16 (Or.inr ⟨rfl, rfl, rfl⟩) (by decide) (show (gk 4 αC 0).1 = 7 + 1 from rfl) rfl rfl (fun O3 eO3 => ?_)
  rw [eN3, mk9_s (n := 3) (by decide) (by decide) (by decide) (by decide)] at eO3
  subst eO3
  refine V_aload_n (q := 29) dX7_init_28 rfl rfl rfl ?_
  refine V_bipush (q := 31) dX7_init_29 rfl (by decide) ?_
  refine V_newI (q := 33) (n := 40) 5 dX7_init_31 rfl rfl (by decide) ar_106 (show (gk 4 αC 5).1 = 0 by unfold gk; rw [if_neg (by omega), if_neg (by omega), hC _ (by omega) (by omega)]) (by decide) (Nat.le_of_ble_eq_true rfl) (Nat.le_of_ble_eq_true rfl) (fun A4 N4 eA4 eN4 => ?_)
  obtain rfl : A4 = gk 5 αC := eA4.trans (gk_s rfl (by decide))
  refine V_putA (q := 36) 4 dX7_init_33 rfl flX7_20 (Or.inr ⟨rfl, rfl, rfl⟩) (by decide) (show (gk 5 αC 0).1 = 7 + 1 from rfl) rfl rfl (fun O4 eO4 => ?_)
  rw [eN4, mk9_s (n := 4) (by decide) (by decide) (by decide) (by decide)] at eO4
  subst eO4
  refine V_aload_n (q := 37) dX7_init_36 rfl rfl rfl ?_
  refine V_sipush (q := 40) dX7_init_37 rfl (by decide) ?_
  refine V_newI (q := 42) (n := 160) 6 dX7_init_40 rfl rfl (by decide) ar_106 (show (gk 5 αC 6).1 = 0 by unfold gk; rw [if_neg (by omega), if_neg (by omega), hC _ (by omega) (by omega)]) (by decide) (Nat.le_of_ble_eq_true rfl) (Nat.le_of_ble_eq_true rfl) (fun A5 N5 eA5 eN5 => ?_)
  obtain rfl : A5 = gk 6 αC := eA5.trans (gk_s rfl (by decide))
  refine V_putA (q := 45) 5 dX7_init_42 rfl flX7_23 (Or.inr ⟨rfl, rfl, rfl⟩) (by decide) (show (gk 6 αC 0).1 = 7 + 1 from rfl) rfl rfl (fun O5 eO5 => ?_)
  rw [eN5, mk9_s (n := 5) (by decide) (by decide) (by decide) (by decide)] at eO5
  subst eO5
  refine V_aload_n (q := 46) dX7_init_45 rfl rfl rfl ?_
  refine V_bipush (q := 48) dX7_init_46 rfl (by decide) ?_
  refine V_newI (q := 50) (n := 40) 7 dX7_init_48 rfl rfl (by decide) ar_106 (show (gk 6 αC 7).1 = 0 by unfold gk; rw [if_neg (by omega), if_neg (by omega), hC _ (by omega) (by omega)]) (by decide) (Nat.le_of_ble_eq_true rfl) (Nat.le_of_ble_eq_true rfl) (fun A6 N6 eA6 eN6 => ?_)
  obtain rfl : A6 = gk 7 αC := eA6.trans (gk_s rfl (by decide))
  refine V_putA (q := 53) 6 dX7_init_50 rfl flX7_26 (Or.inr ⟨rfl, rfl, rfl⟩) (by decide) (show (gk 7 αC 0).1 = 7 + 1 from rfl) rfl rfl (fun O6 eO6 => ?_)
  rw [eN6, mk9_s (n := 6) (by decide) (by decide) (by decide) (by decide)] at eO6
  subst eO6
  refine V_aload_n (q := 54) dX7_init_53 rfl rfl rfl ?_
  refine V_sipush (q := 57) dX7_init_54 rfl (by decide) ?_
  refine V_newI (q := 59) (n := 240) 8 dX7_init_57 rfl rfl (by decide) ar_106 (show (gk 7 αC 8).1 = 0 by unfold gk; rw [if_neg (by omega), if_neg (by omega), hC _ (by omega) (by omega)]) (by decide) (Nat.le_of_ble_eq_true rfl) (Nat.le_of_ble_eq_true rfl) (fun A7 N7 eA7 eN7 => ?_)
  obtain rfl : A7 = gk 8 αC := eA7.trans (gk_s rfl (by decide))
  refine V_putA (q := 62) 7 dX7_init_59 rfl flX7_29 (Or.inr ⟨rfl, rfl, rfl⟩) (by decide) (show (gk 8 αC 0).1 = 7 + 1 from rfl) rfl rfl (fun O7 eO7 => ?_)
  rw [eN7, mk9_s (n := 7) (by decide) (by decide) (by decide) (by decide)] at eO7
  subst eO7
  refine V_aload_n (q := 63) dX7_init_62 rfl rfl rfl ?_
  refine V_sipush (q := 66) dX7_init_63 rfl (by decide) ?_
  refine V_newZ (q := 68) (n := 240) 9 dX7_init_66 rfl rfl (by decide) ar_793 (show (gk 8 αC 9).1 = 0 by unfold gk; rw [if_neg (by omega), if_neg (by omega), hC _ (by omega) (by omega)]) (by decide) (Nat.le_of_ble_eq_true rfl) (Nat.le_of_ble_eq_true rfl) (fun A8 N8 eA8 eN8 => ?_)
  obtain rfl : A8 = gk 9 αC := eA8.trans (gk_s rfl (by decide))
  refine V_putA (q := 71) 8 dX7_init_68 rfl flX7_32 (Or.inr ⟨rfl, rfl, rfl⟩) (by decide) (show (gk 9 αC 0).1 = 7 + 1 from rfl) rfl rfl (fun O8 eO8 => ?_)
  rw [eN8, mk9_s (n := 8) (by decide) (by decide) (by decide) (by decide)] at eO8
  subst eO8
  refine V_aload_n (q := 72) dX7_init_71 rfl rfl rfl ?_
  refine V_sipush (q := 75) dX7_init_72 rfl (by decide) ?_
  refine V_newI (q := 77) (n := 240) 10 dX7_init_75 rfl rfl (by decide) ar_106 (show (gk 9 αC 10).1 = 0 by unfold gk; rw [if_neg (by omega), if_neg (by omega), hC _ (by omega) (by omega)]) (by decide) (Nat.le_of_ble_eq_true rfl) (Nat.le_of_ble_eq_true rfl) (fun A9 N9 eA9 eN9 => ?_)
  obtain rfl : A9 = gk 10 αC := eA9.trans (gk_s rfl (by decide))
  refine V_putA (q := 80) 9 dX7_init_77 rfl flX7_35 (Or.inr ⟨rfl, rfl, rfl⟩) (by decide) (show (gk 10 αC 0).1 = 7 + 1 from rfl) rfl rfl (fun O9 eO9 => ?_)
  rw [eN9, mk9_s (n := 9) (by decide) (by decide) (by decide) (by decide)] at eO9
  subst eO9
  refine V_aload_n (q := 81) dX7_init_80 rfl rfl rfl ?_
  refine V_bipush (q := 83) dX7_init_81 rfl (by decide) ?_
  refine V_newI (q := 85) (n := 40) 11 dX7_init_83 rfl rfl (by decide) ar_106 (show (gk 10 αC 11).1 = 0 by unfold gk; rw [if_neg (by omega), if_neg (by omega), hC _ (by omega) (by omega)]) (by decide) (Nat.le_of_ble_eq_true rfl) (Nat.le_of_ble_eq_true rfl) (fun A10 N10 eA10 eN10 => ?_)
  obtain rfl : A10 = gk 11 αC := eA10.trans (gk_s rfl (by decide))
  refine V_putA (q := 88) 10 dX7_init_85 rfl flX7_38 (Or.inr ⟨rfl, rfl, rfl⟩) (by decide) (show (gk 11 αC 0).1 = 7 + 1 from rfl) rfl rfl (fun O10 eO10 => ?_)
  rw [eN10, mk9_s (n := 10) (by decide) (by decide) (by decide) (by decide)] at eO10
  subst eO10
  refine V_aload_n (q := 89) dX7_init_88 rfl rfl rfl ?_
  refine V_sipush (q := 92) dX7_init_89 rfl (by decide) ?_
  refine V_newI (q := 94) (n := 160) 12 dX7_init_92 rfl rfl (by decide) ar_106 (show (gk 11 αC 12).1 = 0 by unfold gk; rw [if_neg (by omega), if_neg (by omega), hC _ (by omega) (by omega)]) (by decide) (Nat.le_of_ble_eq_true rfl) (Nat.le_of_ble_eq_true rfl) (fun A11 N11 eA11 eN11 => ?_)
  obtain rfl : A11 = gk 12 αC := eA11.trans (gk_s rfl (by decide))
  refine V_putA (q := 97) 11 dX7_init_94 rfl flX7_41 (Or.inr ⟨rfl, rfl, rfl⟩) (by decide) (show (gk 12 αC 0).1 = 7 + 1 from rfl) rfl rfl (fun O11 eO11 => ?_)
  rw [eN11, mk9_s (n := 11) (by decide) (by decide) (by decide) (by decide)] at eO11
  subst eO11
  refine V_aload_n (q := 98) dX7_init_97 rfl rfl rfl ?_
  refine V_sipush (q := 101) dX7_init_98 rfl (by decide) ?_
  refine V_newI (q := 103) (n := 200) 13 dX7_init_101 rfl rfl (by decide) ar_106 (show (gk 12 αC 13).1 = 0 by unfold gk; rw [if_neg (by omega), if_neg (by omega), hC _ (by omega) (by omega)]) (by decide) (Nat.le_of_ble_eq_true rfl) (Nat.le_of_ble_eq_true rfl) (fun A12 N12 eA12 eN12 => ?_)
  obtain rfl : A12 = gk 13 αC := eA12.trans (gk_s rfl (by decide))
  refine V_putA (q := 106) 12 dX7_init_103 rfl flX7_44 (Or.inr ⟨rfl, rfl, rfl⟩) (by decide) (show (gk 13 αC 0).1 = 7 + 1 from rfl) rfl rfl (fun O12 eO12 => ?_)
  rw [eN12, mk9_s (n := 12) (by decide) (by decide) (by decide) (by decide)] at eO12
  subst eO12
  refine V_aload_n (q := 107) dX7_init_106 rfl rfl rfl ?_
  refine V_sipush (q := 110) dX7_init_107 rfl (by decide) ?_
  refine V_newI (q := 112) (n := 2400) 14 dX7_init_110 rfl rfl (by decide) ar_106 (show (gk 13 αC 14).1 = 0 by unfold gk; rw [if_neg (by omega), if_neg (by omega), hC _ (by omega) (by omega)]) (by decide) (Nat.le_of_ble_eq_true rfl) (Nat.le_of_ble_eq_true rfl) (fun A13 N13 eA13 eN13 => ?_)
  obtain rfl : A13 = gk 14 αC := eA13.trans (gk_s rfl (by decide))
  refine V_putA (q := 115) 13 dX7_init_112 rfl flX7_47 (Or.inr ⟨rfl, rfl, rfl⟩) (by decide) (show (gk 14 αC 0).1 = 7 + 1 from rfl) rfl rfl (fun O13 eO13 => ?_)
  rw [eN13, mk9_s (n := 13) (by decide) (by decide) (by decide) (by decide)] at eO13
  subst eO13
  refine V_aload_n (q := 116) dX7_init_115 rfl rfl rfl ?_
  refine V_sipush (q := 119) dX7_init_116 rfl (by decide) ?_
  refine V_newI (q := 121) (n := 2400) 15 dX7_init_119 rfl rfl (by decide) ar_106 (show (gk 14 αC 15).1 = 0 by unfold gk; rw [if_neg (by omega), if_neg (by omega), hC _ (by omega) (by omega)]) (by decide) (Nat.le_of_ble_eq_true rfl) (Nat.le_of_ble_eq_true rfl) (fun A14 N14 eA14 eN14 => ?_)
  obtain rfl : A14 = gk 15 αC := eA14.trans (gk_s rfl (by decide))
  refine V_putA (q := 124) 14 dX7_init_121 rfl flX7_50 (Or.inr ⟨rfl, rfl, rfl⟩) (by decide) (show (gk 15 αC 0).1 = 7 + 1 from rfl) rfl rfl (fun O14 eO14 => ?_)
  rw [eN14, mk9_s (n := 14) (by decide) (by decide) (by decide) (by decide)] at eO14
  subst eO14
  refine V_aload_n (q := 125) dX7_init_124 rfl rfl rfl ?_
  refine V_sipush (q := 128) dX7_init_125 rfl (by decide) ?_
  refine V_newI (q := 130) (n := 2400) 16 dX7_init_128 rfl rfl (by decide) ar_106 (show (gk 15 αC 16).1 = 0 by unfold gk; rw [if_neg (by omega), if_neg (by omega), hC _ (by omega) (by omega)]) (by decide) (Nat.le_of_ble_eq_true rfl) (Nat.le_of_ble_eq_true rfl) (fun A15 N15 eA15 eN15 => ?_)
  obtain rfl : A15 = gk 16 αC := eA15.trans (gk_s rfl (by decide))
  refine V_putA (q := 133) 15 dX7_init_130 rfl flX7_53 (Or.inr ⟨rfl, rfl, rfl⟩) (by decide) (show (gk 16 αC 0).1 = 7 + 1 from rfl) rfl rfl (fun O15 eO15 => ?_)
  rw [eN15, mk9_s (n := 15) (by decide) (by decide) (by decide) (by decide)] at eO15
  subst eO15
  refine V_aload_n (q := 134) dX7_init_133 rfl rfl rfl ?_
  refine V_sipush (q := 137) dX7_init_134 rfl (by decide) ?_
  refine V_newI (q := 139) (n := 2400) 17 dX7_init_137 rfl rfl (by decide) ar_106 (show (gk 16 αC 17).1 = 0 by unfold gk; rw [if_neg (by omega), if_neg (by omega), hC _ (by omega) (by omega)]) (by decide) (Nat.le_of_ble_eq_true rfl) (Nat.le_of_ble_eq_true rfl) (fun A16 N16 eA16 eN16 => ?_)
  obtain rfl : A16 = gk 17 αC := eA16.trans (gk_s rfl (by decide))
  refine V_putA (q := 142) 16 dX7_init_139 rfl flX7_56 (Or.inr ⟨rfl, rfl, rfl⟩) (by decide) (show (gk 17 αC 0).1 = 7 + 1 from rfl) rfl rfl (fun O16 eO16 => ?_)
  rw [eN16, mk9_s (n := 16) (by decide) (by decide) (by decide) (by decide)] at eO16
  subst eO16
  rw [gk_skip (n := 17) hC rfl (by decide), mk9_skip (n := 17) rfl]
  refine V_aload_n (q := 143) dX7_init_142 rfl rfl rfl ?_
  refine V_sipush (q := 146) dX7_init_143 rfl (by decide) ?_
  refine V_newI (q := 148) (n := 400) 19 dX7_init_146 rfl rfl (by decide) ar_106 (show (gk 18 αC 19).1 = 0 by unfold gk; rw [if_neg (by omega), if_neg (by omega), hC _ (by omega) (by omega)]) (by decide) (Nat.le_of_ble_eq_true rfl) (Nat.le_of_ble_eq_true rfl) (fun A18 N18 eA18 eN18 => ?_)
  obtain rfl : A18 = gk 19 αC := eA18.trans (gk_s rfl (by decide))
  refine V_putA (q := 151) 18 dX7_init_148 rfl flX7_59 (Or.inr ⟨rfl, rfl, rfl⟩) (by decide) (show (gk 19 αC 0).1 = 7 + 1 from rfl) rfl rfl (fun O18 eO18 => ?_)
  rw [eN18, mk9_s (n := 18) (by decide) (by decide) (by decide) (by decide)] at eO18
  subst eO18
  refine V_aload_n (q := 152) dX7_init_151 rfl rfl rfl ?_
  refine V_bipush (q := 154) dX7_init_152 rfl (by decide) ?_
  refine V_newZ (q := 156) (n := 40) 20 dX7_init_154 rfl rfl (by decide) ar_793 (show (gk 19 αC 20).1 = 0 by unfold gk; rw [if_neg (by omega), if_neg (by omega), hC _ (by omega) (by omega)]) (by decide) (Nat.le_of_ble_eq_true rfl) (Nat.le_of_ble_eq_true rfl) (fun A19 N19 eA19 eN19 => ?_)
  obtain rfl : A19 = gk 20 αC := eA19.trans (gk_s rfl (by decide))
  refine V_putA (q := 159) 19 dX7_init_156 rfl flX7_62 (Or.inr ⟨rfl, rfl, rfl⟩) (by decide) (show (gk 20 αC 0).1 = 7 + 1 from rfl) rfl rfl (fun O19 eO19 => ?_)
  rw [eN19, mk9_s (n := 19) (by decide) (by decide) (by decide) (by decide)] at eO19
  subst eO19
  refine V_aload_n (q := 160) dX7_init_159 rfl rfl rfl ?_
  refine V_bipush (q := 162) dX7_init_160 rfl (by decide) ?_
  refine V_newI (q := 164) (n := 41) 21 dX7_init_162 rfl rfl (by decide) ar_106 (show (gk 20 αC 21).1 = 0 by unfold gk; rw [if_neg (by omega), if_neg (by omega), hC _ (by omega) (by omega)]) (by decide) (Nat.le_of_ble_eq_true rfl) (Nat.le_of_ble_eq_true rfl) (fun A20 N20 eA20 eN20 => ?_)
  obtain rfl : A20 = gk 21 αC := eA20.trans (gk_s rfl (by decide))
  refine V_putA (q := 167) 20 dX7_init_164 rfl flX7_65 (Or.inr ⟨rfl, rfl, rfl⟩) (by decide) (show (gk 21 αC 0).1 = 7 + 1 from rfl) rfl rfl (fun O20 eO20 => ?_)
  rw [eN20, mk9_s (n := 20) (by decide) (by decide) (by decide) (by decide)] at eO20
  subst eO20
  rw [gk_skip (n := 21) hC rfl (by decide), mk9_skip (n := 21) rfl]
  refine V_aload_n (q := 168) dX7_init_167 rfl rfl rfl ?_
  refine V_bipush (q := 170) dX7_init_168 rfl (by decide) ?_
  refine V_newZ (q := 172) (n := 40) 23 dX7_init_170 rfl rfl (by decide) ar_793 (show (gk 22 αC 23).1 = 0 by unfold gk; rw [if_neg (by omega), if_neg (by omega), hC _ (by omega) (by omega)]) (by decide) (Nat.le_of_ble_eq_true rfl) (Nat.le_of_ble_eq_true rfl) (fun A22 N22 eA22 eN22 => ?_)
  obtain rfl : A22 = gk 23 αC := eA22.trans (gk_s rfl (by decide))
  refine V_putA (q := 175) 22 dX7_init_172 rfl flX7_68 (Or.inr ⟨rfl, rfl, rfl⟩) (by decide) (show (gk 23 αC 0).1 = 7 + 1 from rfl) rfl rfl (fun O22 eO22 => ?_)
  rw [eN22, mk9_s (n := 22) (by decide) (by decide) (by decide) (by decide)] at eO22
  subst eO22
  refine V_aload_n (q := 176) dX7_init_175 rfl rfl rfl ?_
  refine V_sipush (q := 179) dX7_init_176 rfl (by decide) ?_
  refine V_newZ (q := 181) (n := 400) 24 dX7_init_179 rfl rfl (by decide) ar_793 (show (gk 23 αC 24).1 = 0 by unfold gk; rw [if_neg (by omega), if_neg (by omega), hC _ (by omega) (by omega)]) (by decide) (Nat.le_of_ble_eq_true rfl) (Nat.le_of_ble_eq_true rfl) (fun A23 N23 eA23 eN23 => ?_)
  obtain rfl : A23 = gk 24 αC := eA23.trans (gk_s rfl (by decide))
  refine V_putA (q := 184) 23 dX7_init_181 rfl flX7_71 (Or.inr ⟨rfl, rfl, rfl⟩) (by decide) (show (gk 24 αC 0).1 = 7 + 1 from rfl) rfl rfl (fun O23 eO23 => ?_)
  rw [eN23, mk9_s (n := 23) (by decide) (by decide) (by decide) (by decide)] at eO23
  subst eO23
  refine V_aload_n (q := 185) dX7_init_184 rfl rfl rfl ?_
  refine V_bipush (q := 187) dX7_init_185 rfl (by decide) ?_
  refine V_newI (q := 189) (n := 60) 25 dX7_init_187 rfl rfl (by decide) ar_106 (show (gk 24 αC 25).1 = 0 by unfold gk; rw [if_neg (by omega), if_neg (by omega), hC _ (by omega) (by omega)]) (by decide) (Nat.le_of_ble_eq_true rfl) (Nat.le_of_ble_eq_true rfl) (fun A24 N24 eA24 eN24 => ?_)
  obtain rfl : A24 = gk 25 αC := eA24.trans (gk_s rfl (by decide))
  refine V_putA (q := 192) 24 dX7_init_189 rfl flX7_74 (Or.inr ⟨rfl, rfl, rfl⟩) (by decide) (show (gk 25 αC 0).1 = 7 + 1 from rfl) rfl rfl (fun O24 eO24 => ?_)
  rw [eN24, mk9_s (n := 24) (by decide) (by decide) (by decide) (by decide)] at eO24
  subst eO24
  rw [gk_skip (n := 25) hC rfl (by decide), mk9_skip (n := 25) rfl]
  refine V_aload_n (q := 193) dX7_init_192 rfl rfl rfl ?_
  refine V_bipush (q := 195) dX7_init_193 rfl (by decide) ?_
  refine V_newZ (q := 197) (n := 40) 27 dX7_init_195 rfl rfl (by decide) ar_793 (show (gk 26 αC 27).1 = 0 by unfold gk; rw [if_neg (by omega), if_neg (by omega), hC _ (by omega) (by omega)]) (by decide) (Nat.le_of_ble_eq_true rfl) (Nat.le_of_ble_eq_true rfl) (fun A26 N26 eA26 eN26 => ?_)
  obtain rfl : A26 = gk 27 αC := eA26.trans (gk_s rfl (by decide))
  refine V_putA (q := 200) 26 dX7_init_197 rfl flX7_77 (Or.inr ⟨rfl, rfl, rfl⟩) (by decide) (show (gk 27 αC 0).1 = 7 + 1 from rfl) rfl rfl (fun O26 eO26 => ?_)
  rw [eN26, mk9_s (n := 26) (by decide) (by decide) (by decide) (by decide)] at eO26
  subst eO26
  refine V_aload_n (q := 201) dX7_init_200 rfl rfl rfl ?_
  refine V_sipush (q := 204) dX7_init_201 rfl (by decide) ?_
  refine V_newI (q := 206) (n := 1700) 28 dX7_init_204 rfl rfl (by decide) ar_106 (show (gk 27 αC 28).1 = 0 by unfold gk; rw [if_neg (by omega), if_neg (by omega), hC _ (by omega) (by omega)]) (by decide) (Nat.le_of_ble_eq_true rfl) (Nat.le_of_ble_eq_true rfl) (fun A27 N27 eA27 eN27 => ?_)
  obtain rfl : A27 = gk 28 αC := eA27.trans (gk_s rfl (by decide))
  refine V_putA (q := 209) 27 dX7_init_206 rfl flX7_80 (Or.inr ⟨rfl, rfl, rfl⟩) (by decide) (show (gk 28 αC 0).1 = 7 + 1 from rfl) rfl rfl (fun O27 eO27 => ?_)
  rw [eN27, mk9_s (n := 27) (by decide) (by decide) (by decide) (by decide)] at eO27
  subst eO27
  refine V_aload_n (q := 210) dX7_init_209 rfl rfl rfl ?_
  refine V_sipush (q := 213) dX7_init_210 rfl (by decide) ?_
  refine V_newI (q := 215) (n := 520) 29 dX7_init_213 rfl rfl (by decide) ar_106 (show (gk 28 αC 29).1 = 0 by unfold gk; rw [if_neg (by omega), if_neg (by omega), hC _ (by omega) (by omega)]) (by decide) (Nat.le_of_ble_eq_true rfl) (Nat.le_of_ble_eq_true rfl) (fun A28 N28 eA28 eN28 => ?_)
  obtain rfl : A28 = gk 29 αC := eA28.trans (gk_s rfl (by decide))
  refine V_putA (q := 218) 28 dX7_init_215 rfl flX7_83 (Or.inr ⟨rfl, rfl, rfl⟩) (by decide) (show (gk 29 αC 0).1 = 7 + 1 from rfl) rfl rfl (fun O28 eO28 => ?_)
  rw [eN28, mk9_s (n := 28) (by decide) (by decide) (by decide) (by decide)] at eO28
  subst eO28
  refine V_aload_n (q := 219) dX7_init_218 rfl rfl rfl ?_
  refine V_sipush (q := 222) dX7_init_219 rfl (by decide) ?_
  refine V_newI (q := 224) (n := 3120) 30 dX7_init_222 rfl rfl (by decide) ar_106 (show (gk 29 αC 30).1 = 0 by unfold gk; rw [if_neg (by omega), if_neg (by omega), hC _ (by omega) (by omega)]) (by decide) (Nat.le_of_ble_eq_true rfl) (Nat.le_of_ble_eq_true rfl) (fun A29 N29 eA29 eN29 => ?_)
  obtain rfl : A29 = gk 30 αC := eA29.trans (gk_s rfl (by decide))
  refine V_putA (q := 227) 29 dX7_init_224 rfl flX7_86 (Or.inr ⟨rfl, rfl, rfl⟩) (by decide) (show (gk 30 αC 0).1 = 7 + 1 from rfl) rfl rfl (fun O29 eO29 => ?_)
  rw [eN29, mk9_s (n := 29) (by decide) (by decide) (by decide) (by decide)] at eO29
  subst eO29
  refine V_aload_n (q := 228) dX7_init_227 rfl rfl rfl ?_
  refine V_bipush (q := 230) dX7_init_228 rfl (by decide) ?_
  refine V_newI (q := 232) (n := 13) 31 dX7_init_230 rfl rfl (by decide) ar_106 (show (gk 30 αC 31).1 = 0 by unfold gk; rw [if_neg (by omega), if_neg (by omega), hC _ (by omega) (by omega)]) (by decide) (Nat.le_of_ble_eq_true rfl) (Nat.le_of_ble_eq_true rfl) (fun A30 N30 eA30 eN30 => ?_)
  obtain rfl : A30 = gk 31 αC := eA30.trans (gk_s rfl (by decide))
  refine V_putA (q := 235) 30 dX7_init_232 rfl flX7_89 (Or.inr ⟨rfl, rfl, rfl⟩) (by decide) (show (gk 31 αC 0).1 = 7 + 1 from rfl) rfl rfl (fun O30 eO30 => ?_)
  rw [eN30, mk9_s (n := 30) (by decide) (by decide) (by decide) (by decide)] at eO30
  subst eO30
  refine V_aload_n (q := 236) dX7_init_235 rfl rfl rfl ?_
  refine V_sipush (q := 239) dX7_init_236 rfl (by decide) ?_
  refine V_newI (q := 241) (n := 3900) 32 dX7_init_239 rfl rfl (by decide) ar_106 (show (gk 31 αC 32).1 = 0 by unfold gk; rw [if_neg (by omega), if_neg (by omega), hC _ (by omega) (by omega)]) (by decide) (Nat.le_of_ble_eq_true rfl) (Nat.le_of_ble_eq_true rfl) (fun A31 N31 eA31 eN31 => ?_)
  obtain rfl : A31 = gk 32 αC := eA31.trans (gk_s rfl (by decide))
  refine V_putA (q := 244) 31 dX7_init_241 rfl flX7_92 (Or.inr ⟨rfl, rfl, rfl⟩) (by decide) (show (gk 32 αC 0).1 = 7 + 1 from rfl) rfl rfl (fun O31 eO31 => ?_)
  rw [eN31, mk9_s (n := 31) (by decide) (by decide) (by decide) (by decide)] at eO31
  subst eO31
  refine V_aload_n (q := 245) dX7_init_244 rfl rfl rfl ?_
  refine V_bipush (q := 247) dX7_init_245 rfl (by decide) ?_
  refine V_newI (q := 249) (n := 13) 33 dX7_init_247 rfl rfl (by decide) ar_106 (show (gk 32 αC 33).1 = 0 by unfold gk; rw [if_neg (by omega), if_neg (by omega), hC _ (by omega) (by omega)]) (by decide) (Nat.le_of_ble_eq_true rfl) (Nat.le_of_ble_eq_true rfl) (fun A32 N32 eA32 eN32 => ?_)
  obtain rfl : A32 = gk 33 αC := eA32.trans (gk_s rfl (by decide))
  refine V_putA (q := 252) 32 dX7_init_249 rfl flX7_95 (Or.inr ⟨rfl, rfl, rfl⟩) (by decide) (show (gk 33 αC 0).1 = 7 + 1 from rfl) rfl rfl (fun O32 eO32 => ?_)
  rw [eN32, mk9_s (n := 32) (by decide) (by decide) (by decide) (by decide)] at eO32
  subst eO32
  refine V_aload_n (q := 253) dX7_init_252 rfl rfl rfl ?_
  refine V_sipush (q := 256) dX7_init_253 rfl (by decide) ?_
  refine V_newI (q := 258) (n := 520) 34 dX7_init_256 rfl rfl (by decide) ar_106 (show (gk 33 αC 34).1 = 0 by unfold gk; rw [if_neg (by omega), if_neg (by omega), hC _ (by omega) (by omega)]) (by decide) (Nat.le_of_ble_eq_true rfl) (Nat.le_of_ble_eq_true rfl) (fun A33 N33 eA33 eN33 => ?_)
  obtain rfl : A33 = gk 34 αC := eA33.trans (gk_s rfl (by decide))
  refine V_putA (q := 261) 33 dX7_init_258 rfl flX7_98 (Or.inr ⟨rfl, rfl, rfl⟩) (by decide) (show (gk 34 αC 0).1 = 7 + 1 from rfl) rfl rfl (fun O33 eO33 => ?_)
  rw [eN33, mk9_s (n := 33) (by decide) (by decide) (by decide) (by decide)] at eO33
  subst eO33
  refine V_aload_n (q := 262) dX7_init_261 rfl rfl rfl ?_
  refine V_bipush (q := 264) dX7_init_262 rfl (by decide) ?_
  refine V_newI (q := 266) (n := 12) 35 dX7_init_264 rfl rfl (by decide) ar_106 (show (gk 34 αC 35).1 = 0 by unfold gk; rw [if_neg (by omega), if_neg (by omega), hC _ (by omega) (by omega)]) (by decide) (Nat.le_of_ble_eq_true rfl) (Nat.le_of_ble_eq_true rfl) (fun A34 N34 eA34 eN34 => ?_)
  obtain rfl : A34 = gk 35 αC := eA34.trans (gk_s rfl (by decide))
  refine V_putA (q := 269) 34 dX7_init_266 rfl flX7_101 (Or.inr ⟨rfl, rfl, rfl⟩) (by decide) (show (gk 35 αC 0).1 = 7 + 1 from rfl) rfl rfl (fun O34 eO34 => ?_)
  rw [eN34, mk9_s (n := 34) (by decide) (by decide) (by decide) (by decide)] at eO34
  subst eO34
  refine V_aload_n (q := 270) dX7_init_269 rfl rfl rfl ?_
  refine V_bipush (q := 272) dX7_init_270 rfl (by decide) ?_
  refine V_newI (q := 274) (n := 12) 36 dX7_init_272 rfl rfl (by decide) ar_106 (show (gk 35 αC 36).1 = 0 by unfold gk; rw [if_neg (by omega), if_neg (by omega), hC _ (by omega) (by omega)]) (by decide) (Nat.le_of_ble_eq_true rfl) (Nat.le_of_ble_eq_true rfl) (fun A35 N35 eA35 eN35 => ?_)
  obtain rfl : A35 = gk 36 αC := eA35.trans (gk_s rfl (by decide))
  refine V_putA (q := 277) 35 dX7_init_274 rfl flX7_104 (Or.inr ⟨rfl, rfl, rfl⟩) (by decide) (show (gk 36 αC 0).1 = 7 + 1 from rfl) rfl rfl (fun O35 eO35 => ?_)
  rw [eN35, mk9_s (n := 35) (by decide) (by decide) (by decide) (by decide)] at eO35
  subst eO35
  refine V_aload_n (q := 278) dX7_init_277 rfl rfl rfl ?_
  refine V_bipush (q := 280) dX7_init_278 rfl (by decide) ?_
  refine V_newI (q := 282) (n := 48) 37 dX7_init_280 rfl rfl (by decide) ar_106 (show (gk 36 αC 37).1 = 0 by unfold gk; rw [if_neg (by omega), if_neg (by omega), hC _ (by omega) (by omega)]) (by decide) (Nat.le_of_ble_eq_true rfl) (Nat.le_of_ble_eq_true rfl) (fun A36 N36 eA36 eN36 => ?_)
  obtain rfl : A36 = gk 37 αC := eA36.trans (gk_s rfl (by decide))
  refine V_putA (q := 285) 36 dX7_init_282 rfl flX7_107 (Or.inr ⟨rfl, rfl, rfl⟩) (by decide) (show (gk 37 αC 0).1 = 7 + 1 from rfl) rfl rfl (fun O36 eO36 => ?_)
  rw [eN36, mk9_s (n := 36) (by decide) (by decide) (by decide) (by decide)] at eO36
  subst eO36
  rw [gk_skip (n := 37) hC rfl (by decide), mk9_skip (n := 37) rfl]
  rw [gk_skip (n := 38) hC rfl (by decide), mk9_skip (n := 38) rfl]
  refine V_aload_n (q := 286) dX7_init_285 rfl rfl rfl ?_
  refine V_bipush (q := 288) dX7_init_286 rfl (by decide) ?_
  refine V_newZ (q := 290) (n := 100) 40 dX7_init_288 rfl rfl (by decide) ar_793 (show (gk 39 αC 40).1 = 0 by unfold gk; rw [if_neg (by omega), if_neg (by omega), hC _ (by omega) (by omega)]) (by decide) (Nat.le_of_ble_eq_true rfl) (Nat.le_of_ble_eq_true rfl) (fun A39 N39 eA39 eN39 => ?_)
  obtain rfl : A39 = gk 40 αC := eA39.trans (gk_s rfl (by decide))
  refine V_putA (q := 293) 39 dX7_init_290 rfl flX7_110 (Or.inr ⟨rfl, rfl, rfl⟩) (by decide) (show (gk 40 αC 0).1 = 7 + 1 from rfl) rfl rfl (fun O39 eO39 => ?_)
  rw [eN39, mk9_s (n := 39) (by decide) (by decide) (by decide) (by decide)] at eO39
  subst eO39
  refine V_aload_n (q := 294) dX7_init_293 rfl rfl rfl ?_
  refine V_bipush (q := 296) dX7_init_294 rfl (by decide) ?_
  refine V_newI (q := 298) (n := 100) 41 dX7_init_296 rfl rfl (by decide) ar_106 (show (gk 40 αC 41).1 = 0 by unfold gk; rw [if_neg (by omega), if_neg (by omega), hC _ (by omega) (by omega)]) (by decide) (Nat.le_of_ble_eq_true rfl) (Nat.le_of_ble_eq_true rfl) (fun A40 N40 eA40 eN40 => ?_)
  obtain rfl : A40 = gk 41 αC := eA40.trans (gk_s rfl (by decide))
  refine V_putA (q := 301) 40 dX7_init_298 rfl flX7_113 (Or.inr ⟨rfl, rfl, rfl⟩) (by decide) (show (gk 41 αC 0).1 = 7 + 1 from rfl) rfl rfl (fun O40 eO40 => ?_)
  rw [eN40, mk9_s (n := 40) (by decide) (by decide) (by decide) (by decide)] at eO40
  subst eO40
  refine V_aload_n (q := 302) dX7_init_301 rfl rfl rfl ?_
  refine V_bipush (q := 304) dX7_init_302 rfl (by decide) ?_
  refine V_newI (q := 306) (n := 100) 42 dX7_init_304 rfl rfl (by decide) ar_106 (show (gk 41 αC 42).1 = 0 by unfold gk; rw [if_neg (by omega), if_neg (by omega), hC _ (by omega) (by omega)]) (by decide) (Nat.le_of_ble_eq_true rfl) (Nat.le_of_ble_eq_true rfl) (fun A41 N41 eA41 eN41 => ?_)
  obtain rfl : A41 = gk 42 αC := eA41.trans (gk_s rfl (by decide))
  refine V_putA (q := 309) 41 dX7_init_306 rfl flX7_116 (Or.inr ⟨rfl, rfl, rfl⟩) (by decide) (show (gk 42 αC 0).1 = 7 + 1 from rfl) rfl rfl (fun O41 eO41 => ?_)
  rw [eN41, mk9_s (n := 41) (by decide) (by decide) (by decide) (by decide)] at eO41
  subst eO41
  refine V_aload_n (q := 310) dX7_init_309 rfl rfl rfl ?_
  refine V_bipush (q := 312) dX7_init_310 rfl (by decide) ?_
  refine V_newI (q := 314) (n := 100) 43 dX7_init_312 rfl rfl (by decide) ar_106 (show (gk 42 αC 43).1 = 0 by unfold gk; rw [if_neg (by omega), if_neg (by omega), hC _ (by omega) (by omega)]) (by decide) (Nat.le_of_ble_eq_true rfl) (Nat.le_of_ble_eq_true rfl) (fun A42 N42 eA42 eN42 => ?_)
  obtain rfl : A42 = gk 43 αC := eA42.trans (gk_s rfl (by decide))
  refine V_putA (q := 317) 42 dX7_init_314 rfl flX7_119 (Or.inr ⟨rfl, rfl, rfl⟩) (by decide) (show (gk 43 αC 0).1 = 7 + 1 from rfl) rfl rfl (fun O42 eO42 => ?_)
  rw [eN42, mk9_s (n := 42) (by decide) (by decide) (by decide) (by decide)] at eO42
  subst eO42
  refine V_aload_n (q := 318) dX7_init_317 rfl rfl rfl ?_
  refine V_bipush (q := 320) dX7_init_318 rfl (by decide) ?_
  refine V_newZ (q := 322) (n := 100) 44 dX7_init_320 rfl rfl (by decide) ar_793 (show (gk 43 αC 44).1 = 0 by unfold gk; rw [if_neg (by omega), if_neg (by omega), hC _ (by omega) (by omega)]) (by decide) (Nat.le_of_ble_eq_true rfl) (Nat.le_of_ble_eq_true rfl) (fun A43 N43 eA43 eN43 => ?_)
  obtain rfl : A43 = gk 44 αC := eA43.trans (gk_s rfl (by decide))
  refine V_putA (q := 325) 43 dX7_init_322 rfl flX7_122 (Or.inr ⟨rfl, rfl, rfl⟩) (by decide) (show (gk 44 αC 0).1 = 7 + 1 from rfl) rfl rfl (fun O43 eO43 => ?_)
  rw [eN43, mk9_s (n := 43) (by decide) (by decide) (by decide) (by decide)] at eO43
  subst eO43
  rw [gk_skip (n := 44) hC rfl (by decide), mk9_skip (n := 44) rfl]
  rw [gk_skip (n := 45) hC rfl (by decide), mk9_skip (n := 45) rfl]
  rw [gk_skip (n := 46) hC rfl (by decide), mk9_skip (n := 46) rfl]
  rw [gk_skip (n := 47) hC rfl (by decide), mk9_skip (n := 47) rfl]
  rw [gk_skip (n := 48) hC rfl (by decide), mk9_skip (n := 48) rfl]
  rw [gk_skip (n := 49) hC rfl (by decide), mk9_skip (n := 49) rfl]
  rw [gk_skip (n := 50) hC rfl (by decide), mk9_skip (n := 50) rfl]
  rw [gk_skip (n := 51) hC rfl (by decide), mk9_skip (n := 51) rfl]
  rw [gk_skip (n := 52) hC rfl (by decide), mk9_skip (n := 52) rfl]
  rw [gk_skip (n := 53) hC rfl (by decide), mk9_skip (n := 53) rfl]
  rw [gk_skip (n := 54) hC rfl (by decide), mk9_skip (n := 54) rfl]
  rw [gk_skip (n := 55) hC rfl (by decide), mk9_skip (n := 55) rfl]
  rw [gk_skip (n := 56) hC rfl (by decide), mk9_skip (n := 56) rfl]
  refine V_aload_n (q := 326) dX7_init_325 rfl rfl rfl ?_
  refine V_bipush (q := 328) dX7_init_326 rfl (by decide) ?_
  refine V_newZ (q := 330) (n := 100) 58 dX7_init_328 rfl rfl (by decide) ar_793 (show (gk 57 αC 58).1 = 0 by unfold gk; rw [if_neg (by omega), if_neg (by omega), hC _ (by omega) (by omega)]) (by decide) (Nat.le_of_ble_eq_true rfl) (Nat.le_of_ble_eq_true rfl) (fun A57 N57 eA57 eN57 => ?_)
  obtain rfl : A57 = gk 58 αC := eA57.trans (gk_s rfl (by decide))
  refine V_putA (q := 333) 57 dX7_init_330 rfl flX7_125 (Or.inr ⟨rfl, rfl, rfl⟩) (by decide) (show (gk 58 αC 0).1 = 7 + 1 from rfl) rfl rfl (fun O57 eO57 => ?_)
  rw [eN57, mk9_s (n := 57) (by decide) (by decide) (by decide) (by decide)] at eO57
  subst eO57
  rw [gk_58, mk9_58]
  refine V_iconst (q := 334) dX7_init_333 rfl (by decide) ?_
  refine V_istore_n (q := 335) (lv1 := [(3, 0), (0, 0)]) dX7_init_334 rfl rfl (by decide) rfl rfl ?_
  exact V_cs (c1 := 39) (l1 := 22559) rfl rfl (loop 0 (by decide))
