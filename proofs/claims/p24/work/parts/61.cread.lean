/-! THE CLASS: readers of the description that write nothing -/
theorem tX2_leadsTo {Γ : GC} {α : Sh} {μ : Mem} {a b : Int} {M : Mem} (w : WFD M) (D : DesR M α μ) (ha : 0 ≤ a ∧ a < M 0 0) (hb : 0 ≤ b ∧ b < 40) : MT Γ yX2_leadsTo cX2_leadsTo 3 (some .boolean) 0 0 0 [(3, 110), (0, a), (0, b)] α μ (QI fun r α1 μ1 => α1 = α ∧ μ1 = μ ∧ (0 ≤ r ∧ r ≤ 1) ∧ (r = 1 ↔ RT M a b)) := by
  have hn := w.n
  obtain ⟨T, hT⟩ : ∃ T : Int, T = tk a := ⟨_, rfl⟩
  obtain ⟨kT, yT⟩ := D.2.2.1 a ha.1 ha.2
  rw [← hT] at kT
  unfold TypR at yT
  rw [← hT] at yT
  replace hT : T = 1000 * (a + 1) := hT
  refine MT_of (k := 0) [(3, 110), (0, a), (0, b)] pn_X2_leadsTo rfl rfl (fun ad0 => ?_)
  refine V_aload_n (q := 1) dX2_leadsTo_0 rfl rfl rfl ?_
  refine V_getA (q := 4) 0 dX2_leadsTo_1 rfl flX2_11 (by decide) (congrArg Prod.fst (show _ = (3, 0) by rw [D.1.1.1])) rfl rfl (fun z1 ez1 rz1 => ?_)
  rw [D.1.2.1] at ez1
  obtain rfl : z1 = 111 := ez1
  refine V_iload_n (q := 5) dX2_leadsTo_4 rfl rfl rfl ?_
  refine V_aald (q := 6) (n := 40) (ta := 23) (ci := 4) dX2_leadsTo_5 rfl (by decide) (by rw [D.1.1.2.1]) rfl (by decide) (by omega) (fun z5 ez5 rz5 => ?_)
  rw [kT] at ez5
  obtain rfl : T = z5 := ez5.symm
  refine V_getJ (q := 9) 5 dX2_leadsTo_6 rfl flX2_41 (by omega) (congrArg Prod.fst (show _ = (5, 0) by rw [yT.1.1.1])) rfl rfl (fun z6 ez6 rz6 => ?_)
  refine V_iload_n (q := 10) dX2_leadsTo_9 rfl rfl rfl ?_
  refine V_lshr (q := 11) dX2_leadsTo_10 rfl (by omega) (fun z10 ez10 rz10 => ?_)
  refine V_lconst (q := 12) (x := 1) dX2_leadsTo_11 rfl rfl ?_
  refine V_land (q := 13) dX2_leadsTo_12 rfl (fun z12 ez12 rz12 => ?_)
  refine V_lconst (q := 14) (x := 0) dX2_leadsTo_13 rfl rfl ?_
  refine V_lcmp0 (q := 15) dX2_leadsTo_14 rfl (fun z14 ez14 => ?_)
  have hL := D.2.2.2.1 a b ha.1 ha.2 hb.1 hb.2
  rw [← show T = tk a from hT] at hL
  have hq : z14 ≠ 0 ↔ RT M a b := (not_congr (ez14.trans (bt_test (s := b.toNat) (by omega) ez10 ez12 rz12))).trans (by { rw [ez6, Bool.not_eq_false]; exact hL })
  refine V_if_eq (q := 18) (tgt := 22) dX2_leadsTo_15 (by decide) rfl (fun c15 => ?_) (fun c15 => ?_)
  · refine V_iconst (q := 23) dX2_leadsTo_22 rfl (by decide) ?_
    exact V_zret dX2_leadsTo_23 (by decide) (Nat.le_of_ble_eq_true rfl) (Nat.le_of_ble_eq_true rfl) ⟨_, rfl, rfl, rfl, by omega, ⟨fun h => absurd h (by decide), fun h => absurd (hq.mpr h) (by omega)⟩⟩
  · refine V_iconst (q := 19) dX2_leadsTo_18 rfl (by decide) ?_
    refine V_goto (tgt := 23) dX2_leadsTo_19 (by decide) ?_
    exact V_zret dX2_leadsTo_23 (by decide) (Nat.le_of_ble_eq_true rfl) (Nat.le_of_ble_eq_true rfl) ⟨_, rfl, rfl, rfl, by omega, ⟨fun _ => hq.mp (by omega), fun _ => rfl⟩⟩
theorem cntP_congr {p q : Int → Prop} : ∀ n : Nat, (∀ i : Int, 0 ≤ i → i < n → (p i ↔ q i)) → cntP p n = cntP q n := by
  intro n
  induction n with
  | zero => intro _; rfl
  | succ n ih =>
    intro h
    have e : p n = q n := propext (h n (by omega) (by omega))
    show cntP p n + @ite Nat (p n) (Classical.propDecidable _) 1 0 = cntP q n + @ite Nat (q n) (Classical.propDecidable _) 1 0
    rw [ih (fun i a b => h i a (by omega))]
    exact congrArg (fun P => cntP q n + @ite Nat P (Classical.propDecidable P) 1 0) e
theorem cntP_1 {p : Int → Prop} {t : Int} (h0 : 0 ≤ t) (h : p t) : cntP p (t + 1).toNat = cntP p t.toNat + 1 := by rw [cntP_s h0, if_pos h]
theorem cntP_0 {p : Int → Prop} {t : Int} (h0 : 0 ≤ t) (h : ¬ p t) : cntP p (t + 1).toNat = cntP p t.toNat := by rw [cntP_s h0, if_neg h, Nat.add_zero]
theorem tX2_countLeading {Γ : GC} {α : Sh} {μ : Mem} {b : Int} {M : Mem} (w : WFD M) (D : DesR M α μ) (hb : 0 ≤ b ∧ b < 40) : MT Γ yX2_countLeading cX2_countLeading 4 (some .int) 1 0 0 [(3, 110), (0, b)] α μ (QI fun r α1 μ1 => α1 = α ∧ μ1 = μ ∧ r = (cntP (fun k => RT M k b) (M 0 0).toNat : Int)) := by
  have hn := w.n
  refine MT_of (k := 2) [(3, 110), (0, b), (9, 0), (9, 0)] pn_X2_countLeading rfl rfl (fun ad0 => ?_)
  have loop : ∀ c k : Int, (0 ≤ k ∧ k ≤ M 0 0 ∧ c = (cntP (fun k => RT M k b) k.toNat : Int)) → V Γ α ad0 (ZM Γ α ad0 (QI fun r α1 μ1 => α1 = α ∧ μ1 = μ ∧ r = (cntP (fun k => RT M k b) (M 0 0).toNat : Int)) 0 0) (RM 1 0 0) RX2 cX2_countLeading 4 (some .int) yX2_countLeading.name 4 [] [(3, 110), (0, b), (0, c), (0, k)] α μ 0 0 := by
    refine loop2 _ (fun _ k => (M 0 0 - k).toNat) _ ?_
    rintro c k ⟨h1, h2, h3⟩ ih
    have hcl := cntP_le (fun k => RT M k b) k.toNat
    refine V_iload_n (q := 5) dX2_countLeading_4 rfl rfl rfl ?_
    refine V_aload_n (q := 6) dX2_countLeading_5 rfl rfl rfl ?_
    refine V_getI (q := 9) 1 dX2_countLeading_6 rfl flX2_34 (by decide) (congrArg Prod.fst (show _ = (3, 0) by rw [D.1.1.1])) rfl rfl (fun z6 ez6 rz6 => ?_)
    rw [D.2.1] at ez6
    refine V_icmp_ge (q := 12) (tgt := 30) dX2_countLeading_9 (by decide) rfl (fun c9 => ?_) (fun c9 => ?_)
    · refine V_iload_n (q := 31) dX2_countLeading_30 rfl rfl rfl ?_
      exact V_iret dX2_countLeading_31 (Nat.le_of_ble_eq_true rfl) (Nat.le_of_ble_eq_true rfl) ⟨_, rfl, rfl, rfl, by rw [h3, show k = M 0 0 by omega]⟩
    · refine V_aload_n (q := 13) dX2_countLeading_12 rfl rfl rfl ?_
      refine V_iload_n (q := 14) dX2_countLeading_13 rfl rfl rfl ?_
      refine V_iload_n (q := 15) dX2_countLeading_14 rfl rfl rfl ?_
      refine V_rdV (q := 18) (As := [(0, k), (0, b)]) (tX2_leadsTo w D ⟨h1, by omega⟩ hb) dX2_countLeading_15 rfl mlX2_45 mw_X2_leadsTo im_X2_leadsTo sl_X2_leadsTo md_X2_leadsTo rfl (by decide) (by decide) (congrArg Prod.fst (show _ = (3, 0) by rw [D.1.1.1])) rfl rfl (by decide) (by decide) (Nat.le_of_ble_eq_true rfl) (Nat.le_of_ble_eq_true rfl) (Nat.le_of_ble_eq_true rfl) (fun z15 rz15 hz15 => ?_)
      obtain ⟨bz15, hz15⟩ := hz15
      refine V_if_eq (q := 21) (tgt := 24) dX2_countLeading_18 (by decide) rfl (fun c18 => ?_) (fun c18 => ?_)
      · refine V_iinc (q := 27) dX2_countLeading_24 rfl rfl (by decide) rfl (by omega) (fun z24 lz24 ez24 hlz24 => ?_)
        obtain rfl : lz24 = [(3, 110), (0, b), (0, c), (0, z24)] := hlz24
        refine V_goto (tgt := 4) dX2_countLeading_27 (by decide) ?_
        exact ih c z24 ⟨by omega, by omega, by { rw [ez24, cntP_0 h1 (fun q => absurd (hz15.mpr q) (by omega))]; exact h3 }⟩ (by omega)
      · refine V_iinc (q := 24) dX2_countLeading_21 rfl rfl (by decide) rfl (by omega) (fun z21 lz21 ez21 hlz21 => ?_)
        obtain rfl : lz21 = [(3, 110), (0, b), (0, z21), (0, k)] := hlz21
        refine V_iinc (q := 27) dX2_countLeading_24 rfl rfl (by decide) rfl (by omega) (fun z24_2 lz24_2 ez24_2 hlz24_2 => ?_)
        obtain rfl : lz24_2 = [(3, 110), (0, b), (0, z21), (0, z24_2)] := hlz24_2
        refine V_goto (tgt := 4) dX2_countLeading_27 (by decide) ?_
        exact ih z21 z24_2 ⟨by omega, by omega, by { rw [ez24_2, cntP_1 h1 (hz15.mp (by omega))]; omega }⟩ (by omega)
  refine V_iconst (q := 1) dX2_countLeading_0 rfl (by decide) ?_
  refine V_istore_n (q := 2) (lv1 := [(3, 110), (0, b), (0, 0), (9, 0)]) dX2_countLeading_1 rfl rfl (by decide) rfl rfl ?_
  refine V_iconst (q := 3) dX2_countLeading_2 rfl (by decide) ?_
  refine V_istore_n (q := 4) (lv1 := [(3, 110), (0, b), (0, 0), (0, 0)]) dX2_countLeading_3 rfl rfl (by decide) rfl rfl ?_
  exact loop 0 0 ⟨by decide, hn.1, rfl⟩
theorem tX4_isUnder {Γ : GC} {α : Sh} {μ : Mem} {T t f : Int} {M : Mem} (w : WFD M) (D : DesR M α μ) (ht : 0 ≤ t ∧ t < M 0 0) (eT : T = tk t) : MT Γ yX4_isUnder cX4_isUnder 3 (some .boolean) 0 0 0 [(3, T), (0, f)] α μ (QI fun r α1 μ1 => α1 = α ∧ μ1 = μ ∧ (0 ≤ r ∧ r ≤ 1) ∧ (r = 1 ↔ ∃ k : Int, 0 ≤ k ∧ k < M 4 t ∧ M 5 (4 * t + k) = f)) := by
  have hn := w.n
  have hc := (w.cnt t ht.1 (by omega)).1
  obtain ⟨kT, yT⟩ := D.2.2.1 t ht.1 ht.2
  rw [← eT] at kT
  unfold TypR at yT
  rw [← eT] at yT
  have hT : T = 1000 * (t + 1) := eT
  refine MT_of (k := 1) [(3, T), (0, f), (9, 0)] pn_X4_isUnder rfl rfl (fun ad0 => ?_)
  have loop : ∀ k : Int, (0 ≤ k ∧ k ≤ M 4 t ∧ ∀ j : Int, 0 ≤ j → j < k → M 5 (4 * t + j) ≠ f) → V Γ α ad0 (ZM Γ α ad0 (QI fun r α1 μ1 => α1 = α ∧ μ1 = μ ∧ (0 ≤ r ∧ r ≤ 1) ∧ (r = 1 ↔ ∃ k : Int, 0 ≤ k ∧ k < M 4 t ∧ M 5 (4 * t + k) = f)) 0 0) (RM 0 0 0) RX4 cX4_isUnder 3 (some .boolean) yX4_isUnder.name 2 [] [(3, T), (0, f), (0, k)] α μ 0 0 := by
    refine loop1 _ (fun k => (M 4 t - k).toNat) _ ?_
    rintro k ⟨h1, h2, h3⟩ ih
    refine V_iload_n (q := 3) dX4_isUnder_2 rfl rfl rfl ?_
    refine V_aload_n (q := 4) dX4_isUnder_3 rfl rfl rfl ?_
    refine V_getI (q := 7) 4 dX4_isUnder_4 rfl flX4_46 (by omega) (congrArg Prod.fst (show _ = (5, 0) by rw [yT.1.1.1])) rfl rfl (fun z4 ez4 rz4 => ?_)
    rw [yT.2.1.2.2.2.1] at ez4
    refine V_icmp_ge (q := 10) (tgt := 28) dX4_isUnder_7 (by decide) rfl (fun c7 => ?_) (fun c7 => ?_)
    · refine V_iconst (q := 29) dX4_isUnder_28 rfl (by decide) ?_
      exact V_zret dX4_isUnder_29 (by decide) (Nat.le_of_ble_eq_true rfl) (Nat.le_of_ble_eq_true rfl) ⟨_, rfl, rfl, rfl, by omega, ⟨fun h => absurd h (by decide), fun ⟨j, a, b, c⟩ => absurd c (h3 j a (by omega))⟩⟩
    · refine V_aload_n (q := 11) dX4_isUnder_10 rfl rfl rfl ?_
      refine V_getA (q := 14) 3 dX4_isUnder_11 rfl flX4_9 (by omega) (congrArg Prod.fst (show _ = (5, 0) by rw [yT.1.1.1])) rfl rfl (fun z11 ez11 rz11 => ?_)
      rw [yT.1.2.1] at ez11
      obtain rfl : z11 = (T + 1) := ez11
      refine V_iload_n (q := 15) dX4_isUnder_14 rfl rfl rfl ?_
      refine V_iald (q := 16) (n := 4) dX4_isUnder_15 rfl (by omega) (by rw [yT.1.1.2.1]) (by omega) (fun z15 ez15 rz15 => ?_)
      rw [yT.2.2.1 k (by omega) (by omega)] at ez15
      refine V_iload_n (q := 17) dX4_isUnder_16 rfl rfl rfl ?_
      refine V_icmp_ne (q := 20) (tgt := 22) dX4_isUnder_17 (by decide) rfl (fun c17 => ?_) (fun c17 => ?_)
      · refine V_iinc (q := 25) dX4_isUnder_22 rfl rfl (by decide) rfl (by omega) (fun z22 lz22 ez22 hlz22 => ?_)
        obtain rfl : lz22 = [(3, T), (0, f), (0, z22)] := hlz22
        refine V_goto (tgt := 2) dX4_isUnder_25 (by decide) ?_
        exact ih z22 ⟨by omega, by omega, fun j a b => by { by_cases hj : j = k; · { rw [hj]; omega }; · { exact h3 j a (by omega) } }⟩ (by omega)
      · refine V_iconst (q := 21) dX4_isUnder_20 rfl (by decide) ?_
        exact V_zret dX4_isUnder_21 (by decide) (Nat.le_of_ble_eq_true rfl) (Nat.le_of_ble_eq_true rfl) ⟨_, rfl, rfl, rfl, by omega, ⟨fun _ => ⟨k, h1, by omega, by omega⟩, fun _ => rfl⟩⟩
  refine V_iconst (q := 1) dX4_isUnder_0 rfl (by decide) ?_
  refine V_istore_n (q := 2) (lv1 := [(3, T), (0, f), (0, 0)]) dX4_isUnder_1 rfl rfl (by decide) rfl rfl ?_
  exact loop 0 ⟨by decide, hc.1, fun j a b => by omega⟩
/-- the cell of a body of the type i: the start's (-1), a method's; -1: there is none -/
def boT (M : Mem) (i nm : Int) : Int := if nm = -1 then tk i + 5 else if 0 ≤ nm ∧ nm ≤ 9 ∧ 0 ≤ oM M i nm then tk i + (20 + 2 * nm) else -1
theorem tX4_bodyOf {Γ : GC} {α : Sh} {μ : Mem} {T t nm : Int} {M : Mem} (w : WFD M) (D : DesR M α μ) (ht : 0 ≤ t ∧ t < M 0 0) (eT : T = tk t) : MT Γ yX4_bodyOf cX4_bodyOf 2 (some (.object "StartBench$Body")) 1 0 0 [(3, T), (0, nm)] α μ (QA fun r α1 μ1 => α1 = α ∧ μ1 = μ ∧ r = boT M t nm) := by
  have hn := w.n
  obtain ⟨kT, yT⟩ := D.2.2.1 t ht.1 ht.2
  rw [← eT] at kT
  unfold TypR at yT
  rw [← eT] at yT
  have hT : T = 1000 * (t + 1) := eT
  refine MT_of (k := 0) [(3, T), (0, nm)] pn_X4_bodyOf rfl rfl (fun ad0 => ?_)
  refine V_iload_n (q := 1) dX4_bodyOf_0 rfl rfl rfl ?_
  refine V_iconst (q := 2) dX4_bodyOf_1 rfl (by decide) ?_
  refine V_icmp_ne (q := 5) (tgt := 10) dX4_bodyOf_2 (by decide) rfl (fun c2 => ?_) (fun c2 => ?_)
  · refine V_iload_n (q := 11) dX4_bodyOf_10 rfl rfl rfl ?_
    refine V_rdSN (q := 14) (As := [(0, nm)]) (tX6_isName ) dX4_bodyOf_11 rfl mnX4_55 mw_X6_isName sm_X6_isName md_X6_isName rfl rfl (by decide) (by decide) (Nat.le_of_ble_eq_true rfl) (Nat.le_of_ble_eq_true rfl) (Nat.le_of_ble_eq_true rfl) (fun z11 rz11 hz11 => ?_)
    obtain ⟨bz11, hz11⟩ := hz11
    refine V_if_eq (q := 17) (tgt := 26) dX4_bodyOf_14 (by decide) rfl (fun c14 => ?_) (fun c14 => ?_)
    · refine V_null (q := 27) dX4_bodyOf_26 rfl ?_
      exact V_aret dX4_bodyOf_27 (Nat.le_of_ble_eq_true rfl) (Nat.le_of_ble_eq_true rfl) ⟨_, rfl, rfl, rfl, by { unfold boT; rw [if_neg (by omega), if_neg (by omega)] }⟩
    · refine V_aload_n (q := 18) dX4_bodyOf_17 rfl rfl rfl ?_
      refine V_getA (q := 21) 9 dX4_bodyOf_18 rfl flX4_23 (by omega) (congrArg Prod.fst (show _ = (5, 0) by rw [yT.1.1.1])) rfl rfl (fun z18 ez18 rz18 => ?_)
      rw [yT.1.2.2.2.2.1] at ez18
      obtain rfl : z18 = (T + 4) := ez18
      refine V_iload_n (q := 22) dX4_bodyOf_21 rfl rfl rfl ?_
      refine V_aald (q := 23) (n := 10) (ta := 24) (ci := 1) dX4_bodyOf_22 rfl (by omega) (by rw [yT.1.1.2.2.2.2.1]) rfl (by decide) (by omega) (fun z22 ez22 rz22 => ?_)
      refine V_goto (tgt := 27) dX4_bodyOf_23 (by decide) ?_
      exact V_aret dX4_bodyOf_27 (Nat.le_of_ble_eq_true rfl) (Nat.le_of_ble_eq_true rfl) ⟨_, rfl, rfl, rfl, by { unfold boT; rw [if_neg (by omega), ← eT]; have hm := yT.2.2.2.2.1 nm (by omega) (by omega); rw [ez22]; by_cases ho : 0 ≤ oM M t nm; · { rw [if_pos (by omega)]; exact (hm.2 ho).1 }; · { rw [if_neg (by omega)]; exact (hm.1 (by omega)).1 } }⟩
  · refine V_aload_n (q := 6) dX4_bodyOf_5 rfl rfl rfl ?_
    refine V_getA (q := 9) 11 dX4_bodyOf_6 rfl flX4_28 (by omega) (congrArg Prod.fst (show _ = (5, 0) by rw [yT.1.1.1])) rfl rfl (fun z6 ez6 rz6 => ?_)
    rw [yT.1.2.2.2.2.2.1] at ez6
    obtain rfl : z6 = (T + 5) := ez6
    exact V_aret dX4_bodyOf_9 (Nat.le_of_ble_eq_true rfl) (Nat.le_of_ble_eq_true rfl) ⟨_, rfl, rfl, rfl, by { unfold boT; rw [if_pos (by omega), ← eT] }⟩
def tellR (M : Mem) (t x : Int) : Int := if x = 2 then M 1 t else if x = 3 then M 2 t else if x = 4 then (if M 3 t < 0 then -6 else M 3 t) else if x = 5 then M 4 t else if x = 6 then M 6 t else if x = 7 then M 10 t else M 12 (5 * t)
theorem tX4_tell {Γ : GC} {α : Sh} {μ : Mem} {T t x : Int} {M : Mem} (w : WFD M) (D : DesR M α μ) (ht : 0 ≤ t ∧ t < M 0 0) (eT : T = tk t) : MT Γ yX4_tell cX4_tell 2 (some .int) 0 0 0 [(3, T), (0, x)] α μ (QI fun r α1 μ1 => α1 = α ∧ μ1 = μ ∧ r = tellR M t x) := by
  have hn := w.n
  obtain ⟨kT, yT⟩ := D.2.2.1 t ht.1 ht.2
  rw [← eT] at kT
  unfold TypR at yT
  rw [← eT] at yT
  have hT : T = 1000 * (t + 1) := eT
  refine MT_of (k := 0) [(3, T), (0, x)] pn_X4_tell rfl rfl (fun ad0 => ?_)
  refine V_iload_n (q := 1) dX4_tell_0 rfl rfl rfl ?_
  rcases (show x = 2 ∨ x = 3 ∨ x = 4 ∨ x = 5 ∨ x = 6 ∨ x = 7 ∨ (x ≠ 2 ∧ x ≠ 3 ∧ x ≠ 4 ∧ x ≠ 5 ∧ x ≠ 6 ∧ x ≠ 7) by omega) with c1 | c1 | c1 | c1 | c1 | c1 | c1
  · subst c1
    refine V_tswIn (tgt := 40) (off := 39) dX4_tell_1 (by decide) (by decide) rfl (by decide) ?_
    refine V_aload_n (q := 41) dX4_tell_40 rfl rfl rfl ?_
    refine V_getZ (q := 44) 0 dX4_tell_41 rfl flX4_35 (by omega) (congrArg Prod.fst (show _ = (5, 0) by rw [yT.1.1.1])) rfl rfl (fun z41 ez41 rz41 => ?_)
    rw [yT.2.1.1] at ez41
    refine V_if_eq (q := 47) (tgt := 51) dX4_tell_44 (by decide) rfl (fun c44 => ?_) (fun c44 => ?_)
    · refine V_iconst (q := 52) dX4_tell_51 rfl (by decide) ?_
      exact V_iret dX4_tell_52 (Nat.le_of_ble_eq_true rfl) (Nat.le_of_ble_eq_true rfl) ⟨_, rfl, rfl, rfl, by { unfold tellR; (repeat' (first | rw [if_pos (by omega)] | rw [if_neg (by omega)])); first | omega | assumption }⟩
    · refine V_iconst (q := 48) dX4_tell_47 rfl (by decide) ?_
      refine V_goto (tgt := 52) dX4_tell_48 (by decide) ?_
      exact V_iret dX4_tell_52 (Nat.le_of_ble_eq_true rfl) (Nat.le_of_ble_eq_true rfl) ⟨_, rfl, rfl, rfl, by { unfold tellR; (repeat' (first | rw [if_pos (by omega)] | rw [if_neg (by omega)])); first | omega | assumption }⟩
  · subst c1
    refine V_tswIn (tgt := 53) (off := 52) dX4_tell_1 (by decide) (by decide) rfl (by decide) ?_
    refine V_aload_n (q := 54) dX4_tell_53 rfl rfl rfl ?_
    refine V_getZ (q := 57) 1 dX4_tell_54 rfl flX4_39 (by omega) (congrArg Prod.fst (show _ = (5, 0) by rw [yT.1.1.1])) rfl rfl (fun z54 ez54 rz54 => ?_)
    rw [yT.2.1.2.1] at ez54
    refine V_if_eq (q := 60) (tgt := 64) dX4_tell_57 (by decide) rfl (fun c57 => ?_) (fun c57 => ?_)
    · refine V_iconst (q := 65) dX4_tell_64 rfl (by decide) ?_
      exact V_iret dX4_tell_65 (Nat.le_of_ble_eq_true rfl) (Nat.le_of_ble_eq_true rfl) ⟨_, rfl, rfl, rfl, by { unfold tellR; (repeat' (first | rw [if_pos (by omega)] | rw [if_neg (by omega)])); first | omega | assumption }⟩
    · refine V_iconst (q := 61) dX4_tell_60 rfl (by decide) ?_
      refine V_goto (tgt := 65) dX4_tell_61 (by decide) ?_
      exact V_iret dX4_tell_65 (Nat.le_of_ble_eq_true rfl) (Nat.le_of_ble_eq_true rfl) ⟨_, rfl, rfl, rfl, by { unfold tellR; (repeat' (first | rw [if_pos (by omega)] | rw [if_neg (by omega)])); first | omega | assumption }⟩
  · subst c1
    refine V_tswIn (tgt := 66) (off := 65) dX4_tell_1 (by decide) (by decide) rfl (by decide) ?_
    refine V_aload_n (q := 67) dX4_tell_66 rfl rfl rfl ?_
    refine V_getI (q := 70) 2 dX4_tell_67 rfl flX4_42 (by omega) (congrArg Prod.fst (show _ = (5, 0) by rw [yT.1.1.1])) rfl rfl (fun z67 ez67 rz67 => ?_)
    rw [yT.2.1.2.2.1] at ez67
    exact V_iret dX4_tell_70 (Nat.le_of_ble_eq_true rfl) (Nat.le_of_ble_eq_true rfl) ⟨_, rfl, rfl, rfl, by { unfold tellR; rw [if_neg (by decide), if_neg (by decide), if_pos rfl]; exact ez67 }⟩
  · subst c1
    refine V_tswIn (tgt := 71) (off := 70) dX4_tell_1 (by decide) (by decide) rfl (by decide) ?_
    refine V_aload_n (q := 72) dX4_tell_71 rfl rfl rfl ?_
    refine V_getI (q := 75) 4 dX4_tell_72 rfl flX4_46 (by omega) (congrArg Prod.fst (show _ = (5, 0) by rw [yT.1.1.1])) rfl rfl (fun z72 ez72 rz72 => ?_)
    rw [yT.2.1.2.2.2.1] at ez72
    exact V_iret dX4_tell_75 (Nat.le_of_ble_eq_true rfl) (Nat.le_of_ble_eq_true rfl) ⟨_, rfl, rfl, rfl, by { unfold tellR; (repeat' (first | rw [if_pos (by omega)] | rw [if_neg (by omega)])); first | omega | assumption }⟩
  · subst c1
    refine V_tswIn (tgt := 76) (off := 75) dX4_tell_1 (by decide) (by decide) rfl (by decide) ?_
    refine V_aload_n (q := 77) dX4_tell_76 rfl rfl rfl ?_
    refine V_getI (q := 80) 8 dX4_tell_77 rfl flX4_49 (by omega) (congrArg Prod.fst (show _ = (5, 0) by rw [yT.1.1.1])) rfl rfl (fun z77 ez77 rz77 => ?_)
    rw [yT.2.1.2.2.2.2.1] at ez77
    exact V_iret dX4_tell_80 (Nat.le_of_ble_eq_true rfl) (Nat.le_of_ble_eq_true rfl) ⟨_, rfl, rfl, rfl, by { unfold tellR; (repeat' (first | rw [if_pos (by omega)] | rw [if_neg (by omega)])); first | omega | assumption }⟩
  · subst c1
    refine V_tswIn (tgt := 81) (off := 80) dX4_tell_1 (by decide) (by decide) rfl (by decide) ?_
    refine V_aload_n (q := 82) dX4_tell_81 rfl rfl rfl ?_
    refine V_getI (q := 85) 10 dX4_tell_82 rfl flX4_52 (by omega) (congrArg Prod.fst (show _ = (5, 0) by rw [yT.1.1.1])) rfl rfl (fun z82 ez82 rz82 => ?_)
    rw [yT.2.1.2.2.2.2.2] at ez82
    exact V_iret dX4_tell_85 (Nat.le_of_ble_eq_true rfl) (Nat.le_of_ble_eq_true rfl) ⟨_, rfl, rfl, rfl, by { unfold tellR; (repeat' (first | rw [if_pos (by omega)] | rw [if_neg (by omega)])); first | omega | assumption }⟩
  · refine V_tswOut (tgt := 86) dX4_tell_1 (by omega) (by decide) ?_
    refine V_aload_n (q := 87) dX4_tell_86 rfl rfl rfl ?_
    refine V_getA (q := 90) 11 dX4_tell_87 rfl flX4_28 (by omega) (congrArg Prod.fst (show _ = (5, 0) by rw [yT.1.1.1])) rfl rfl (fun z87 ez87 rz87 => ?_)
    rw [yT.1.2.2.2.2.2.1] at ez87
    obtain rfl : z87 = (T + 5) := ez87
    refine V_getI (q := 93) 1 dX4_tell_90 rfl flX4_59 (by omega) (congrArg Prod.fst (show _ = (2, 0) by rw [yT.1.1.2.2.2.2.2.1])) rfl rfl (fun z90 ez90 rz90 => ?_)
    rw [yT.2.2.2.2.2.2.1] at ez90
    exact V_iret dX4_tell_93 (Nat.le_of_ble_eq_true rfl) (Nat.le_of_ble_eq_true rfl) ⟨_, rfl, rfl, rfl, by { unfold tellR; (repeat' (first | rw [if_pos (by omega)] | rw [if_neg (by omega)])); first | omega | assumption }⟩
theorem tX2_methodOwner {Γ : GC} {α : Sh} {μ : Mem} {t nm : Int} {M : Mem} (w : WFD M) (D : DesR M α μ) (ht : 0 ≤ t ∧ t < M 0 0) (hm : 0 ≤ nm ∧ nm ≤ 9) : MT Γ yX2_methodOwner cX2_methodOwner 5 (some .int) 0 0 0 [(3, 110), (0, t), (0, nm)] α μ (QI fun r α1 μ1 => α1 = α ∧ μ1 = μ ∧ r = (if FM M nm t < 0 then -6 else FM M nm t / 5)) := by
  have hn := w.n
  refine MT_of (k := 2) [(3, 110), (0, t), (0, nm), (9, 0), (9, 0)] pn_X2_methodOwner rfl rfl (fun ad0 => ?_)
  have loop : ∀ u k : Int, (0 ≤ k ∧ u < M 0 0 ∧ (0 ≤ u → k + u ≤ t) ∧ FM M nm u = FM M nm t) → V Γ α ad0 (ZM Γ α ad0 (QI fun r α1 μ1 => α1 = α ∧ μ1 = μ ∧ r = (if FM M nm t < 0 then -6 else FM M nm t / 5)) 0 0) (RM 0 0 0) RX2 cX2_methodOwner 5 (some .int) yX2_methodOwner.name 5 [] [(3, 110), (0, t), (0, nm), (0, u), (0, k)] α μ 0 0 := by
    refine loop2 _ (fun u _ => (u + 7).toNat) _ ?_
    rintro u k ⟨h1, h2, h4, h3⟩ ih
    refine V_iload (q := 7) dX2_methodOwner_5 rfl rfl ?_
    refine V_bipush (q := 9) dX2_methodOwner_7 rfl (by decide) ?_
    refine V_icmp_ge (q := 12) (tgt := 48) dX2_methodOwner_9 (by decide) rfl (fun c9 => ?_) (fun c9 => ?_)
    · refine V_bipush (q := 50) dX2_methodOwner_48 rfl (by decide) ?_
      first | (exfalso; omega) | exact V_iret dX2_methodOwner_50 (Nat.le_of_ble_eq_true rfl) (Nat.le_of_ble_eq_true rfl) ⟨_, rfl, rfl, rfl, by { rw [← h3, FM_neg (by omega)]; rfl }⟩
    · refine V_iload_n (q := 13) dX2_methodOwner_12 rfl rfl rfl ?_
      refine V_if_lt (q := 16) (tgt := 48) dX2_methodOwner_13 (by decide) rfl (fun c13 => ?_) (fun c13 => ?_)
      · refine V_bipush (q := 50) dX2_methodOwner_48 rfl (by decide) ?_
        first | (exfalso; omega) | exact V_iret dX2_methodOwner_50 (Nat.le_of_ble_eq_true rfl) (Nat.le_of_ble_eq_true rfl) ⟨_, rfl, rfl, rfl, by { rw [← h3, FM_neg (by omega)]; rfl }⟩
      · have hu : 0 ≤ u ∧ u < M 0 0 := by omega
        obtain ⟨T, hT⟩ : ∃ T : Int, T = tk u := ⟨_, rfl⟩
        obtain ⟨kT, yT⟩ := D.2.2.1 u hu.1 hu.2
        rw [← hT] at kT
        unfold TypR at yT
        rw [← hT] at yT
        replace hT : T = 1000 * (u + 1) := hT
        have hab := w.above u hu.1 hu.2
        have hfe := FM_eq w nm hu.1 hu.2
        have hmm := yT.2.2.2.2.1 nm hm.1 hm.2
        have hor := oM_rng M u nm
        have hcc := (w.cnt u hu.1 (by omega)).2.2
        refine V_aload_n (q := 17) dX2_methodOwner_16 rfl rfl rfl ?_
        refine V_getA (q := 20) 0 dX2_methodOwner_17 rfl flX2_11 (by decide) (congrArg Prod.fst (show _ = (3, 0) by rw [D.1.1.1])) rfl rfl (fun z17 ez17 rz17 => ?_)
        rw [D.1.2.1] at ez17
        obtain rfl : z17 = 111 := ez17
        refine V_iload_n (q := 21) dX2_methodOwner_20 rfl rfl rfl ?_
        refine V_aald (q := 22) (n := 40) (ta := 23) (ci := 4) dX2_methodOwner_21 rfl (by decide) (by rw [D.1.1.2.1]) rfl (by decide) (by omega) (fun z21 ez21 rz21 => ?_)
        rw [kT] at ez21
        obtain rfl : T = z21 := ez21.symm
        refine V_getA (q := 25) 9 dX2_methodOwner_22 rfl flX2_65 (by omega) (congrArg Prod.fst (show _ = (5, 0) by rw [yT.1.1.1])) rfl rfl (fun z22 ez22 rz22 => ?_)
        rw [yT.1.2.2.2.2.1] at ez22
        obtain rfl : z22 = (T + 4) := ez22
        refine V_iload_n (q := 26) dX2_methodOwner_25 rfl rfl rfl ?_
        refine V_aald (q := 27) (n := 10) (ta := 24) (ci := 1) dX2_methodOwner_26 rfl (by omega) (by rw [yT.1.1.2.2.2.2.1]) rfl (by decide) (by omega) (fun z26 ez26 rz26 => ?_)
        refine V_ifnull (q := 30) (tgt := 32) dX2_methodOwner_27 (by decide) rfl (fun c27 => ?_) (fun c27 => ?_)
        · refine V_aload_n (q := 33) dX2_methodOwner_32 rfl rfl rfl ?_
          refine V_getA (q := 36) 0 dX2_methodOwner_33 rfl flX2_11 (by decide) (congrArg Prod.fst (show _ = (3, 0) by rw [D.1.1.1])) rfl rfl (fun z33 ez33 rz33 => ?_)
          rw [D.1.2.1] at ez33
          obtain rfl : z33 = 111 := ez33
          refine V_iload_n (q := 37) dX2_methodOwner_36 rfl rfl rfl ?_
          refine V_aald (q := 38) (n := 40) (ta := 23) (ci := 4) dX2_methodOwner_37 rfl (by decide) (by rw [D.1.1.2.1]) rfl (by decide) (by omega) (fun z37 ez37 rz37 => ?_)
          rw [kT] at ez37
          obtain rfl : T = z37 := ez37.symm
          refine V_getI (q := 41) 2 dX2_methodOwner_38 rfl flX2_38 (by omega) (congrArg Prod.fst (show _ = (5, 0) by rw [yT.1.1.1])) rfl rfl (fun z38 ez38 rz38 => ?_)
          rw [yT.2.1.2.2.1] at ez38
          refine V_istore_n (q := 42) (lv1 := [(3, 110), (0, t), (0, nm), (0, z38), (0, k)]) dX2_methodOwner_41 rfl rfl (by decide) rfl rfl ?_
          refine V_iinc (q := 45) dX2_methodOwner_42 rfl rfl (by decide) rfl (by omega) (fun z42 lz42 ez42 hlz42 => ?_)
          obtain rfl : lz42 = [(3, 110), (0, t), (0, nm), (0, z38), (0, z42)] := hlz42
          refine V_goto (tgt := 5) dX2_methodOwner_45 (by decide) ?_
          have hno : ¬ 0 ≤ oM M u nm := fun q => by { have := (hmm.2 q).1; omega }
          rw [if_neg hno] at hfe
          refine ih z38 z42 ⟨by omega, ?_, ?_, ?_⟩ ?_
          · rw [ez38]; split <;> omega
          · rw [ez38]; split <;> omega
          · rw [← h3, hfe, ez38]; split; · { rw [FM_neg (by decide), FM_neg (by omega)] }; · rfl
          · rw [ez38]; split <;> omega
        · refine V_iload_n (q := 31) dX2_methodOwner_30 rfl rfl rfl ?_
          have ho : 0 ≤ oM M u nm := by { rcases (show oM M u nm < 0 ∨ 0 ≤ oM M u nm by omega) with q | q; · { have := (hmm.1 q).1; omega }; · exact q }
          rw [if_pos ho] at hfe
          exact V_iret dX2_methodOwner_31 (Nat.le_of_ble_eq_true rfl) (Nat.le_of_ble_eq_true rfl) ⟨_, rfl, rfl, rfl, by { rw [← h3, hfe, if_neg (by omega)]; omega }⟩
  refine V_iload_n (q := 1) dX2_methodOwner_0 rfl rfl rfl ?_
  refine V_istore_n (q := 2) (lv1 := [(3, 110), (0, t), (0, nm), (0, t), (9, 0)]) dX2_methodOwner_1 rfl rfl (by decide) rfl rfl ?_
  refine V_iconst (q := 3) dX2_methodOwner_2 rfl (by decide) ?_
  refine V_istore (q := 5) (lv1 := [(3, 110), (0, t), (0, nm), (0, t), (0, 0)]) dX2_methodOwner_3 rfl (by decide) rfl rfl ?_
  exact loop t 0 ⟨by decide, ht.2, fun _ => by omega, rfl⟩
