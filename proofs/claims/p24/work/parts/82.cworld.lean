/-! THE CLASS: rows copied; worlds made, cleared, compared -/
theorem cp_link : Cond.methodLink RX5 46 arraycopyName ∈ lw_tbl := List.mem_of_getElem? (i := 473) (by decide +kernel)
theorem cp_nat : Cond.native arraycopyName ∈ lw_tbl := List.mem_of_getElem? (i := 475) (by decide +kernel)
theorem cp_stat : Cond.static arraycopyName ∈ lw_tbl := List.mem_of_getElem? (i := 474) (by decide +kernel)
theorem cp_ini : Cond.initialized "java/lang/System" ∈ lw_tbl := List.mem_of_getElem? (i := 57) (by decide +kernel)
/-- a row with its first places copied -/
def cpR (μ : Mem) (u t n : Int) : Mem := mn μ t (fun i => if 0 ≤ i ∧ i < n then μ u i else μ t i)
theorem HR_row {Γ : GC} {α : Sh} {μ μ1 : Mem} {ad : Ad} {H1 : Heap} {L : List Int} {t : Int} {q0 : Nat} (hn : L.Nodup) (hL : ∀ t, t ∈ L ↔ (α t).1 ≠ 0) (hq : L[q0]? = some t) (hW : WFm α μ1) (hm : ∀ u, u ≠ t → μ1 u = μ u) {E : va_E} (hE : E = ec Γ ad (α t) (μ1 t))
    (hP : va_P (g_D Γ) CL ((hws Γ ad α μ L).set q0 (ad t, E)) H1) (hD : va_D (fun q => g_b Γ ≤ q) ((hws Γ ad α μ L).set q0 (ad t, E))) : HR Γ α μ1 ad H1 := by
  subst hE
  rw [hws_set hn hq hm] at hP hD
  exact ⟨⟨L, hn, hL, hP, hD⟩, hW⟩
theorem V_acopy {Γ : GC} {α0 : Sh} {ad0 : Ad} {Z : ZT} {R : Room} {cc : ByteArray} {nL : Nat} {ret : Option FieldType} {nm : String} {pc q : Nat} {st lv : List AV} {α : Sh} {μ : Mem} {cs sl : Nat} {t u n : Int} {nu nt : Nat} (hd : decode cc pc = .ok (.invokestatic 46, 3)) (hp : pc + 3 = q) (t0 : 0 ≤ t) (u0 : 0 ≤ u) (ht : α t = (20, nt)) (hu : α u = (20, nu)) (hn : 0 ≤ n ∧ n ≤ nt ∧ n ≤ nu ∧ n < 2147483648) (hf : 1 ≤ R.frames) (hlo : catL st + (nativeFrameWords "java/lang/System" "arraycopy" 5 + 11) ≤ R.locals) (kk : ∀ μ1, μ1 = cpR μ u t n → V Γ α0 ad0 Z R RX5 cc nL ret nm q st lv α μ1 cs sl) : V Γ α0 ad0 Z R RX5 cc nL ret nm pc ((0, n) :: (0, 0) :: (3, t) :: (0, 0) :: (3, u) :: st) lv α μ cs sl := by
  intro p e s m args below meth c ad H ls locs F hH hE hst hlv hl hS
  subst hp
  obtain ⟨⟨L, hnd, hL, hP, hD⟩, hW⟩ := id hH
  have hnn : inI n := okl_hd hst
  obtain ⟨q1, hq1⟩ := List.mem_iff_getElem?.mp ((hL t).mpr (by rw [ht]; exact Nat.succ_ne_zero _))
  obtain ⟨q0, hq0⟩ := List.mem_iff_getElem?.mp ((hL u).mpr (by rw [hu]; exact Nat.succ_ne_zero _))
  have he1 := hws_at (Γ := Γ) (ad := ad) (α := α) (μ := μ) hq1
  rw [ht, ec_20] at he1
  have he0 := hws_at (Γ := Γ) (ad := ad) (α := α) (μ := μ) hq0
  rw [hu, ec_20] at he0
  have e1 : cav ad (3, t) = .ref (ad t) := if_neg (by omega)
  have e2 : cav ad (3, u) = .ref (ad u) := if_neg (by omega)
  rw [List.map_cons, List.map_cons, List.map_cons, List.map_cons, List.map_cons, e1, e2]
  have hni : (Int32.ofInt n).toNatClampNeg = n.toNat := oi_nat hnn
  have h0i : (Int32.ofInt 0).toNatClampNeg = 0 := rfl
  refine va_copyi F.hx F.hb (F.ml.trans hl.1.symm) F.ow (F.w cp_link rfl) (F.w cp_nat rfl) (F.w cp_stat rfl) (F.w cp_ini rfl) F.kf.1 hP hD hS q0 q1 0 0 he0 he1 rfl rfl rfl (sp := Int32.ofInt 0) (dp := Int32.ofInt 0) (n := Int32.ofInt n) (by decide) (by decide) (fun h => by have := (oi_lt0 hnn).mp h; omega) (by rw [hni, h0i]; omega) (by rw [hni, h0i]; omega) (fun i hi => rfl) hf (by rw [catL_eq]; exact hlo) hd ?_
  intro H1 locs1 hP1 hD1 hS1
  rw [hni, h0i] at hP1 hD1
  have hm : ∀ x, x ≠ t → cpR μ u t n x = μ x := fun x hx => mn_t _ _ _ hx
  have hW1 : WFm α (cpR μ u t n) := by
    intro x i hx
    by_cases h : x = t
    · subst h
      show okx α _ (cpR μ u x n x i)
      unfold cpR
      rw [mn_s]
      show okx α _ (if 0 ≤ (i : Int) ∧ (i : Int) < n then μ u i else μ x i)
      split
      · have := hW u i (by rw [hu]; exact Nat.succ_ne_zero _)
        rw [hu] at this
        rw [ht]
        exact this
      · exact hW x i hx
    · rw [hm x h]; exact hW x i hx
  have hE1 : (.inl (g_A Γ 20, nt, .inl (va_cpy (fun i : Nat => Int32.ofInt (μ u i)) (fun i : Nat => Int32.ofInt (μ t i)) 0 0 n.toNat)) : va_E) = ec Γ ad (α t) (cpR μ u t n t) := by
    rw [ht, ec_20]
    congr 4
    funext j
    unfold va_cpy cpR
    rw [mn_s]
    by_cases hj : 0 ≤ j ∧ j < 0 + n.toNat
    · rw [if_pos hj, if_pos (by omega)]
      congr 2
      omega
    · rw [if_neg hj, if_neg (by omega)]
  exact kk _ rfl p e s m args below meth c ad H1 ls locs1 F (HR_row hnd hL hq1 hW1 hm hE1 hP1 hD1) hE (okl_tl (okl_tl (okl_tl (okl_tl (okl_tl hst))))) hlv hl hS1
theorem tX5_sameIn {Γ : GC} {α : Sh} {μ : Mem} {W U t : Int} (hW0 : 0 ≤ W) (hU0 : 0 ≤ U) (hW : WoS W α μ) (hU : WoS U α μ) (ht : 0 ≤ t ∧ t < 40) : MT Γ yX5_sameIn cX5_sameIn 4 (some .boolean) 0 0 0 [(3, W), (3, U), (0, t)] α μ (QI fun r α1 μ1 => α1 = α ∧ μ1 = μ ∧ (0 ≤ r ∧ r ≤ 1) ∧ (r = 1 ↔ (μ (W + 1) t = μ (U + 1) t ∧ ∀ p : Int, 10 * t ≤ p → p < 10 * t + 10 → μ (W + 2) p = μ (U + 2) p))) := by
  refine MT_of (k := 1) [(3, W), (3, U), (0, t), (9, 0)] pn_X5_sameIn rfl rfl (fun ad0 => ?_)
  have loop : μ (W + 1) t = μ (U + 1) t → ∀ k : Int, (10 * t ≤ k ∧ k ≤ 10 * t + 10 ∧ ∀ p : Int, 10 * t ≤ p → p < k → μ (W + 2) p = μ (U + 2) p) → V Γ α ad0 (ZM Γ α ad0 (QI fun r α1 μ1 => α1 = α ∧ μ1 = μ ∧ (0 ≤ r ∧ r ≤ 1) ∧ (r = 1 ↔ (μ (W + 1) t = μ (U + 1) t ∧ ∀ p : Int, 10 * t ≤ p → p < 10 * t + 10 → μ (W + 2) p = μ (U + 2) p))) 0 0) (RM 0 0 0) RX5 cX5_sameIn 4 (some .boolean) yX5_sameIn.name 22 [] [(3, W), (3, U), (0, t), (0, k)] α μ 0 0 := by
    intro hst
    refine loop1 _ (fun k => (10 * t + 10 - k).toNat) _ ?_
    rintro k ⟨h1, h2, h3⟩ ih
    refine V_iload_n (q := 23) dX5_sameIn_22 rfl rfl rfl ?_
    refine V_iload_n (q := 24) dX5_sameIn_23 rfl rfl rfl ?_
    refine V_iconst (q := 25) dX5_sameIn_24 rfl (by decide) ?_
    refine V_iadd (q := 26) dX5_sameIn_25 rfl (by omega) (fun z25 ez25 => ?_)
    refine V_bipush (q := 28) dX5_sameIn_26 rfl (by decide) ?_
    refine V_imul (q := 29) dX5_sameIn_28 rfl (by omega) (fun z28 ez28 => ?_)
    refine V_icmp_ge (q := 32) (tgt := 55) dX5_sameIn_29 (by decide) rfl (fun c29 => ?_) (fun c29 => ?_)
    · refine V_iconst (q := 56) dX5_sameIn_55 rfl (by decide) ?_
      exact V_zret dX5_sameIn_56 (by decide) (Nat.le_of_ble_eq_true rfl) (Nat.le_of_ble_eq_true rfl) ⟨_, rfl, rfl, rfl, by omega, ⟨fun _ => ⟨hst, fun p a b => h3 p a (by omega)⟩, fun _ => rfl⟩⟩
    · refine V_aload_n (q := 33) dX5_sameIn_32 rfl rfl rfl ?_
      refine V_getA (q := 36) 1 dX5_sameIn_33 rfl flX5_15 (by omega) (congrArg Prod.fst (show _ = (6, 0) by rw [hW.1.1])) rfl rfl (fun z33 ez33 rz33 => ?_)
      rw [hW.2.2.1] at ez33
      obtain rfl : z33 = (W + 2) := ez33
      refine V_iload_n (q := 37) dX5_sameIn_36 rfl rfl rfl ?_
      refine V_iald (q := 38) (n := 400) dX5_sameIn_37 rfl (by omega) (by rw [hW.1.2.2.1]) (by omega) (fun z37 ez37 rz37 => ?_)
      refine V_aload_n (q := 39) dX5_sameIn_38 rfl rfl rfl ?_
      refine V_getA (q := 42) 1 dX5_sameIn_39 rfl flX5_15 (by omega) (congrArg Prod.fst (show _ = (6, 0) by rw [hU.1.1])) rfl rfl (fun z39 ez39 rz39 => ?_)
      rw [hU.2.2.1] at ez39
      obtain rfl : z39 = (U + 2) := ez39
      refine V_iload_n (q := 43) dX5_sameIn_42 rfl rfl rfl ?_
      refine V_iald (q := 44) (n := 400) dX5_sameIn_43 rfl (by omega) (by rw [hU.1.2.2.1]) (by omega) (fun z43 ez43 rz43 => ?_)
      refine V_icmp_eq (q := 47) (tgt := 49) dX5_sameIn_44 (by decide) rfl (fun c44 => ?_) (fun c44 => ?_)
      · refine V_iinc (q := 52) dX5_sameIn_49 rfl rfl (by decide) rfl (by omega) (fun z49 lz49 ez49 hlz49 => ?_)
        obtain rfl : lz49 = [(3, W), (3, U), (0, t), (0, z49)] := hlz49
        refine V_goto (tgt := 22) dX5_sameIn_52 (by decide) ?_
        exact ih z49 ⟨by omega, by omega, fun p a b => by { by_cases hp : p = k; · { rw [hp]; omega }; · { exact h3 p a (by omega) } }⟩ (by omega)
      · refine V_iconst (q := 48) dX5_sameIn_47 rfl (by decide) ?_
        exact V_zret dX5_sameIn_48 (by decide) (Nat.le_of_ble_eq_true rfl) (Nat.le_of_ble_eq_true rfl) ⟨_, rfl, rfl, rfl, by omega, ⟨fun h => absurd h (by decide), fun h => absurd (h.2 k (by omega) (by omega)) (by omega)⟩⟩
  refine V_aload_n (q := 1) dX5_sameIn_0 rfl rfl rfl ?_
  refine V_getA (q := 4) 0 dX5_sameIn_1 rfl flX5_9 (by omega) (congrArg Prod.fst (show _ = (6, 0) by rw [hW.1.1])) rfl rfl (fun z1 ez1 rz1 => ?_)
  rw [hW.2.1] at ez1
  obtain rfl : z1 = (W + 1) := ez1
  refine V_iload_n (q := 5) dX5_sameIn_4 rfl rfl rfl ?_
  refine V_iald (q := 6) (n := 40) dX5_sameIn_5 rfl (by omega) (by rw [hW.1.2.1]) (by omega) (fun z5 ez5 rz5 => ?_)
  refine V_aload_n (q := 7) dX5_sameIn_6 rfl rfl rfl ?_
  refine V_getA (q := 10) 0 dX5_sameIn_7 rfl flX5_9 (by omega) (congrArg Prod.fst (show _ = (6, 0) by rw [hU.1.1])) rfl rfl (fun z7 ez7 rz7 => ?_)
  rw [hU.2.1] at ez7
  obtain rfl : z7 = (U + 1) := ez7
  refine V_iload_n (q := 11) dX5_sameIn_10 rfl rfl rfl ?_
  refine V_iald (q := 12) (n := 40) dX5_sameIn_11 rfl (by omega) (by rw [hU.1.2.1]) (by omega) (fun z11 ez11 rz11 => ?_)
  refine V_icmp_eq (q := 15) (tgt := 17) dX5_sameIn_12 (by decide) rfl (fun c12 => ?_) (fun c12 => ?_)
  · refine V_iload_n (q := 18) dX5_sameIn_17 rfl rfl rfl ?_
    refine V_bipush (q := 20) dX5_sameIn_18 rfl (by decide) ?_
    refine V_imul (q := 21) dX5_sameIn_20 rfl (by omega) (fun z20 ez20 => ?_)
    refine V_istore_n (q := 22) (lv1 := [(3, W), (3, U), (0, t), (0, z20)]) dX5_sameIn_21 rfl rfl (by decide) rfl rfl ?_
    exact loop (by omega) z20 ⟨by omega, by omega, fun p a b => by omega⟩
  · refine V_iconst (q := 16) dX5_sameIn_15 rfl (by decide) ?_
    exact V_zret dX5_sameIn_16 (by decide) (Nat.le_of_ble_eq_true rfl) (Nat.le_of_ble_eq_true rfl) ⟨_, rfl, rfl, rfl, by omega, ⟨fun h => absurd h (by decide), fun h => absurd h.1 (by omega)⟩⟩
theorem oF_at {M : Mem} {t k : Int} (w : WFD M) (t0 : 0 ≤ t) (t1 : t < M 0 0) (k0 : 0 ≤ k) (k1 : k < M 6 t) : oF M t (M 7 (6 * t + k)) = k := by
  rcases oF_rng M t (M 7 (6 * t + k)) with h | ⟨h1, h2, h3⟩
  · exact absurd rfl (lastAt_pos (f := M 7) (b := 6 * t) (k := (M 6 t).toNat) (nm := M 7 (6 * t + k)) (by have : oF M t (M 7 (6 * t + k)) < 0 := by omega
                                                                                                          exact this) k k0 (by omega))
  · exact w.fdis t _ k t0 t1 h1 h2 k0 k1 h3
theorem dif_same {M : Mem} {x u t W U : Int} {μ : Mem} (w : WFD M) (t0 : 0 ≤ t) (t1 : t < M 0 0) (c : WrC M x W μ) (d : WrC M u U μ) : (μ (W + 1) t = μ (U + 1) t ∧ ∀ p : Int, 10 * t ≤ p → p < 10 * t + 10 → μ (W + 2) p = μ (U + 2) p) ↔ ¬ difT M x u t := by
  have hn := w.n
  unfold difT
  rw [c.1 t t0 (by omega), d.1 t t0 (by omega)]
  constructor
  · rintro ⟨h1, h2⟩ (h | ⟨k, k0, k1, h⟩)
    · exact h h1
    · have hf := w.fname t k t0 t1 k0 k1
      have e := oF_at w t0 t1 k0 k1
      have a := c.2.1 t _ t0 t1 hf.1 hf.2
      have b := d.2.1 t _ t0 t1 hf.1 hf.2
      rw [e, if_pos k0] at a b
      exact h (by rw [← a, ← b]; exact h2 _ (by omega) (by omega))
  · intro h
    refine ⟨Classical.byContradiction fun q => h (Or.inl q), fun p p0 p1 => ?_⟩
    have a := c.2.1 t (p - 10 * t) t0 t1 (by omega) (by omega)
    have b := d.2.1 t (p - 10 * t) t0 t1 (by omega) (by omega)
    rw [show 10 * t + (p - 10 * t) = p by omega] at a b
    rw [a, b]
    by_cases q : 0 ≤ oF M t (p - 10 * t)
    · rw [if_pos q, if_pos q]
      have hr := (oF_rng M t (p - 10 * t)).resolve_left (by omega)
      exact Classical.byContradiction fun q2 => h (Or.inr ⟨_, q, hr.2.1, q2⟩)
    · rw [if_neg q, if_neg q]
theorem tX6_differs {Γ : GC} {α : Sh} {μ : Mem} {x u : Int} {M : Mem} (w : WFD M) (D : DesR M α μ) (B : BenR M α μ) (Wo : WosR M α μ)  : MT Γ yX6_differs cX6_differs 4 (some .int) 1 0 0 [(3, 100), (0, x), (0, u)] α μ (QI fun r α1 μ1 => α1 = α ∧ μ1 = μ ∧ ((¬ (isW M x ∧ isW M u) ∧ r = -1) ∨ ((isW M x ∧ isW M u) ∧ isFirst (difT M x u) (M 0 0) r))) := by
  have hn := w.n
  have hw := w.w
  refine MT_of (k := 1) [(3, 100), (0, x), (0, u), (9, 0)] pn_X6_differs rfl rfl (fun ad0 => ?_)
  have loop : isW M x → isW M u → ∀ t : Int, (0 ≤ t ∧ t ≤ M 0 0 ∧ ∀ k : Int, 0 ≤ k → k < t → ¬ difT M x u k) → V Γ α ad0 (ZM Γ α ad0 (QI fun r α1 μ1 => α1 = α ∧ μ1 = μ ∧ ((¬ (isW M x ∧ isW M u) ∧ r = -1) ∨ ((isW M x ∧ isW M u) ∧ isFirst (difT M x u) (M 0 0) r))) 0 0) (RM 1 0 0) RX6 cX6_differs 4 (some .int) yX6_differs.name 20 [] [(3, 100), (0, x), (0, u), (0, t)] α μ 0 0 := by
    intro hx hu
    have hxu : isW M x ∧ isW M u := ⟨hx, hu⟩
    unfold isW at hx hu
    refine loop1 _ (fun t => (M 0 0 - t).toNat) _ ?_
    rintro t ⟨h1, h2, h3⟩ ih
    obtain ⟨W, eW⟩ : ∃ W : Int, W = 200 + 10 * x := ⟨_, rfl⟩
    obtain ⟨kW, sW, cW, aW⟩ := Wo.at (w := x) (by omega) (by omega)
    rw [← eW] at kW sW cW aW
    obtain ⟨U, eU⟩ : ∃ W : Int, W = 200 + 10 * u := ⟨_, rfl⟩
    obtain ⟨kU, sU, cU, aU⟩ := Wo.at (w := u) (by omega) (by omega)
    rw [← eU] at kU sU cU aU
    refine V_iload_n (q := 21) dX6_differs_20 rfl rfl rfl ?_
    refine V_aload_n (q := 22) dX6_differs_21 rfl rfl rfl ?_
    refine V_getA (q := 25) 0 dX6_differs_22 rfl flX6_10 (by decide) (congrArg Prod.fst (show _ = (7, 0) by rw [B.1.1.1])) rfl rfl (fun z22 ez22 rz22 => ?_)
    rw [B.1.2.1] at ez22
    obtain rfl : z22 = 110 := ez22
    refine V_getI (q := 28) 1 dX6_differs_25 rfl flX6_49 (by decide) (congrArg Prod.fst (show _ = (3, 0) by rw [D.1.1.1])) rfl rfl (fun z25 ez25 rz25 => ?_)
    rw [D.2.1] at ez25
    refine V_icmp_ge (q := 31) (tgt := 58) dX6_differs_28 (by decide) rfl (fun c28 => ?_) (fun c28 => ?_)
    · refine V_bipush (q := 60) dX6_differs_58 rfl (by decide) ?_
      exact V_iret dX6_differs_60 (Nat.le_of_ble_eq_true rfl) (Nat.le_of_ble_eq_true rfl) ⟨_, rfl, rfl, rfl, Or.inr ⟨hxu, Or.inl ⟨rfl, fun k a b => h3 k a (by omega)⟩⟩⟩
    · refine V_aload_n (q := 32) dX6_differs_31 rfl rfl rfl ?_
      refine V_getA (q := 35) 1 dX6_differs_32 rfl flX6_18 (by decide) (congrArg Prod.fst (show _ = (7, 0) by rw [B.1.1.1])) rfl rfl (fun z32 ez32 rz32 => ?_)
      rw [B.1.2.2.1] at ez32
      obtain rfl : z32 = 101 := ez32
      refine V_iload_n (q := 36) dX6_differs_35 rfl rfl rfl ?_
      refine V_aald (q := 37) (n := 12) (ta := 26) (ci := 5) dX6_differs_36 rfl (by decide) (by rw [B.1.1.2]) rfl (by decide) (by omega) (fun z36 ez36 rz36 => ?_)
      rw [kW] at ez36
      obtain rfl : W = z36 := ez36.symm
      refine V_aload_n (q := 38) dX6_differs_37 rfl rfl rfl ?_
      refine V_getA (q := 41) 1 dX6_differs_38 rfl flX6_18 (by decide) (congrArg Prod.fst (show _ = (7, 0) by rw [B.1.1.1])) rfl rfl (fun z38 ez38 rz38 => ?_)
      rw [B.1.2.2.1] at ez38
      obtain rfl : z38 = 101 := ez38
      refine V_iload_n (q := 42) dX6_differs_41 rfl rfl rfl ?_
      refine V_aald (q := 43) (n := 12) (ta := 26) (ci := 5) dX6_differs_42 rfl (by decide) (by rw [B.1.1.2]) rfl (by decide) (by omega) (fun z42 ez42 rz42 => ?_)
      rw [kU] at ez42
      obtain rfl : U = z42 := ez42.symm
      refine V_iload_n (q := 44) dX6_differs_43 rfl rfl rfl ?_
      refine V_rdV (q := 47) (As := [(3, U), (0, t)]) (tX5_sameIn (by omega) (by omega) sW sU ⟨h1, by omega⟩) dX6_differs_44 rfl mlX6_213 mw_X5_sameIn im_X5_sameIn sl_X5_sameIn md_X5_sameIn rfl (by decide) (by omega) (congrArg Prod.fst (show _ = (6, 0) by rw [sW.1.1])) rfl rfl (by decide) (by decide) (Nat.le_of_ble_eq_true rfl) (Nat.le_of_ble_eq_true rfl) (Nat.le_of_ble_eq_true rfl) (fun z44 rz44 hz44 => ?_)
      obtain ⟨bz44, hz44⟩ := hz44
      have hds := hz44.trans (dif_same w h1 (by omega) cW cU)
      refine V_if_ne (q := 50) (tgt := 52) dX6_differs_47 (by decide) rfl (fun c47 => ?_) (fun c47 => ?_)
      · refine V_iinc (q := 55) dX6_differs_52 rfl rfl (by decide) rfl (by omega) (fun z52 lz52 ez52 hlz52 => ?_)
        obtain rfl : lz52 = [(3, 100), (0, x), (0, u), (0, z52)] := hlz52
        refine V_goto (tgt := 20) dX6_differs_55 (by decide) ?_
        exact ih z52 ⟨by omega, by omega, fun k a b => by { by_cases hk : k = t; · { rw [hk]; exact hds.mp (by omega) }; · { exact h3 k a (by omega) } }⟩ (by omega)
      · refine V_iload_n (q := 51) dX6_differs_50 rfl rfl rfl ?_
        exact V_iret dX6_differs_51 (Nat.le_of_ble_eq_true rfl) (Nat.le_of_ble_eq_true rfl) ⟨_, rfl, rfl, rfl, Or.inr ⟨hxu, Or.inr ⟨h1, by omega, Classical.byContradiction (fun q => absurd (hds.mpr q) (by omega)), h3⟩⟩⟩
  refine V_aload_n (q := 1) dX6_differs_0 rfl rfl rfl ?_
  refine V_iload_n (q := 2) dX6_differs_1 rfl rfl rfl ?_
  refine V_rdV (q := 5) (As := [(0, x)]) (tX6_isWorld B.1.1.1) dX6_differs_2 rfl mlX6_182 mw_X6_isWorld im_X6_isWorld sl_X6_isWorld md_X6_isWorld rfl (by decide) (by decide) (congrArg Prod.fst (show _ = (7, 0) by rw [B.1.1.1])) rfl rfl (by decide) (by decide) (Nat.le_of_ble_eq_true rfl) (Nat.le_of_ble_eq_true rfl) (Nat.le_of_ble_eq_true rfl) (fun z2 rz2 hz2 => ?_)
  obtain ⟨bz2, hz2⟩ := hz2
  rw [B.2] at hz2
  refine V_if_eq (q := 8) (tgt := 16) dX6_differs_5 (by decide) rfl (fun c5 => ?_) (fun c5 => ?_)
  · refine V_iconst (q := 17) dX6_differs_16 rfl (by decide) ?_
    first | (exfalso; omega) | exact V_iret dX6_differs_17 (Nat.le_of_ble_eq_true rfl) (Nat.le_of_ble_eq_true rfl) ⟨_, rfl, rfl, rfl, Or.inl ⟨by unfold isW; omega, rfl⟩⟩
  · refine V_aload_n (q := 9) dX6_differs_8 rfl rfl rfl ?_
    refine V_iload_n (q := 10) dX6_differs_9 rfl rfl rfl ?_
    refine V_rdV (q := 13) (As := [(0, u)]) (tX6_isWorld B.1.1.1) dX6_differs_10 rfl mlX6_182 mw_X6_isWorld im_X6_isWorld sl_X6_isWorld md_X6_isWorld rfl (by decide) (by decide) (congrArg Prod.fst (show _ = (7, 0) by rw [B.1.1.1])) rfl rfl (by decide) (by decide) (Nat.le_of_ble_eq_true rfl) (Nat.le_of_ble_eq_true rfl) (Nat.le_of_ble_eq_true rfl) (fun z10 rz10 hz10 => ?_)
    obtain ⟨bz10, hz10⟩ := hz10
    rw [B.2] at hz10
    refine V_if_ne (q := 16) (tgt := 18) dX6_differs_13 (by decide) rfl (fun c13 => ?_) (fun c13 => ?_)
    · refine V_iconst (q := 19) dX6_differs_18 rfl (by decide) ?_
      refine V_istore_n (q := 20) (lv1 := [(3, 100), (0, x), (0, u), (0, 0)]) dX6_differs_19 rfl rfl (by decide) rfl rfl ?_
      exact loop (by unfold isW; omega) (by unfold isW; omega) 0 ⟨by decide, hn.1, fun k a b => by omega⟩
    · refine V_iconst (q := 17) dX6_differs_16 rfl (by decide) ?_
      first | (exfalso; omega) | exact V_iret dX6_differs_17 (Nat.le_of_ble_eq_true rfl) (Nat.le_of_ble_eq_true rfl) ⟨_, rfl, rfl, rfl, Or.inl ⟨by unfold isW; omega, rfl⟩⟩
theorem tX5_clear {Γ : GC} {α : Sh} {μ : Mem} {W : Int} (hW0 : 0 ≤ W) (hW : WoS W α μ) : MT Γ yX5_clear cX5_clear 1 none 1 0 0 [(3, W)] α μ (QN fun α1 μ1 => α1 = α ∧ (∀ i : Int, 0 ≤ i → i < 40 → μ1 (W + 1) i = 0) ∧ (∀ i : Int, 0 ≤ i → i < 400 → μ1 (W + 2) i = 0) ∧ (μ1 W 3 = 0 ∧ μ1 W 5 = 0 ∧ μ1 W 6 = -6 ∧ μ1 W 7 = -6) ∧ (∀ i : Int, 0 ≤ i → i < 4 → μ1 (W + 5) i = 0) ∧ (∀ i : Int, ¬ (i = 3 ∨ i = 5 ∨ i = 6 ∨ i = 7) → μ1 W i = μ W i) ∧ ∀ u : Int, u ≠ W → u ≠ W + 1 → u ≠ W + 2 → u ≠ W + 5 → μ1 u = μ u) := by
  refine MT_of (k := 0) [(3, W)] pn_X5_clear rfl rfl (fun ad0 => ?_)
  refine V_aload_n (q := 1) dX5_clear_0 rfl rfl rfl ?_
  refine V_getA (q := 4) 0 dX5_clear_1 rfl flX5_9 (by omega) (congrArg Prod.fst (show _ = (6, 0) by rw [hW.1.1])) rfl rfl (fun z1 ez1 rz1 => ?_)
  rw [hW.2.1] at ez1
  obtain rfl : z1 = (W + 1) := ez1
  refine V_iconst (q := 5) dX5_clear_4 rfl (by decide) ?_
  refine V_chS (q := 8) (As := [(3, (W + 1)), (0, 0)]) (tJ7_fill_53178 (by omega) (by rw [hW.1.2.1]) (by decide)) dX5_clear_5 rfl mlX5_34 mw_J7_fill_53178 sm_J7_fill_53178 md_J7_fill_53178 rfl rfl (by decide) (by decide) (Nat.le_of_ble_eq_true rfl) (Nat.le_of_ble_eq_true rfl) (Nat.le_of_ble_eq_true rfl) (fun A5 M5 xM5 hM5 => ?_)
  obtain ⟨hAA, fM5, gM5⟩ := hM5
  replace hAA := hAA.symm
  subst hAA
  refine V_aload_n (q := 9) dX5_clear_8 rfl rfl rfl ?_
  refine V_getA (q := 12) 1 dX5_clear_9 rfl flX5_15 (by omega) (congrArg Prod.fst (show _ = (6, 0) by rw [hW.1.1])) rfl rfl (fun z9 ez9 rz9 => ?_)
  rw [fM5 W (by omega), hW.2.2.1] at ez9
  obtain rfl : z9 = (W + 2) := ez9
  refine V_iconst (q := 13) dX5_clear_12 rfl (by decide) ?_
  refine V_chS (q := 16) (As := [(3, (W + 2)), (0, 0)]) (tJ7_fill_53178 (by omega) (by rw [hW.1.2.2.1]) (by decide)) dX5_clear_13 rfl mlX5_34 mw_J7_fill_53178 sm_J7_fill_53178 md_J7_fill_53178 rfl rfl (by decide) (by decide) (Nat.le_of_ble_eq_true rfl) (Nat.le_of_ble_eq_true rfl) (Nat.le_of_ble_eq_true rfl) (fun A13 M13 xM13 hM13 => ?_)
  obtain ⟨hAA, fM13, gM13⟩ := hM13
  replace hAA := hAA.symm
  subst hAA
  refine V_aload_n (q := 17) dX5_clear_16 rfl rfl rfl ?_
  refine V_iconst (q := 18) dX5_clear_17 rfl (by decide) ?_
  refine V_putI (q := 21) 3 dX5_clear_18 rfl flX5_40 (Or.inl rfl) (by omega) (congrArg Prod.fst (show _ = (6, 0) by rw [hW.1.1])) rfl rfl (fun M18 eM18 => ?_)
  refine V_aload_n (q := 22) dX5_clear_21 rfl rfl rfl ?_
  refine V_iconst (q := 23) dX5_clear_22 rfl (by decide) ?_
  refine V_putI (q := 26) 5 dX5_clear_23 rfl flX5_43 (Or.inl rfl) (by omega) (congrArg Prod.fst (show _ = (6, 0) by rw [hW.1.1])) rfl rfl (fun M23 eM23 => ?_)
  refine V_aload_n (q := 27) dX5_clear_26 rfl rfl rfl ?_
  refine V_bipush (q := 29) dX5_clear_27 rfl (by decide) ?_
  refine V_putI (q := 32) 6 dX5_clear_29 rfl flX5_24 (Or.inl rfl) (by omega) (congrArg Prod.fst (show _ = (6, 0) by rw [hW.1.1])) rfl rfl (fun M29 eM29 => ?_)
  refine V_aload_n (q := 33) dX5_clear_32 rfl rfl rfl ?_
  refine V_bipush (q := 35) dX5_clear_33 rfl (by decide) ?_
  refine V_putI (q := 38) 7 dX5_clear_35 rfl flX5_28 (Or.inl rfl) (by omega) (congrArg Prod.fst (show _ = (6, 0) by rw [hW.1.1])) rfl rfl (fun M35 eM35 => ?_)
  refine V_aload_n (q := 39) dX5_clear_38 rfl rfl rfl ?_
  refine V_getA (q := 42) 8 dX5_clear_39 rfl flX5_31 (by omega) (congrArg Prod.fst (show _ = (6, 0) by rw [hW.1.1])) rfl rfl (fun z39 ez39 rz39 => ?_)
  rw [eM35, mu_ne (by omega), eM29, mu_ne (by omega), eM23, mu_ne (by omega), eM18, mu_ne (by omega), fM13 W (by omega), fM5 W (by omega), hW.2.2.2.2.2] at ez39
  obtain rfl : z39 = (W + 5) := ez39
  refine V_iconst (q := 43) dX5_clear_42 rfl (by decide) ?_
  refine V_chS (q := 46) (As := [(3, (W + 5)), (0, 0)]) (tJ7_fill_53178 (by omega) (by rw [hW.1.2.2.2.2.2]) (by decide)) dX5_clear_43 rfl mlX5_34 mw_J7_fill_53178 sm_J7_fill_53178 md_J7_fill_53178 rfl rfl (by decide) (by decide) (Nat.le_of_ble_eq_true rfl) (Nat.le_of_ble_eq_true rfl) (Nat.le_of_ble_eq_true rfl) (fun A43 M43 xM43 hM43 => ?_)
  obtain ⟨hAA, fM43, gM43⟩ := hM43
  replace hAA := hAA.symm
  subst hAA
  refine V_vret dX5_clear_46 (Nat.le_of_ble_eq_true rfl) (Nat.le_of_ble_eq_true rfl) ⟨rfl, rfl, fun i i0 i1 => ?_, fun i i0 i1 => ?_, ⟨(by rw [fM43 W (by omega), eM35, mu_ne (by omega), eM29, mu_ne (by omega), eM23, mu_ne (by omega), eM18, mu_s]), (by rw [fM43 W (by omega), eM35, mu_ne (by omega), eM29, mu_ne (by omega), eM23, mu_s]), (by rw [fM43 W (by omega), eM35, mu_ne (by omega), eM29, mu_s]), (by rw [fM43 W (by omega), eM35, mu_s])⟩, gM43, fun i hi => ?_, fun u h1 h2 h3 h4 => ?_⟩
  · rw [fM43 _ (by omega), eM35, mu_f _ _ _ _ (by omega), eM29, mu_f _ _ _ _ (by omega), eM23, mu_f _ _ _ _ (by omega), eM18, mu_f _ _ _ _ (by omega), fM13 _ (by omega)]; exact gM5 i i0 i1
  · rw [fM43 _ (by omega), eM35, mu_f _ _ _ _ (by omega), eM29, mu_f _ _ _ _ (by omega), eM23, mu_f _ _ _ _ (by omega), eM18, mu_f _ _ _ _ (by omega)]; exact gM13 i i0 i1
  · rw [fM43 _ (by omega), eM35, mu_ne (by omega), eM29, mu_ne (by omega), eM23, mu_ne (by omega), eM18, mu_ne (by omega), fM13 _ (by omega), fM5 _ (by omega)]
  · rw [fM43 _ (by omega), eM35, mu_f _ _ _ _ (by omega), eM29, mu_f _ _ _ _ (by omega), eM23, mu_f _ _ _ _ (by omega), eM18, mu_f _ _ _ _ (by omega), fM13 _ (by omega), fM5 _ (by omega)]
theorem tX6_gone {Γ : GC} {α : Sh} {μ : Mem} {M : Mem} (w : WFD M) (D : DesR M α μ) (B : BenR M α μ)  : MT Γ yX6_gone cX6_gone 2 (some .int) 0 0 0 [(3, 100)] α μ (QI fun r α1 μ1 => α1 = α ∧ μ1 = mu μ 100 2 0 ∧ r = M 17 0) := by
  refine MT_of (k := 1) [(3, 100), (9, 0)] pn_X6_gone rfl rfl (fun ad0 => ?_)
  refine V_aload_n (q := 1) dX6_gone_0 rfl rfl rfl ?_
  refine V_getI (q := 4) 2 dX6_gone_1 rfl flX6_22 (by decide) (congrArg Prod.fst (show _ = (7, 0) by rw [B.1.1.1])) rfl rfl (fun z1 ez1 rz1 => ?_)
  rw [B.2] at ez1
  refine V_istore_n (q := 5) (lv1 := [(3, 100), (0, z1)]) dX6_gone_4 rfl rfl (by decide) rfl rfl ?_
  refine V_aload_n (q := 6) dX6_gone_5 rfl rfl rfl ?_
  refine V_iconst (q := 7) dX6_gone_6 rfl (by decide) ?_
  refine V_putI (q := 10) 2 dX6_gone_7 rfl flX6_22 (Or.inl rfl) (by decide) (congrArg Prod.fst (show _ = (7, 0) by rw [B.1.1.1])) rfl rfl (fun M7 eM7 => ?_)
  refine V_iload_n (q := 11) dX6_gone_10 rfl rfl rfl ?_
  exact V_iret dX6_gone_11 (Nat.le_of_ble_eq_true rfl) (Nat.le_of_ble_eq_true rfl) ⟨_, rfl, rfl, eM7, ez1⟩
