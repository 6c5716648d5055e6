/-! THE CLASS: what a start asks for -/
/-- all but the list of what is asked for is the same -/
def SFA (μ μ1 : Mem) : Prop := ∀ u i : Int, ¬ (u = 113 ∨ (u = 110 ∧ (i = 4 ∨ i = 5))) → μ1 u i = μ u i
theorem SFA.rf {μ : Mem} : SFA μ μ := fun _ _ _ => rfl
theorem SFA.sf {μ μ1 : Mem} (h : SFA μ μ1) : SF μ μ1 := fun u i hs => h u i (by unfold scr at hs; omega)
theorem SFA.des {M : Mem} {α : Sh} {μ μ1 : Mem} (h : SFA μ μ1) (w : WFD M) (D : DesR M α μ) : DesR M α μ1 := by
  refine DesR_scr w D h.sf (fun u k u0 u1 k0 k1 => ?_)
  rw [h 112 _ (by omega)]
  exact D.2.2.2.2.1 u k u0 u1 k0 k1
theorem SFm.des {M : Mem} {α : Sh} {μ μ1 : Mem} (D : DesR M α μ1) : DesR M α μ1 := D
def AKR (M μ : Mem) (of : Int) (l : List Int) : Prop := (∀ x : Int, 0 ≤ x → x < 40 → (bt (μ 110 5) x.toNat = true ↔ (x = of ∨ x ∈ l))) ∧ μ 110 4 = l.length ∧ (∀ k : Int, 0 ≤ k → k < l.length → μ 113 k = l.getD k.toNat 0) ∧ l.length + 1 + cntP (fun x => x ≠ of ∧ x ∉ l) (M 0 0).toNat ≤ 40
theorem AKR_c {M μ μ1 : Mem} {of : Int} {l : List Int} (h : AKR M μ of l) (h5 : μ1 110 5 = μ 110 5) (h4 : μ1 110 4 = μ 110 4) (h3 : μ1 113 = μ 113) : AKR M μ1 of l := by
  unfold AKR
  rw [h5, h4, h3]
  exact h
theorem AD_in {of t : Int} {l : List Int} (h : t < 0 ∨ t = of ∨ t ∈ l) : AD of l t = l := if_pos h
theorem AD_out {of t : Int} {l : List Int} (h : ¬ (t < 0 ∨ t = of ∨ t ∈ l)) : AD of l t = l ++ [t] := if_neg h
theorem AKR_room {M μ : Mem} {of t : Int} {l : List Int} (h : AKR M μ of l) (t0 : 0 ≤ t) (t1 : t < M 0 0) (hn : t ≠ of) (hl : t ∉ l) : l.length + 1 + 1 + cntP (fun x => x ≠ of ∧ x ∉ l ++ [t]) (M 0 0).toNat ≤ 40 := by
  have h1 := cntP_lt (p := fun x => x ≠ of ∧ x ∉ l ++ [t]) (r := fun x => x ≠ of ∧ x ∉ l) (j := t) (fun q => q.2 (List.mem_append_right _ List.mem_cons_self)) ⟨hn, hl⟩ (M 0 0).toNat (fun i _ _ q => ⟨q.1, fun q1 => q.2 (List.mem_append_left _ q1)⟩) t0 (by omega)
  have h2 := h.2.2.2
  omega
theorem AKR_push {M μ μ1 : Mem} {of t one : Int} {l : List Int} (h : AKR M μ of l) (t0 : 0 ≤ t) (t1 : t < M 0 0) (hn40 : M 0 0 ≤ 40) (hn : t ≠ of) (hl : t ∉ l) (h1 : ∀ j, bt one j = (decide (j < 64) && !decide (j < t.toNat) && bt 1 (j - t.toNat))) (h5 : ∀ j, bt (μ1 110 5) j = (bt (μ 110 5) j || bt one j)) (h4 : μ1 110 4 = l.length + 1) (h3 : μ1 113 l.length = t) (ho : ∀ k : Int, k ≠ l.length → μ1 113 k = μ 113 k) : AKR M μ1 of (l ++ [t]) := by
  refine ⟨fun x x0 x1 => ?_, by rw [h4, List.length_append, List.length_singleton]; omega, fun k k0 k1 => ?_, ?_⟩
  · rw [h5, bt_one h1 _ (by omega), Bool.or_eq_true, decide_eq_true_eq, h.1 x x0 x1, List.mem_append, List.mem_singleton]
    constructor
    · rintro ((q | q) | q)
      · exact Or.inl q
      · exact Or.inr (Or.inl q)
      · exact Or.inr (Or.inr (by omega))
    · rintro (q | q | q)
      · exact Or.inl (Or.inl q)
      · exact Or.inl (Or.inr q)
      · exact Or.inr (by rw [q])
  · rw [List.length_append, List.length_singleton] at k1
    by_cases hk : k = l.length
    · rw [hk, h3, List.getD_eq_getElem?_getD, Int.toNat_natCast, List.getElem?_append_right (Nat.le_refl _), Nat.sub_self]; rfl
    · rw [ho k hk, h.2.2.1 k k0 (by omega), List.getD_eq_getElem?_getD, List.getD_eq_getElem?_getD, List.getElem?_append_left (by omega)]
  · have := AKR_room h t0 t1 hn hl
    rw [List.length_append, List.length_singleton]
    exact this
theorem tX2_addAsked {Γ : GC} {α : Sh} {μ : Mem} {t of : Int} {l : List Int} {M : Mem} (w : WFD M) (D : DesR M α μ) (ht : t < M 0 0) (hA : AKR M μ of l) : MT Γ yX2_addAsked cX2_addAsked 2 none 0 0 0 [(3, 110), (0, t)] α μ (QN fun α1 μ1 => α1 = α ∧ SFA μ μ1 ∧ AKR M μ1 of (AD of l t)) := by
  have hn := w.n
  refine MT_of (k := 0) [(3, 110), (0, t)] pn_X2_addAsked rfl rfl (fun ad0 => ?_)
  refine V_iload_n (q := 1) dX2_addAsked_0 rfl rfl rfl ?_
  refine V_if_lt (q := 4) (tgt := 58) dX2_addAsked_1 (by decide) rfl (fun c1 => ?_) (fun c1 => ?_)
  · exact V_vret dX2_addAsked_58 (Nat.le_of_ble_eq_true rfl) (Nat.le_of_ble_eq_true rfl) ⟨rfl, rfl, SFA.rf, by rw [AD_in (Or.inl (by omega))]; exact hA⟩
  · refine V_aload_n (q := 5) dX2_addAsked_4 rfl rfl rfl ?_
    refine V_getI (q := 8) 4 dX2_addAsked_5 rfl flX2_116 (by decide) (congrArg Prod.fst (show _ = (3, 0) by rw [D.1.1.1])) rfl rfl (fun z5 ez5 rz5 => ?_)
    rw [hA.2.1] at ez5
    refine V_bipush (q := 10) dX2_addAsked_8 rfl (by decide) ?_
    refine V_icmp_ge (q := 13) (tgt := 58) dX2_addAsked_10 (by decide) rfl (fun c10 => ?_) (fun c10 => ?_)
    · first | (exfalso; have := hA.2.2.2; omega) | (have hin := (hA.1 t (by omega) (by omega)).mp (by { have q := (not_congr (ez22.trans (bt_test (s := t.toNat) (by omega) ez18 ez20 rz20))).mp (by omega); rw [Bool.not_eq_false, ez14] at q; exact q }); exact V_vret dX2_addAsked_58 (Nat.le_of_ble_eq_true rfl) (Nat.le_of_ble_eq_true rfl) ⟨rfl, rfl, SFA.rf, by { rw [AD_in (Or.inr hin)]; exact hA }⟩)
    · refine V_aload_n (q := 14) dX2_addAsked_13 rfl rfl rfl ?_
      refine V_getJ (q := 17) 5 dX2_addAsked_14 rfl flX2_119 (by decide) (congrArg Prod.fst (show _ = (3, 0) by rw [D.1.1.1])) rfl rfl (fun z14 ez14 rz14 => ?_)
      refine V_iload_n (q := 18) dX2_addAsked_17 rfl rfl rfl ?_
      refine V_lshr (q := 19) dX2_addAsked_18 rfl (by omega) (fun z18 ez18 rz18 => ?_)
      refine V_lconst (q := 20) (x := 1) dX2_addAsked_19 rfl rfl ?_
      refine V_land (q := 21) dX2_addAsked_20 rfl (fun z20 ez20 rz20 => ?_)
      refine V_lconst (q := 22) (x := 0) dX2_addAsked_21 rfl rfl ?_
      refine V_lcmp0 (q := 23) dX2_addAsked_22 rfl (fun z22 ez22 => ?_)
      refine V_if_ne (q := 26) (tgt := 58) dX2_addAsked_23 (by decide) rfl (fun c23 => ?_) (fun c23 => ?_)
      · first | (exfalso; have := hA.2.2.2; omega) | (have hin := (hA.1 t (by omega) (by omega)).mp (by { have q := (not_congr (ez22.trans (bt_test (s := t.toNat) (by omega) ez18 ez20 rz20))).mp (by omega); rw [Bool.not_eq_false, ez14] at q; exact q }); exact V_vret dX2_addAsked_58 (Nat.le_of_ble_eq_true rfl) (Nat.le_of_ble_eq_true rfl) ⟨rfl, rfl, SFA.rf, by { rw [AD_in (Or.inr hin)]; exact hA }⟩)
      · have hno : ¬ (t = of ∨ t ∈ l) := fun q => by { have q1 := (hA.1 t (by omega) (by omega)).mpr q; have q2 := (ez22.trans (bt_test (s := t.toNat) (by omega) ez18 ez20 rz20)).mp (by omega); rw [ez14, q1] at q2; exact absurd q2 (by decide) }
        refine V_aload_n (q := 27) dX2_addAsked_26 rfl rfl rfl ?_
        refine V_getA (q := 30) 3 dX2_addAsked_27 rfl flX2_21 (by decide) (congrArg Prod.fst (show _ = (3, 0) by rw [D.1.1.1])) rfl rfl (fun z27 ez27 rz27 => ?_)
        rw [D.1.2.2.2.1] at ez27
        obtain rfl : z27 = 113 := ez27
        refine V_aload_n (q := 31) dX2_addAsked_30 rfl rfl rfl ?_
        refine V_getI (q := 34) 4 dX2_addAsked_31 rfl flX2_116 (by decide) (congrArg Prod.fst (show _ = (3, 0) by rw [D.1.1.1])) rfl rfl (fun z31 ez31 rz31 => ?_)
        rw [hA.2.1] at ez31
        refine V_iload_n (q := 35) dX2_addAsked_34 rfl rfl rfl ?_
        refine V_iast (q := 36) (n := 40) dX2_addAsked_35 rfl (by decide) (by rw [D.1.1.2.2.2.1]) (by omega) (fun M35 eM35 => ?_)
        refine V_aload_n (q := 37) dX2_addAsked_36 rfl rfl rfl ?_
        refine V_dup (q := 38) dX2_addAsked_37 rfl (show (3 : Nat) ≠ 2 by decide) ?_
        refine V_getI (q := 41) 4 dX2_addAsked_38 rfl flX2_116 (by decide) (congrArg Prod.fst (show _ = (3, 0) by rw [D.1.1.1])) rfl rfl (fun z38 ez38 rz38 => ?_)
        rw [eM35, mu_t _ _ _ _ (by omega), hA.2.1] at ez38
        refine V_iconst (q := 42) dX2_addAsked_41 rfl (by decide) ?_
        refine V_iadd (q := 43) dX2_addAsked_42 rfl (by omega) (fun z42 ez42 => ?_)
        refine V_putI (q := 46) 4 dX2_addAsked_43 rfl flX2_116 (Or.inl rfl) (by decide) (congrArg Prod.fst (show _ = (3, 0) by rw [D.1.1.1])) rfl rfl (fun M43 eM43 => ?_)
        refine V_aload_n (q := 47) dX2_addAsked_46 rfl rfl rfl ?_
        refine V_dup (q := 48) dX2_addAsked_47 rfl (show (3 : Nat) ≠ 2 by decide) ?_
        refine V_getJ (q := 51) 5 dX2_addAsked_48 rfl flX2_119 (by decide) (congrArg Prod.fst (show _ = (3, 0) by rw [D.1.1.1])) rfl rfl (fun z48 ez48 rz48 => ?_)
        rw [eM43, mu_i _ _ _ _ (by omega), eM35, mu_t _ _ _ _ (by omega)] at ez48
        refine V_lconst (q := 52) (x := 1) dX2_addAsked_51 rfl rfl ?_
        refine V_iload_n (q := 53) dX2_addAsked_52 rfl rfl rfl ?_
        refine V_lshl (q := 54) dX2_addAsked_53 rfl (by omega) (fun z53 ez53 rz53 => ?_)
        refine V_lor (q := 55) dX2_addAsked_54 rfl (fun z54 ez54 rz54 => ?_)
        refine V_putJ (q := 58) 5 dX2_addAsked_55 rfl flX2_119 (Or.inl rfl) (by decide) (congrArg Prod.fst (show _ = (3, 0) by rw [D.1.1.1])) rfl rfl (fun M55 eM55 => ?_)
        refine V_vret dX2_addAsked_58 (Nat.le_of_ble_eq_true rfl) (Nat.le_of_ble_eq_true rfl) ⟨rfl, rfl, fun u i hh => by rw [eM55, mu_ne (by omega), eM43, mu_ne (by omega), eM35, mu_ne (by omega)], ?_⟩
        rw [AD_out (fun q => hno (q.resolve_left (by omega)))]
        refine AKR_push hA (by omega) ht hn.2 (fun q => hno (Or.inl q)) (fun q => hno (Or.inr q)) ez53 (fun j => ?_) ?_ ?_ (fun k hk => ?_)
        · rw [eM55, mu_s, ez54, ez48]
        · rw [eM55, mu_ne (by omega), eM43, mu_s]; omega
        · rw [eM55, mu_t _ _ _ _ (by decide), eM43, mu_t _ _ _ _ (by decide), eM35, mu_ix (by omega)]
        · rw [eM55, mu_t _ _ _ _ (by decide), eM43, mu_t _ _ _ _ (by decide), eM35, mu_i _ _ _ _ (by omega)]
def LAg (X l : List Int) (t : Int) : Nat → List Int
  | 0 => X
  | k + 1 => AD t (LAg X l t k) (l.getD k 0)
theorem LAf_g (l : List Int) (t : Int) : ∀ k, LAf l t k = LAg [] l t k := by
  intro k
  induction k with
  | zero => rfl
  | succ k ih => show AD _ _ _ = AD _ _ _; rw [ih]
theorem LAg_cons (a : Int) (l : List Int) (t : Int) : ∀ k, LAg [] (a :: l) t (k + 1) = LAg (AD t [] a) l t k := by
  intro k
  induction k with
  | zero => rfl
  | succ k ih =>
    show AD t (LAg [] (a :: l) t (k + 1)) ((a :: l).getD (k + 1) 0) = AD t (LAg (AD t [] a) l t k) (l.getD k 0)
    rw [ih]
    rfl
theorem po_app (M : Mem) (a : List Int) : ∀ (h : Nat) (f : Int) (P : Int → Int) (l : List Int), po M h f (P, a ++ l) = ((po M h f (P, l)).1, a ++ (po M h f (P, l)).2) := by
  intro h
  induction h with
  | zero => intro f P l; rfl
  | succ h ih =>
    intro f P l
    have hc : ∀ (m : Nat) (P : Int → Int) (l : List Int), pof (po M h) M f m (P, a ++ l) = ((pof (po M h) M f m (P, l)).1, a ++ (pof (po M h) M f m (P, l)).2) := by
      intro m
      induction m with
      | zero => intro P l; rfl
      | succ m ihm =>
        intro P l
        show pof (po M h) M f m (po M h _ (P, a ++ l)) = _
        rw [ih, ihm]
        rfl
    unfold po
    show (if P f = 1 then (P, a ++ l) else emitF M f (pof (po M h) M f (M 4 f).toNat (up1 P f, a ++ l))) = _
    by_cases hp : P f = 1
    · rw [if_pos hp, if_pos (show (P, l).1 f = 1 from hp)]
    · rw [if_neg hp, if_neg (show ¬ (P, l).1 f = 1 from hp), hc]
      unfold emitF
      by_cases hm : M 2 f = 1
      · rw [if_pos hm, if_pos hm, List.append_assoc]
      · rw [if_neg hm, if_neg hm]
theorem pof_app (M : Mem) (t : Int) (a : List Int) : ∀ (m : Nat) (P : Int → Int) (l : List Int), pof (PO M) M t m (P, a ++ l) = ((pof (PO M) M t m (P, l)).1, a ++ (pof (PO M) M t m (P, l)).2) := by
  intro m
  induction m with
  | zero => intro P l; rfl
  | succ m ih =>
    intro P l
    show pof (PO M) M t m (PO M _ (P, a ++ l)) = _
    unfold PO
    rw [po_app]
    exact ih _ _
theorem LF_LG {M : Mem} {t : Int} (h : M 1 t ≠ 1) : LF M t = (if M 3 t < 0 then [] else [M 3 t]) ++ LG M t := by
  unfold LF LPs LG
  rw [if_neg h]
  have := pof_app M t (if M 3 t < 0 then [] else [M 3 t]) (M 4 t).toNat (fun _ => 0) []
  rw [List.append_nil] at this
  rw [this]
/-- the list behind ABOVE -/
def AX (M : Mem) (t : Int) : List Int := AD t [] (if M 3 t < 0 then -6 else M 3 t)
theorem LAa_0 {M : Mem} {t : Int} (h : M 1 t ≠ 1) : LAg (AX M t) (LG M t) t (LG M t).length = LAa M t 0 := by
  show _ = LAf (LF M t) t (LF M t).length
  rw [LF_LG h, LAf_g]
  unfold AX
  by_cases h3 : M 3 t < 0
  · rw [if_pos h3, if_pos h3, List.nil_append, AD_in (Or.inl (by decide))]
  · rw [if_neg h3, if_neg h3]
    show _ = LAg [] (M 3 t :: LG M t) t ((LG M t).length + 1)
    rw [LAg_cons]
theorem LAa_f {M : Mem} {t : Int} (h : M 1 t = 1) : LAa M t 0 = [] := by
  show LAf (LF M t) t (LF M t).length = []
  unfold LF
  rw [if_pos h]
  rfl
theorem LG_all {M : Mem} (w : WFD M) {t : Int} (t0 : 0 ≤ t) (t1 : t < M 0 0) : ∀ x ∈ LG M t, 0 ≤ x ∧ x < M 0 0 := by
  have hj : ∀ (j : Nat) (s : St), j ≤ (M 4 t).toNat → (∀ x ∈ s.2, 0 ≤ x ∧ x < M 0 0) → ∀ x ∈ (pof (PO M) M t j s).2, 0 ≤ x ∧ x < M 0 0 := by
    intro j
    induction j with
    | zero => intro s _ hs; exact hs
    | succ j ihj =>
      intro s hj hs
      have hf := w.face t (M 4 t - 1 - j) t0 t1 (by omega) (by omega)
      exact ihj _ (by omega) (po_all w (fun u h0 h1 _ _ => ⟨h0, h1⟩) 41 _ s hf.1 hf.2.1 hf.2.2 hs)
  exact hj _ _ (Nat.le_refl _) (fun x hx => absurd hx List.not_mem_nil)
theorem AKR_0 {M μ : Mem} {t one : Int} (w : WFD M) (t0 : 0 ≤ t) (t1 : t < M 0 0) (h1 : ∀ j, bt one j = (decide (j < 64) && !decide (j < t.toNat) && bt 1 (j - t.toNat))) (h5 : μ 110 5 = one) (h4 : μ 110 4 = 0) : AKR M μ t [] := by
  have hn := w.n
  refine ⟨fun x x0 x1 => ?_, h4, fun k k0 k1 => absurd k1 (by simp only [List.length_nil]; omega), ?_⟩
  · rw [h5, bt_one h1 _ (by omega), decide_eq_true_eq]
    constructor
    · intro q; exact Or.inl (by omega)
    · rintro (q | q)
      · rw [q]
      · exact absurd q List.not_mem_nil
  · have h := cntP_lt (p := fun x => x ≠ t ∧ x ∉ ([] : List Int)) (r := fun _ => True) (j := t) (fun q => q.1 rfl) trivial (M 0 0).toNat (fun _ _ _ _ => trivial) t0 (by omega)
    have := cntP_le (fun _ => True) (M 0 0).toNat
    rw [List.length_nil]
    omega
theorem tX2_listAsked {Γ : GC} {α : Sh} {μ : Mem} {t : Int} {M : Mem} (w : WFD M) (D : DesR M α μ) (ht : 0 ≤ t ∧ t < M 0 0) : MT Γ yX2_listAsked cX2_listAsked 4 none 44 0 0 [(3, 110), (0, t)] α μ (QN fun α1 μ1 => α1 = α ∧ SF μ μ1 ∧ DesR M α μ1 ∧ AKR M μ1 t (LA M t) ∧ μ1 114 = μ 114) := by
  have hn := w.n
  obtain ⟨T, eT⟩ : ∃ T : Int, T = tk t := ⟨_, rfl⟩
  have hT : T = 1000 * (t + 1) := eT
  have hsz := w.size (5 * t) (by omega) (by omega)
  have hLG := LG_all w ht.1 ht.2
  refine MT_of (k := 2) [(3, 110), (0, t), (9, 0), (9, 0)] pn_X2_listAsked rfl rfl (fun ad0 => ?_)
  have loop2_ : ∀ (m : Mem) (i : Int), (DesR M α m ∧ SF μ m ∧ 0 ≤ i ∧ i ≤ M 12 (5 * t) ∧ AKR M m t (LAa M t i.toNat) ∧ m 114 = μ 114) → V Γ α ad0 (ZM Γ α ad0 (QN fun α1 μ1 => α1 = α ∧ SF μ μ1 ∧ DesR M α μ1 ∧ AKR M μ1 t (LA M t) ∧ μ1 114 = μ 114) 0 0) (RM 44 0 0) RX2 cX2_listAsked 4 none yX2_listAsked.name 67 [] [(3, 110), (0, t), (3, T), (0, i)] α m 0 0 := by
    refine loop2 _ (fun _ i => (M 12 (5 * t) - i).toNat) _ ?_
    rintro m i ⟨Dm, fm, h1, h2, hA, h14⟩ ih
    obtain ⟨kT, yT⟩ := Dm.2.2.1 t ht.1 ht.2
    rw [← eT] at kT
    unfold TypR at yT
    rw [← eT] at yT
    refine V_iload_n (q := 68) dX2_listAsked_67 rfl rfl rfl ?_
    refine V_aload_n (q := 69) dX2_listAsked_68 rfl rfl rfl ?_
    refine V_getA (q := 72) 11 dX2_listAsked_69 rfl flX2_130 (by omega) (congrArg Prod.fst (show _ = (5, 0) by rw [yT.1.1.1])) rfl rfl (fun z69 ez69 rz69 => ?_)
    rw [yT.1.2.2.2.2.2.1] at ez69
    obtain rfl : z69 = (T + 5) := ez69
    refine V_getI (q := 75) 1 dX2_listAsked_72 rfl flX2_134 (by omega) (congrArg Prod.fst (show _ = (2, 0) by rw [yT.1.1.2.2.2.2.2.1])) rfl rfl (fun z72 ez72 rz72 => ?_)
    rw [yT.2.2.2.2.2.2.1] at ez72
    refine V_icmp_ge (q := 78) (tgt := 101) dX2_listAsked_75 (by decide) rfl (fun c75 => ?_) (fun c75 => ?_)
    · exact V_vret dX2_listAsked_101 (Nat.le_of_ble_eq_true rfl) (Nat.le_of_ble_eq_true rfl) ⟨rfl, rfl, fm, Dm, by { unfold LA; rw [show M 12 (5 * t) = i by omega]; exact hA }, h14⟩
    · have hb := yT.2.2.2.2.2.2.2.1 i h1 (by omega)
      obtain ⟨a, ea⟩ : ∃ a : Int, a = T + 100 + i := ⟨_, rfl⟩
      rw [← ea, show 12 * (5 * t) + i = 60 * t + i by omega, show T + 5 + 1 = T + 6 by omega] at hb
      obtain ⟨hB, hac⟩ := hb
      have hact := w.act (5 * t) i (by omega) (by omega) h1 (by omega)
      unfold ACT at hact
      rw [show 12 * (5 * t) + i = 60 * t + i by omega] at hact
      refine V_aload_n (q := 79) dX2_listAsked_78 rfl rfl rfl ?_
      refine V_aload_n (q := 80) dX2_listAsked_79 rfl rfl rfl ?_
      refine V_aload_n (q := 81) dX2_listAsked_80 rfl rfl rfl ?_
      refine V_getA (q := 84) 11 dX2_listAsked_81 rfl flX2_130 (by omega) (congrArg Prod.fst (show _ = (5, 0) by rw [yT.1.1.1])) rfl rfl (fun z81 ez81 rz81 => ?_)
      rw [yT.1.2.2.2.2.2.1] at ez81
      obtain rfl : z81 = (T + 5) := ez81
      refine V_getA (q := 87) 0 dX2_listAsked_84 rfl flX2_139 (by omega) (congrArg Prod.fst (show _ = (2, 0) by rw [yT.1.1.2.2.2.2.2.1])) rfl rfl (fun z84 ez84 rz84 => ?_)
      rw [yT.1.2.2.2.2.2.2.2] at ez84
      obtain rfl : z84 = (T + 6) := ez84
      refine V_iload_n (q := 88) dX2_listAsked_87 rfl rfl rfl ?_
      refine V_aald (q := 89) (n := 12) (ta := 25) (ci := 0) dX2_listAsked_88 rfl (by omega) (by rw [yT.1.1.2.2.2.2.2.2.1]) rfl (by decide) (by omega) (fun z88 ez88 rz88 => ?_)
      rw [hB] at ez88
      obtain rfl : a = z88 := ez88.symm
      refine V_chVi (q := 92) (As := [(3, a)]) (tX2_startedBy (by omega) hac (by omega) w Dm hact.2.1 hact.2.2.1) dX2_listAsked_89 rfl mlX2_143 mw_X2_startedBy im_X2_startedBy sl_X2_startedBy md_X2_startedBy rfl (by decide) (by decide) (congrArg Prod.fst (show _ = (3, 0) by rw [D.1.1.1])) rfl rfl (by decide) (by decide) (Nat.le_of_ble_eq_true rfl) (Nat.le_of_ble_eq_true rfl) (Nat.le_of_ble_eq_true rfl) (fun z89 rz89 A89 M89 xM89 hM89 => ?_)
      obtain ⟨hA, fM89, DM89, hz89⟩ := hM89
      replace hA := hA.symm
      subst hA
      have hA1 : AKR M M89 t (LAa M t i.toNat) := AKR_c hA (fM89 110 5 (by decide)) (fM89 110 4 (by decide)) (funext fun k => fM89 113 k (by decide))
      have hsr : z89 < M 0 0 := by { rw [hz89]; unfold SB; split; · { omega }; · { rcases STi_rng w (n := M 15 (60 * t + i)) hact.2.1 with q | q; · { omega }; · { exact q.2 } } }
      refine V_chV (q := 95) (As := [(0, z89)]) (tX2_addAsked (of := t) (l := LAa M t i.toNat) w DM89 hsr hA1) dX2_listAsked_92 rfl mlX2_122 mw_X2_addAsked im_X2_addAsked sl_X2_addAsked md_X2_addAsked rfl (by decide) (by decide) (congrArg Prod.fst (show _ = (3, 0) by rw [D.1.1.1])) rfl rfl (by decide) (by decide) (Nat.le_of_ble_eq_true rfl) (Nat.le_of_ble_eq_true rfl) (Nat.le_of_ble_eq_true rfl) (fun A92 M92 xM92 hM92 => ?_)
      obtain ⟨hAA, fM92, aM92⟩ := hM92
      replace hAA := hAA.symm
      subst hAA
      have DM92 := fM92.des w DM89
      refine V_iinc (q := 98) dX2_listAsked_95 rfl rfl (by decide) rfl (by omega) (fun z95 lz95 ez95 hlz95 => ?_)
      obtain rfl : lz95 = [(3, 110), (0, t), (3, T), (0, z95)] := hlz95
      refine V_goto (tgt := 67) dX2_listAsked_98 (by decide) ?_
      refine ih M92 z95 ⟨DM92, (fm.trans fM89.sf).trans fM92.sf, by omega, by omega, ?_, by { rw [show M92 114 = M89 114 from funext fun k => fM92 114 k (by omega), show M89 114 = m 114 from funext fun k => fM89 114 k (by decide)]; exact h14 }⟩ (by omega)
      rw [ez95, show (i + 1).toNat = i.toNat + 1 by omega]
      show AKR M M92 t (AD t (LAa M t i.toNat) (STi M (M 13 (60 * t + (i.toNat : Nat))) (M 14 (60 * t + (i.toNat : Nat))) (M 15 (60 * t + (i.toNat : Nat)))))
      rw [show ((i.toNat : Nat) : Int) = i by omega]
      have hsb : AD t (LAa M t i.toNat) (SB M (M 13 (60 * t + i)) (M 14 (60 * t + i)) (M 15 (60 * t + i))) = AD t (LAa M t i.toNat) (STi M (M 13 (60 * t + i)) (M 14 (60 * t + i)) (M 15 (60 * t + i))) := by { unfold SB; split; · { rename_i hr; rw [AD_in (Or.inl (by decide)), AD_in (Or.inl (by { unfold STi; rw [if_pos hr]; decide }))] }; · { rfl } }
      rw [← hsb, ← hz89]
      exact aM92
  have loop1_ : M 1 t ≠ 1 → (LG M t).length ≤ 40 → ∀ (m : Mem) (i : Int), (DesR M α m ∧ SF μ m ∧ 0 ≤ i ∧ i ≤ (LG M t).length ∧ AKR M m t (LAg (AX M t) (LG M t) t i.toNat) ∧ m 114 = μ 114 ∧ m T 13 = (LG M t).length ∧ ∀ k : Int, 0 ≤ k → k < (LG M t).length → m (T + 7) k = (LG M t).getD k.toNat 0) → V Γ α ad0 (ZM Γ α ad0 (QN fun α1 μ1 => α1 = α ∧ SF μ μ1 ∧ DesR M α μ1 ∧ AKR M μ1 t (LA M t) ∧ μ1 114 = μ 114) 0 0) (RM 44 0 0) RX2 cX2_listAsked 4 none yX2_listAsked.name 41 [] [(3, 110), (0, t), (3, T), (0, i)] α m 0 0 := by
    intro hcl gl
    refine loop2 _ (fun _ i => (((LG M t).length : Int) - i).toNat) _ ?_
    rintro m i ⟨Dm, fm, h1, h2, hA, h14, h13, h7⟩ ih
    obtain ⟨kT, yT⟩ := Dm.2.2.1 t ht.1 ht.2
    rw [← eT] at kT
    unfold TypR at yT
    rw [← eT] at yT
    refine V_iload_n (q := 42) dX2_listAsked_41 rfl rfl rfl ?_
    refine V_aload_n (q := 43) dX2_listAsked_42 rfl rfl rfl ?_
    refine V_getI (q := 46) 13 dX2_listAsked_43 rfl flX2_106 (by omega) (congrArg Prod.fst (show _ = (5, 0) by rw [yT.1.1.1])) rfl rfl (fun z43 ez43 rz43 => ?_)
    rw [h13] at ez43
    refine V_icmp_ge (q := 49) (tgt := 65) dX2_listAsked_46 (by decide) rfl (fun c46 => ?_) (fun c46 => ?_)
    · refine V_iconst (q := 66) dX2_listAsked_65 rfl (by decide) ?_
      refine V_istore_n (q := 67) (lv1 := [(3, 110), (0, t), (3, T), (0, 0)]) dX2_listAsked_66 rfl rfl (by decide) rfl rfl ?_
      exact loop2_ m 0 ⟨Dm, fm, by decide, hsz.1, by { have e := LAa_0 hcl; rw [show (LG M t).length = i.toNat by omega] at e; rw [e] at hA; exact hA }, h14⟩
    · refine V_aload_n (q := 50) dX2_listAsked_49 rfl rfl rfl ?_
      refine V_aload_n (q := 51) dX2_listAsked_50 rfl rfl rfl ?_
      refine V_getA (q := 54) 12 dX2_listAsked_51 rfl flX2_113 (by omega) (congrArg Prod.fst (show _ = (5, 0) by rw [yT.1.1.1])) rfl rfl (fun z51 ez51 rz51 => ?_)
      rw [yT.1.2.2.2.2.2.2.1] at ez51
      obtain rfl : z51 = (T + 7) := ez51
      refine V_iload_n (q := 55) dX2_listAsked_54 rfl rfl rfl ?_
      refine V_iald (q := 56) (n := 40) dX2_listAsked_55 rfl (by omega) (by rw [yT.1.1.2.2.2.2.2.2.2]) (by omega) (fun z55 ez55 rz55 => ?_)
      rw [h7 i h1 (by omega)] at ez55
      refine V_chV (q := 59) (As := [(0, z55)]) (tX2_addAsked (of := t) (l := LAg (AX M t) (LG M t) t i.toNat) w Dm (by { rw [ez55]; exact (hLG _ (getD_mem h1 (by omega))).2 }) hA) dX2_listAsked_56 rfl mlX2_122 mw_X2_addAsked im_X2_addAsked sl_X2_addAsked md_X2_addAsked rfl (by decide) (by decide) (congrArg Prod.fst (show _ = (3, 0) by rw [D.1.1.1])) rfl rfl (by decide) (by decide) (Nat.le_of_ble_eq_true rfl) (Nat.le_of_ble_eq_true rfl) (Nat.le_of_ble_eq_true rfl) (fun A56 M56 xM56 hM56 => ?_)
      obtain ⟨hAA, fM56, aM56⟩ := hM56
      replace hAA := hAA.symm
      subst hAA
      have DM56 := fM56.des w Dm
      refine V_iinc (q := 62) dX2_listAsked_59 rfl rfl (by decide) rfl (by omega) (fun z59 lz59 ez59 hlz59 => ?_)
      obtain rfl : lz59 = [(3, 110), (0, t), (3, T), (0, z59)] := hlz59
      refine V_goto (tgt := 41) dX2_listAsked_62 (by decide) ?_
      refine ih M56 z59 ⟨DM56, fm.trans fM56.sf, by omega, by omega, ?_, by { rw [show M56 114 = m 114 from funext fun k => fM56 114 k (by omega)]; exact h14 }, by { rw [fM56 T 13 (by omega)]; exact h13 }, fun k k0 k1 => by { rw [fM56 (T + 7) k (by omega)]; exact h7 k k0 k1 }⟩ (by omega)
      rw [ez59, show (i + 1).toNat = i.toNat + 1 by omega]
      have ha := aM56
      rw [ez55] at ha
      exact ha
  obtain ⟨kT, yT⟩ := D.2.2.1 t ht.1 ht.2
  rw [← eT] at kT
  unfold TypR at yT
  rw [← eT] at yT
  refine V_aload_n (q := 1) dX2_listAsked_0 rfl rfl rfl ?_
  refine V_getA (q := 4) 0 dX2_listAsked_1 rfl flX2_11 (by decide) (congrArg Prod.fst (show _ = (3, 0) by rw [D.1.1.1])) rfl rfl (fun z1 ez1 rz1 => ?_)
  rw [D.1.2.1] at ez1
  obtain rfl : z1 = 111 := ez1
  refine V_iload_n (q := 5) dX2_listAsked_4 rfl rfl rfl ?_
  refine V_aald (q := 6) (n := 40) (ta := 23) (ci := 4) dX2_listAsked_5 rfl (by decide) (by rw [D.1.1.2.1]) rfl (by decide) (by omega) (fun z5 ez5 rz5 => ?_)
  rw [kT] at ez5
  obtain rfl : T = z5 := ez5.symm
  refine V_astore_n (q := 7) (lv1 := [(3, 110), (0, t), (3, T), (9, 0)]) dX2_listAsked_6 rfl rfl (by decide) rfl rfl ?_
  refine V_aload_n (q := 8) dX2_listAsked_7 rfl rfl rfl ?_
  refine V_iconst (q := 9) dX2_listAsked_8 rfl (by decide) ?_
  refine V_putI (q := 12) 4 dX2_listAsked_9 rfl flX2_116 (Or.inl rfl) (by decide) (congrArg Prod.fst (show _ = (3, 0) by rw [D.1.1.1])) rfl rfl (fun M9 eM9 => ?_)
  refine V_aload_n (q := 13) dX2_listAsked_12 rfl rfl rfl ?_
  refine V_lconst (q := 14) (x := 1) dX2_listAsked_13 rfl rfl ?_
  refine V_iload_n (q := 15) dX2_listAsked_14 rfl rfl rfl ?_
  refine V_lshl (q := 16) dX2_listAsked_15 rfl (by omega) (fun z15 ez15 rz15 => ?_)
  refine V_putJ (q := 19) 5 dX2_listAsked_16 rfl flX2_119 (Or.inl rfl) (by decide) (congrArg Prod.fst (show _ = (3, 0) by rw [D.1.1.1])) rfl rfl (fun M16 eM16 => ?_)
  refine V_aload_n (q := 20) dX2_listAsked_19 rfl rfl rfl ?_
  refine V_getZ (q := 23) 0 dX2_listAsked_20 rfl flX2_96 (by omega) (congrArg Prod.fst (show _ = (5, 0) by rw [yT.1.1.1])) rfl rfl (fun z20 ez20 rz20 => ?_)
  rw [eM16, mu_t _ _ _ _ (by omega), eM9, mu_t _ _ _ _ (by omega), yT.2.1.1] at ez20
  have ff : SF μ M16 := fun u i hs => by { unfold scr at hs; rw [eM16, mu_ne (by omega), eM9, mu_ne (by omega)] }
  have fd : DesR M α M16 := DesR_scr w D ff (fun u k u0 u1 k0 k1 => by { rw [eM16, mu_t _ _ _ _ (by decide), eM9, mu_t _ _ _ _ (by decide)]; exact D.2.2.2.2.1 u k u0 u1 k0 k1 })
  have f14 : M16 114 = μ 114 := by rw [eM16, mu_f _ _ _ _ (by decide), eM9, mu_f _ _ _ _ (by decide)]
  have hA0 : AKR M M16 t [] := AKR_0 w ht.1 ht.2 ez15 (by rw [eM16, mu_s]) (by rw [eM16, mu_ne (by omega), eM9, mu_s])
  refine V_if_ne (q := 26) (tgt := 65) dX2_listAsked_23 (by decide) rfl (fun c23 => ?_) (fun c23 => ?_)
  · refine V_iconst (q := 66) dX2_listAsked_65 rfl (by decide) ?_
    refine V_istore_n (q := 67) (lv1 := [(3, 110), (0, t), (3, T), (0, 0)]) dX2_listAsked_66 rfl rfl (by decide) rfl rfl ?_
    exact loop2_ M16 0 ⟨fd, ff, by decide, hsz.1, by { show AKR M M16 t (LAa M t 0); rw [LAa_f (by omega)]; exact hA0 }, f14⟩
  · have hcl : M 1 t ≠ 1 := by omega
    have hab := w.above t ht.1 ht.2
    refine V_aload_n (q := 27) dX2_listAsked_26 rfl rfl rfl ?_
    refine V_aload_n (q := 28) dX2_listAsked_27 rfl rfl rfl ?_
    refine V_getI (q := 31) 2 dX2_listAsked_28 rfl flX2_38 (by omega) (congrArg Prod.fst (show _ = (5, 0) by rw [yT.1.1.1])) rfl rfl (fun z28 ez28 rz28 => ?_)
    rw [eM16, mu_t _ _ _ _ (by omega), eM9, mu_t _ _ _ _ (by omega), yT.2.1.2.2.1] at ez28
    refine V_chV (q := 34) (As := [(0, z28)]) (tX2_addAsked (of := t) (l := []) w fd (by { rw [ez28]; split <;> omega }) hA0) dX2_listAsked_31 rfl mlX2_122 mw_X2_addAsked im_X2_addAsked sl_X2_addAsked md_X2_addAsked rfl (by decide) (by decide) (congrArg Prod.fst (show _ = (3, 0) by rw [D.1.1.1])) rfl rfl (by decide) (by decide) (Nat.le_of_ble_eq_true rfl) (Nat.le_of_ble_eq_true rfl) (Nat.le_of_ble_eq_true rfl) (fun A31 M31 xM31 hM31 => ?_)
    obtain ⟨hAA, fM31, aM31⟩ := hM31
    replace hAA := hAA.symm
    subst hAA
    have DM31 := fM31.des w fd
    have hAX : AKR M M31 t (AX M t) := by { have q := aM31; rw [ez28] at q; exact q }
    refine V_aload_n (q := 35) dX2_listAsked_34 rfl rfl rfl ?_
    refine V_aload_n (q := 36) dX2_listAsked_35 rfl rfl rfl ?_
    refine V_chV (q := 39) (As := [(3, T)]) (tX2_orderFirsts w DM31 ht eT) dX2_listAsked_36 rfl mlX2_126 mw_X2_orderFirsts im_X2_orderFirsts sl_X2_orderFirsts md_X2_orderFirsts rfl (by decide) (by decide) (congrArg Prod.fst (show _ = (3, 0) by rw [D.1.1.1])) rfl rfl (by decide) (by decide) (Nat.le_of_ble_eq_true rfl) (Nat.le_of_ble_eq_true rfl) (Nat.le_of_ble_eq_true rfl) (fun A36 M36 xM36 hM36 => ?_)
    obtain ⟨hAA, fM36, g13, gl, g7⟩ := hM36
    replace hAA := hAA.symm
    subst hAA
    have DoF := fM36.des hT ht.1 w DM31
    have g4 : SF μ M36 := (ff.trans fM31.sf).trans (fM36.sf hT ht.1)
    refine V_iconst (q := 40) dX2_listAsked_39 rfl (by decide) ?_
    refine V_istore_n (q := 41) (lv1 := [(3, 110), (0, t), (3, T), (0, 0)]) dX2_listAsked_40 rfl rfl (by decide) rfl rfl ?_
    exact loop1_ hcl gl M36 0 ⟨DoF, g4, by decide, by omega, by { show AKR M M36 t (AX M t); exact AKR_c hAX (fM36 110 5 (by omega)) (fM36 110 4 (by omega)) (funext fun k => fM36 113 k (by omega)) }, by { rw [show M36 114 = M31 114 from funext fun k => fM36 114 k (by omega), show M31 114 = M16 114 from funext fun k => fM31 114 k (by omega)]; exact f14 }, g13, g7⟩
