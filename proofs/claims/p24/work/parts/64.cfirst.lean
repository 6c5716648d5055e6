/-! THE CLASS: the faces that a start starts -/
/-- all but the type's own row of faces is the same -/
def SF1 (T : Int) (μ μ1 : Mem) : Prop := ∀ u i : Int, ¬ (u = T + 7 ∨ (u = T ∧ i = 13)) → μ1 u i = μ u i
theorem SF1.rf {T : Int} {μ : Mem} : SF1 T μ μ := fun _ _ _ => rfl
theorem SF1.trans {T : Int} {μ μ1 μ2 : Mem} (h : SF1 T μ μ1) (h1 : SF1 T μ1 μ2) : SF1 T μ μ2 := fun u i hh => (h1 u i hh).trans (h u i hh)
theorem SF1.sf {T t : Int} {μ μ1 : Mem} (h : SF1 T μ μ1) (hT : T = 1000 * (t + 1)) (t0 : 0 ≤ t) : SF μ μ1 := fun u i hs => h u i (by unfold scr at hs; omega)
theorem SF1.des {M : Mem} {T t : Int} {α : Sh} {μ μ1 : Mem} (h : SF1 T μ μ1) (hT : T = 1000 * (t + 1)) (t0 : 0 ≤ t) (w : WFD M) (D : DesR M α μ) : DesR M α μ1 := by
  refine DesR_scr w D (h.sf hT t0) (fun u k u0 u1 k0 k1 => ?_)
  rw [h 112 _ (by omega)]
  exact D.2.2.2.2.1 u k u0 u1 k0 k1
/-- the row of faces so far: the bits that were seen, the list -/
def AFR (μ : Mem) (T seen : Int) (s : St) : Prop := (∀ x : Int, s.1 x = 0 ∨ s.1 x = 1) ∧ (∀ x : Int, 0 ≤ x → x < 40 → (bt seen x.toNat = true ↔ s.1 x = 1)) ∧ μ T 13 = s.2.length ∧ ∀ k : Int, 0 ≤ k → k < s.2.length → μ (T + 7) k = s.2.getD k.toNat 0
theorem AFR_up {μ : Mem} {T seen f now : Int} {s : St} (h : AFR μ T seen s) (f0 : 0 ≤ f) (f1 : f < 40) (hn : ∀ j, bt now j = (bt seen j || bt 0 j)) : True := trivial
theorem AFR_enter {μ : Mem} {T seen f one now : Int} {s : St} (h : AFR μ T seen s) (f0 : 0 ≤ f) (f1 : f < 40) (h1 : ∀ j, bt one j = (decide (j < 64) && !decide (j < f.toNat) && bt 1 (j - f.toNat))) (hn : ∀ j, bt now j = (bt seen j || bt one j)) : AFR μ T now (up1 s.1 f, s.2) := by
  obtain ⟨a, b, c, d⟩ := h
  refine ⟨fun x => ?_, fun x x0 x1 => ?_, c, d⟩
  · by_cases hx : x = f
    · rw [hx]; exact Or.inr (up1_s _ _)
    · show up1 s.1 f x = 0 ∨ up1 s.1 f x = 1
      rw [up1_n _ hx]; exact a x
  · show _ ↔ up1 s.1 f x = 1
    rw [hn, bt_one h1 _ (by omega), Bool.or_eq_true, decide_eq_true_eq, b x x0 x1]
    by_cases hx : x = f
    · rw [hx, up1_s]; exact ⟨fun _ => rfl, fun _ => Or.inr rfl⟩
    · rw [up1_n _ hx]
      exact ⟨fun q => q.resolve_right (by omega), Or.inl⟩
theorem cntz_up {P : Int → Int} {f : Int} {n : Nat} (hz : P f = 0) (f0 : 0 ≤ f) (f1 : f < n) : cntz (up1 P f) n + 1 = cntz P n := cntz_upd hz (by rw [up1_s]; decide) (fun j hj => up1_n P hj) n f0 f1
theorem emitF_1 {M : Mem} {f : Int} {s : St} (h : M 2 f = 1) : emitF M f s = (s.1, s.2 ++ [f]) := if_pos h
theorem emitF_0 {M : Mem} {f : Int} {s : St} (h : M 2 f ≠ 1) : emitF M f s = s := if_neg h
theorem AFR_push {μ μ1 : Mem} {T seen f : Int} {s : St} (h : AFR μ T seen s) (h13 : μ1 T 13 = s.2.length + 1) (h7 : μ1 (T + 7) s.2.length = f) (ho : ∀ k : Int, k ≠ s.2.length → μ1 (T + 7) k = μ (T + 7) k) : AFR μ1 T seen (s.1, s.2 ++ [f]) := by
  obtain ⟨a, b, c, d⟩ := h
  refine ⟨a, b, by rw [h13, List.length_append, List.length_singleton]; omega, fun k k0 k1 => ?_⟩
  rw [List.length_append, List.length_singleton] at k1
  by_cases hk : k = s.2.length
  · rw [hk, h7, List.getD_eq_getElem?_getD, Int.toNat_natCast, List.getElem?_append_right (Nat.le_refl _), Nat.sub_self]; rfl
  · rw [ho k hk, d k k0 (by omega), List.getD_eq_getElem?_getD, List.getD_eq_getElem?_getD, List.getElem?_append_left (by omega)]
theorem AFR_mem {μ μ1 : Mem} {T seen : Int} {s : St} (h : AFR μ T seen s) (h1 : μ1 T 13 = μ T 13) (h2 : μ1 (T + 7) = μ (T + 7)) : AFR μ1 T seen s := by
  unfold AFR
  rw [h1, h2]
  exact h
theorem pof_s (g : Int → St → St) (M : Mem) (f : Int) {i : Int} (s : St) (i0 : 0 ≤ i) (i1 : i < M 4 f) : pof g M f (M 4 f - i).toNat s = pof g M f (M 4 f - (i + 1)).toNat (g (M 5 (4 * f + i)) s) := by
  rw [show (M 4 f - i).toNat = (M 4 f - (i + 1)).toNat + 1 by omega]
  show pof g M f _ (g (M 5 (4 * f + (M 4 f - 1 - ((M 4 f - (i + 1)).toNat : Nat)))) s) = _
  rw [show M 4 f - 1 - (((M 4 f - (i + 1)).toNat : Nat) : Int) = i by omega]
/-- the faces that a class starts, in order -/
def LG (M : Mem) (t : Int) : List Int := (pof (PO M) M t (M 4 t).toNat (fun _ => 0, [])).2
theorem mu_ne {μ : Mem} {t i x u k : Int} (h : ¬ (u = t ∧ k = i)) : mu μ t i x u k = μ u k := if_neg h
theorem mu_ix {μ : Mem} {t i x k : Int} (h : k = i) : mu μ t i x t k = x := by rw [h]; exact mu_s _ _ _ _
theorem tX2_addFirst {Γ : GC} {M : Mem} (w : WFD M) {t T : Int} (ht : 0 ≤ t ∧ t < M 0 0) (eT : T = tk t) : ∀ (n : Nat) {α : Sh} {μ : Mem} (D : DesR M α μ) (f seen dp : Int) (s : St) (c : Nat), (0 ≤ f ∧ f < M 0 0) → 0 ≤ dp → dp + rk M f < 40 → rk M f = n → AFR μ T seen s → s.2.length + c + cntz s.1 (M 0 0).toNat ≤ 40 → MT Γ yX2_addFirst cX2_addFirst 10 (some .long) n 0 0 [(3, 110), (3, T), (0, f), (2, seen), (0, dp)] α μ (QJ fun r α1 μ1 => α1 = α ∧ SF1 T μ μ1 ∧ AFR μ1 T r (PO M f s) ∧ (PO M f s).2.length + c + cntz (PO M f s).1 (M 0 0).toNat ≤ 40) := by
  intro n
  induction n using Nat.strongRecOn with
  | ind n ihn =>
  intro α μ D f seen dp s c hf hd0 hd hrk hA hc
  have hn := w.n
  have hcf := (w.cnt f hf.1 (by omega)).1
  have hT : T = 1000 * (t + 1) := eT
  obtain ⟨F, eF⟩ : ∃ F : Int, F = tk f := ⟨_, rfl⟩
  have hF : F = 1000 * (f + 1) := eF
  have hpo := PO_eq w hf.1 hf.2 s
  refine MT_of (k := 4) [(3, 110), (3, T), (0, f), (2, seen), (9, 0), (0, dp), (9, 0), (9, 0), (9, 0), (9, 0)] pn_X2_addFirst rfl rfl (fun ad0 => ?_)
  obtain ⟨kT, yT⟩ := D.2.2.1 t ht.1 ht.2
  rw [← eT] at kT
  unfold TypR at yT
  rw [← eT] at yT
  have loop : ¬ s.1 f = 1 → ∀ (m : Mem) (now i : Int) (q : St), (DesR M α m ∧ SF1 T μ m ∧ 0 ≤ i ∧ i ≤ M 4 f ∧ AFR m T now q ∧ q.2.length + (c + 1) + cntz q.1 (M 0 0).toNat ≤ 40 ∧ pof (PO M) M f (M 4 f - i).toNat q = pof (PO M) M f (M 4 f).toNat (up1 s.1 f, s.2)) → V Γ α ad0 (ZM Γ α ad0 (QJ fun r α1 μ1 => α1 = α ∧ SF1 T μ μ1 ∧ AFR μ1 T r (PO M f s) ∧ (PO M f s).2.length + c + cntz (PO M f s).1 (M 0 0).toNat ≤ 40) 0 0) (RM n 0 0) RX2 cX2_addFirst 10 (some .long) yX2_addFirst.name 37 [] [(3, 110), (3, T), (0, f), (2, seen), (9, 0), (0, dp), (3, F), (2, now), (9, 0), (0, i)] α m 0 0 := by
    intro hsf
    rw [if_neg hsf] at hpo
    refine loop4 _ (fun _ _ i _ => (M 4 f - i).toNat) _ ?_
    rintro m now i q ⟨Dm, fm, h1, h2, hA, hc, hp⟩ ih
    obtain ⟨kF, yF⟩ := Dm.2.2.1 f hf.1 hf.2
    rw [← eF] at kF
    unfold TypR at yF
    rw [← eF] at yF
    obtain ⟨kT, yT⟩ := Dm.2.2.1 t ht.1 ht.2
    rw [← eT] at kT
    unfold TypR at yT
    rw [← eT] at yT
    refine V_iload (q := 39) dX2_addFirst_37 rfl rfl ?_
    refine V_aload (q := 41) dX2_addFirst_39 rfl rfl ?_
    refine V_getI (q := 44) 4 dX2_addFirst_41 rfl flX2_52 (by omega) (congrArg Prod.fst (show _ = (5, 0) by rw [yF.1.1.1])) rfl rfl (fun z41 ez41 rz41 => ?_)
    rw [yF.2.1.2.2.2.1] at ez41
    refine V_icmp_ge (q := 47) (tgt := 74) dX2_addFirst_44 (by decide) rfl (fun c44 => ?_) (fun c44 => ?_)
    · refine V_aload (q := 76) dX2_addFirst_74 rfl rfl ?_
      refine V_getZ (q := 79) 1 dX2_addFirst_76 rfl flX2_100 (by omega) (congrArg Prod.fst (show _ = (5, 0) by rw [yF.1.1.1])) rfl rfl (fun z76 ez76 rz76 => ?_)
      rw [yF.2.1.2.1] at ez76
      refine V_if_eq (q := 82) (tgt := 111) dX2_addFirst_79 (by decide) rfl (fun c79 => ?_) (fun c79 => ?_)
      · refine V_lload (q := 113) dX2_addFirst_111 rfl rfl ?_
        rw [show (M 4 f - i).toNat = 0 by omega] at hp
        have hq : q = pof (PO M) M f (M 4 f).toNat (up1 s.1 f, s.2) := hp
        rw [← hq] at hpo
        have h2f : ¬ M 2 f = 1 := by omega
        rw [emitF_0 h2f] at hpo
        exact V_lret dX2_addFirst_113 (Nat.le_of_ble_eq_true rfl) (Nat.le_of_ble_eq_true rfl) ⟨_, rfl, rfl, fm, by { rw [hpo]; exact hA }, by { rw [hpo]; omega }⟩
      · refine V_aload_n (q := 83) dX2_addFirst_82 rfl rfl rfl ?_
        refine V_getI (q := 86) 13 dX2_addFirst_83 rfl flX2_106 (by omega) (congrArg Prod.fst (show _ = (5, 0) by rw [yT.1.1.1])) rfl rfl (fun z83 ez83 rz83 => ?_)
        rw [hA.2.2.1] at ez83
        refine V_bipush (q := 88) dX2_addFirst_86 rfl (by decide) ?_
        refine V_icmp_ge (q := 91) (tgt := 111) dX2_addFirst_88 (by decide) rfl (fun c88 => ?_) (fun c88 => ?_)
        · exfalso; omega
        · refine V_aload_n (q := 92) dX2_addFirst_91 rfl rfl rfl ?_
          refine V_getA (q := 95) 12 dX2_addFirst_92 rfl flX2_113 (by omega) (congrArg Prod.fst (show _ = (5, 0) by rw [yT.1.1.1])) rfl rfl (fun z92 ez92 rz92 => ?_)
          rw [yT.1.2.2.2.2.2.2.1] at ez92
          obtain rfl : z92 = (T + 7) := ez92
          refine V_aload_n (q := 96) dX2_addFirst_95 rfl rfl rfl ?_
          refine V_getI (q := 99) 13 dX2_addFirst_96 rfl flX2_106 (by omega) (congrArg Prod.fst (show _ = (5, 0) by rw [yT.1.1.1])) rfl rfl (fun z96 ez96 rz96 => ?_)
          rw [hA.2.2.1] at ez96
          refine V_iload_n (q := 100) dX2_addFirst_99 rfl rfl rfl ?_
          refine V_iast (q := 101) (n := 40) dX2_addFirst_100 rfl (by omega) (by rw [yT.1.1.2.2.2.2.2.2.2]) (by omega) (fun M100 eM100 => ?_)
          refine V_aload_n (q := 102) dX2_addFirst_101 rfl rfl rfl ?_
          refine V_dup (q := 103) dX2_addFirst_102 rfl (show (3 : Nat) ≠ 2 by decide) ?_
          refine V_getI (q := 106) 13 dX2_addFirst_103 rfl flX2_106 (by omega) (congrArg Prod.fst (show _ = (5, 0) by rw [yT.1.1.1])) rfl rfl (fun z103 ez103 rz103 => ?_)
          rw [eM100, mu_t _ _ _ _ (by omega), hA.2.2.1] at ez103
          refine V_iconst (q := 107) dX2_addFirst_106 rfl (by decide) ?_
          refine V_iadd (q := 108) dX2_addFirst_107 rfl (by omega) (fun z107 ez107 => ?_)
          refine V_putI (q := 111) 13 dX2_addFirst_108 rfl flX2_106 (Or.inl rfl) (by omega) (congrArg Prod.fst (show _ = (5, 0) by rw [yT.1.1.1])) rfl rfl (fun M108 eM108 => ?_)
          refine V_lload (q := 113) dX2_addFirst_111 rfl rfl ?_
          rw [show (M 4 f - i).toNat = 0 by omega] at hp
          have hq : q = pof (PO M) M f (M 4 f).toNat (up1 s.1 f, s.2) := hp
          rw [← hq] at hpo
          rw [emitF_1 (by omega)] at hpo
          have e7 : M108 (T + 7) = M100 (T + 7) := by rw [eM108, mu_f _ _ _ _ (by omega)]
          exact V_lret dX2_addFirst_113 (Nat.le_of_ble_eq_true rfl) (Nat.le_of_ble_eq_true rfl) ⟨_, rfl, rfl, fm.trans (fun u i hh => by rw [eM108, mu_ne (by omega), eM100, mu_ne (by omega)]), by { rw [hpo]; refine AFR_push hA ?_ ?_ (fun k hk => ?_); · { rw [eM108, mu_s]; omega }; · { rw [e7, eM100, mu_ix (by omega)] }; · { rw [e7, eM100, mu_i _ _ _ _ (by omega)] } }, by { rw [hpo]; show (q.2 ++ [f]).length + c + cntz q.1 (M 0 0).toNat ≤ 40; rw [List.length_append, List.length_singleton]; omega }⟩
    · refine V_aload_n (q := 48) dX2_addFirst_47 rfl rfl rfl ?_
      refine V_aload_n (q := 49) dX2_addFirst_48 rfl rfl rfl ?_
      refine V_aload (q := 51) dX2_addFirst_49 rfl rfl ?_
      refine V_getA (q := 54) 3 dX2_addFirst_51 rfl flX2_49 (by omega) (congrArg Prod.fst (show _ = (5, 0) by rw [yF.1.1.1])) rfl rfl (fun z51 ez51 rz51 => ?_)
      rw [yF.1.2.1] at ez51
      obtain rfl : z51 = (F + 1) := ez51
      refine V_iload (q := 56) dX2_addFirst_54 rfl rfl ?_
      refine V_iald (q := 57) (n := 4) dX2_addFirst_56 rfl (by omega) (by rw [yF.1.1.2.1]) (by omega) (fun z56 ez56 rz56 => ?_)
      rw [yF.2.2.1 i (by omega) (by omega)] at ez56
      refine V_lload (q := 59) dX2_addFirst_57 rfl rfl ?_
      refine V_iload (q := 61) dX2_addFirst_59 rfl rfl ?_
      refine V_iconst (q := 62) dX2_addFirst_61 rfl (by decide) ?_
      refine V_iadd (q := 63) dX2_addFirst_62 rfl (by omega) (fun z62 ez62 => ?_)
      have hff := w.face f i hf.1 hf.2 h1 (by omega)
      have eu : z56 = M 5 (4 * f + i) := ez56
      have hu : 0 ≤ z56 ∧ z56 < M 0 0 := by { rw [eu]; exact ⟨hff.1, hff.2.1⟩ }
      have he : edge M f z56 := ⟨hf.1, hf.2, Or.inr ⟨i, h1, by omega, eu⟩⟩
      have hrke := rk_edge w he
      refine V_chVj (q := 66) (As := [(3, T), (0, z56), (2, now), (0, z62)]) (ihn (rk M z56) (by omega) Dm z56 now z62 q (c + 1) hu (by omega) (by omega) rfl hA hc) dX2_addFirst_63 rfl mlX2_109 mw_X2_addFirst im_X2_addFirst sl_X2_addFirst md_X2_addFirst rfl (by decide) (by decide) (congrArg Prod.fst (show _ = (3, 0) by rw [Dm.1.1.1])) rfl rfl (show rk M z56 + 1 ≤ n by omega) (show 8 + (10 + 11) + 64 * rk M z56 ≤ 64 * n by omega) (Nat.le_of_ble_eq_true rfl) (Nat.le_of_ble_eq_true rfl) (Nat.le_of_ble_eq_true rfl) (fun z63 rz63 A63 M63 xM63 hM63 => ?_)
      obtain ⟨hAA, fM63, aM63, bM63⟩ := hM63
      replace hAA := hAA.symm
      subst hAA
      refine V_lstore (q := 68) (lv1 := [(3, 110), (3, T), (0, f), (2, seen), (9, 0), (0, dp), (3, F), (2, z63), (9, 0), (0, i)]) dX2_addFirst_66 rfl (by decide) rfl rfl ?_
      refine V_iinc (q := 71) dX2_addFirst_68 rfl rfl (by decide) rfl (by omega) (fun z68 lz68 ez68 hlz68 => ?_)
      obtain rfl : lz68 = [(3, 110), (3, T), (0, f), (2, seen), (9, 0), (0, dp), (3, F), (2, z63), (9, 0), (0, z68)] := hlz68
      refine V_goto (tgt := 37) dX2_addFirst_71 (by decide) ?_
      refine ih M63 z63 z68 (PO M z56 q) ⟨SF1.des fM63 hT ht.1 w Dm, fm.trans fM63, by omega, by omega, aM63, bM63, ?_⟩ (by omega)
      rw [← hp, pof_s _ _ _ q h1 (by omega), ← eu, ez68]
  obtain ⟨kF, yF⟩ := D.2.2.1 f hf.1 hf.2
  rw [← eF] at kF
  unfold TypR at yF
  rw [← eF] at yF
  refine V_iload (q := 2) dX2_addFirst_0 rfl rfl ?_
  refine V_bipush (q := 4) dX2_addFirst_2 rfl (by decide) ?_
  refine V_icmp_ge (q := 7) (tgt := 17) dX2_addFirst_4 (by decide) rfl (fun c4 => ?_) (fun c4 => ?_)
  · exfalso; omega
  · refine V_lload_n (q := 8) dX2_addFirst_7 rfl rfl rfl ?_
    refine V_iload_n (q := 9) dX2_addFirst_8 rfl rfl rfl ?_
    refine V_lshr (q := 10) dX2_addFirst_9 rfl (by omega) (fun z9 ez9 rz9 => ?_)
    refine V_lconst (q := 11) (x := 1) dX2_addFirst_10 rfl rfl ?_
    refine V_land (q := 12) dX2_addFirst_11 rfl (fun z11 ez11 rz11 => ?_)
    refine V_lconst (q := 13) (x := 0) dX2_addFirst_12 rfl rfl ?_
    refine V_lcmp0 (q := 14) dX2_addFirst_13 rfl (fun z13 ez13 => ?_)
    refine V_if_eq (q := 17) (tgt := 19) dX2_addFirst_14 (by decide) rfl (fun c14 => ?_) (fun c14 => ?_)
    · have hsf : ¬ s.1 f = 1 := by { intro q; have q1 := (hA.2.1 f hf.1 (by omega)).mpr q; have q2 := (ez13.trans (bt_test (s := f.toNat) (by omega) ez9 ez11 rz11)).mp (by omega); rw [q1] at q2; exact absurd q2 (by decide) }
      have hz0 : s.1 f = 0 := (hA.1 f).resolve_right hsf
      refine V_aload_n (q := 20) dX2_addFirst_19 rfl rfl rfl ?_
      refine V_getA (q := 23) 0 dX2_addFirst_20 rfl flX2_11 (by decide) (congrArg Prod.fst (show _ = (3, 0) by rw [D.1.1.1])) rfl rfl (fun z20 ez20 rz20 => ?_)
      rw [D.1.2.1] at ez20
      obtain rfl : z20 = 111 := ez20
      refine V_iload_n (q := 24) dX2_addFirst_23 rfl rfl rfl ?_
      refine V_aald (q := 25) (n := 40) (ta := 23) (ci := 4) dX2_addFirst_24 rfl (by decide) (by rw [D.1.1.2.1]) rfl (by decide) (by omega) (fun z24 ez24 rz24 => ?_)
      rw [kF] at ez24
      obtain rfl : F = z24 := ez24.symm
      refine V_astore (q := 27) (lv1 := [(3, 110), (3, T), (0, f), (2, seen), (9, 0), (0, dp), (3, F), (9, 0), (9, 0), (9, 0)]) dX2_addFirst_25 rfl (by decide) rfl rfl ?_
      refine V_lload_n (q := 28) dX2_addFirst_27 rfl rfl rfl ?_
      refine V_lconst (q := 29) (x := 1) dX2_addFirst_28 rfl rfl ?_
      refine V_iload_n (q := 30) dX2_addFirst_29 rfl rfl rfl ?_
      refine V_lshl (q := 31) dX2_addFirst_30 rfl (by omega) (fun z30 ez30 rz30 => ?_)
      refine V_lor (q := 32) dX2_addFirst_31 rfl (fun z31 ez31 rz31 => ?_)
      refine V_lstore (q := 34) (lv1 := [(3, 110), (3, T), (0, f), (2, seen), (9, 0), (0, dp), (3, F), (2, z31), (9, 0), (9, 0)]) dX2_addFirst_32 rfl (by decide) rfl rfl ?_
      refine V_iconst (q := 35) dX2_addFirst_34 rfl (by decide) ?_
      refine V_istore (q := 37) (lv1 := [(3, 110), (3, T), (0, f), (2, seen), (9, 0), (0, dp), (3, F), (2, z31), (9, 0), (0, 0)]) dX2_addFirst_35 rfl (by decide) rfl rfl ?_
      exact loop hsf μ z31 0 (up1 s.1 f, s.2) ⟨D, SF1.rf, by decide, hcf.1, AFR_enter hA hf.1 (by omega) ez30 ez31, by { have := cntz_up (n := (M 0 0).toNat) hz0 hf.1 (by omega); show s.2.length + (c + 1) + cntz (up1 s.1 f) (M 0 0).toNat ≤ 40; omega }, by rw [show M 4 f - 0 = M 4 f by omega]⟩
    · refine V_lload_n (q := 18) dX2_addFirst_17 rfl rfl rfl ?_
      first | (exfalso; omega) | (have hsf : s.1 f = 1 := (hA.2.1 f hf.1 (by omega)).mp (by { have q := (not_congr (ez13.trans (bt_test (s := f.toNat) (by omega) ez9 ez11 rz11))).mp (by omega); rwa [Bool.not_eq_false] at q }); rw [if_pos hsf] at hpo; exact V_lret dX2_addFirst_18 (Nat.le_of_ble_eq_true rfl) (Nat.le_of_ble_eq_true rfl) ⟨_, rfl, rfl, SF1.rf, by { rw [hpo]; exact hA }, by { rw [hpo]; exact hc }⟩)
theorem tX2_orderFirsts {Γ : GC} {α : Sh} {μ : Mem} {t T : Int} {M : Mem} (w : WFD M) (D : DesR M α μ) (ht : 0 ≤ t ∧ t < M 0 0) (eT : T = tk t) : MT Γ yX2_orderFirsts cX2_orderFirsts 5 none 41 0 0 [(3, 110), (3, T)] α μ (QN fun α1 μ1 => α1 = α ∧ SF1 T μ μ1 ∧ μ1 T 13 = (LG M t).length ∧ (LG M t).length ≤ 40 ∧ ∀ k : Int, 0 ≤ k → k < (LG M t).length → μ1 (T + 7) k = (LG M t).getD k.toNat 0) := by
  have hn := w.n
  have hT : T = 1000 * (t + 1) := eT
  have hct := (w.cnt t ht.1 (by omega)).1
  obtain ⟨kT, yT⟩ := D.2.2.1 t ht.1 ht.2
  rw [← eT] at kT
  unfold TypR at yT
  rw [← eT] at yT
  refine MT_of (k := 3) [(3, 110), (3, T), (9, 0), (9, 0), (9, 0)] pn_X2_orderFirsts rfl rfl (fun ad0 => ?_)
  have loop : ∀ (m : Mem) (now i : Int) (q : St), (DesR M α m ∧ SF1 T μ m ∧ 0 ≤ i ∧ i ≤ M 4 t ∧ AFR m T now q ∧ q.2.length + 0 + cntz q.1 (M 0 0).toNat ≤ 40 ∧ pof (PO M) M t (M 4 t - i).toNat q = pof (PO M) M t (M 4 t).toNat (fun _ => 0, [])) → V Γ α ad0 (ZM Γ α ad0 (QN fun α1 μ1 => α1 = α ∧ SF1 T μ μ1 ∧ μ1 T 13 = (LG M t).length ∧ (LG M t).length ≤ 40 ∧ ∀ k : Int, 0 ≤ k → k < (LG M t).length → μ1 (T + 7) k = (LG M t).getD k.toNat 0) 0 0) (RM 41 0 0) RX2 cX2_orderFirsts 5 none yX2_orderFirsts.name 10 [] [(3, 110), (3, T), (2, now), (9, 0), (0, i)] α m 0 0 := by
    refine loop4 _ (fun _ _ i _ => (M 4 t - i).toNat) _ ?_
    rintro m now i q ⟨Dm, fm, h1, h2, hA, hc, hp⟩ ih
    obtain ⟨kT, yT⟩ := Dm.2.2.1 t ht.1 ht.2
    rw [← eT] at kT
    unfold TypR at yT
    rw [← eT] at yT
    refine V_iload (q := 12) dX2_orderFirsts_10 rfl rfl ?_
    refine V_aload_n (q := 13) dX2_orderFirsts_12 rfl rfl rfl ?_
    refine V_getI (q := 16) 4 dX2_orderFirsts_13 rfl flX2_52 (by omega) (congrArg Prod.fst (show _ = (5, 0) by rw [yT.1.1.1])) rfl rfl (fun z13 ez13 rz13 => ?_)
    rw [yT.2.1.2.2.2.1] at ez13
    refine V_icmp_ge (q := 19) (tgt := 40) dX2_orderFirsts_16 (by decide) rfl (fun c16 => ?_) (fun c16 => ?_)
    · rw [show (M 4 t - i).toNat = 0 by omega] at hp
      have hq : q.2 = LG M t := congrArg Prod.snd hp
      rw [hq] at hc
      exact V_vret dX2_orderFirsts_40 (Nat.le_of_ble_eq_true rfl) (Nat.le_of_ble_eq_true rfl) ⟨rfl, rfl, fm, by { rw [hA.2.2.1, hq] }, by omega, fun k k0 k1 => by { rw [hA.2.2.2 k k0 (by rw [hq]; exact k1), hq] }⟩
    · refine V_aload_n (q := 20) dX2_orderFirsts_19 rfl rfl rfl ?_
      refine V_aload_n (q := 21) dX2_orderFirsts_20 rfl rfl rfl ?_
      refine V_aload_n (q := 22) dX2_orderFirsts_21 rfl rfl rfl ?_
      refine V_getA (q := 25) 3 dX2_orderFirsts_22 rfl flX2_49 (by omega) (congrArg Prod.fst (show _ = (5, 0) by rw [yT.1.1.1])) rfl rfl (fun z22 ez22 rz22 => ?_)
      rw [yT.1.2.1] at ez22
      obtain rfl : z22 = (T + 1) := ez22
      refine V_iload (q := 27) dX2_orderFirsts_25 rfl rfl ?_
      refine V_iald (q := 28) (n := 4) dX2_orderFirsts_27 rfl (by omega) (by rw [yT.1.1.2.1]) (by omega) (fun z27 ez27 rz27 => ?_)
      rw [yT.2.2.1 i (by omega) (by omega)] at ez27
      refine V_lload_n (q := 29) dX2_orderFirsts_28 rfl rfl rfl ?_
      refine V_iconst (q := 30) dX2_orderFirsts_29 rfl (by decide) ?_
      have hff := w.face t i ht.1 ht.2 h1 (by omega)
      have eu : z27 = M 5 (4 * t + i) := ez27
      have hu : 0 ≤ z27 ∧ z27 < M 0 0 := by { rw [eu]; exact ⟨hff.1, hff.2.1⟩ }
      have hrk := rk_lt w hu.1 hu.2
      refine V_chVj (q := 33) (As := [(3, T), (0, z27), (2, now), (0, 0)]) (tX2_addFirst w ht eT (rk M z27) Dm z27 now 0 q 0 hu (by decide) (by omega) rfl hA hc) dX2_orderFirsts_30 rfl mlX2_109 mw_X2_addFirst im_X2_addFirst sl_X2_addFirst md_X2_addFirst rfl (by decide) (by decide) (congrArg Prod.fst (show _ = (3, 0) by rw [Dm.1.1.1])) rfl rfl (show rk M z27 + 1 ≤ 41 by omega) (show 8 + (10 + 11) + 64 * rk M z27 ≤ 64 * 41 by omega) (Nat.le_of_ble_eq_true rfl) (Nat.le_of_ble_eq_true rfl) (Nat.le_of_ble_eq_true rfl) (fun z30 rz30 A30 M30 xM30 hM30 => ?_)
      obtain ⟨hAA, fM30, aM30, bM30⟩ := hM30
      replace hAA := hAA.symm
      subst hAA
      refine V_lstore_n (q := 34) (lv1 := [(3, 110), (3, T), (2, z30), (9, 0), (0, i)]) dX2_orderFirsts_33 rfl rfl (by decide) rfl rfl ?_
      refine V_iinc (q := 37) dX2_orderFirsts_34 rfl rfl (by decide) rfl (by omega) (fun z34 lz34 ez34 hlz34 => ?_)
      obtain rfl : lz34 = [(3, 110), (3, T), (2, z30), (9, 0), (0, z34)] := hlz34
      refine V_goto (tgt := 10) dX2_orderFirsts_37 (by decide) ?_
      refine ih M30 z30 z34 (PO M z27 q) ⟨SF1.des fM30 hT ht.1 w Dm, fm.trans fM30, by omega, by omega, aM30, bM30, ?_⟩ (by omega)
      rw [← hp, pof_s _ _ _ q h1 (by omega), ← eu, ez34]
  refine V_aload_n (q := 1) dX2_orderFirsts_0 rfl rfl rfl ?_
  refine V_iconst (q := 2) dX2_orderFirsts_1 rfl (by decide) ?_
  refine V_putI (q := 5) 13 dX2_orderFirsts_2 rfl flX2_106 (Or.inl rfl) (by omega) (congrArg Prod.fst (show _ = (5, 0) by rw [yT.1.1.1])) rfl rfl (fun M2 eM2 => ?_)
  refine V_lconst (q := 6) (x := 0) dX2_orderFirsts_5 rfl rfl ?_
  refine V_lstore_n (q := 7) (lv1 := [(3, 110), (3, T), (2, 0), (9, 0), (9, 0)]) dX2_orderFirsts_6 rfl rfl (by decide) rfl rfl ?_
  refine V_iconst (q := 8) dX2_orderFirsts_7 rfl (by decide) ?_
  refine V_istore (q := 10) (lv1 := [(3, 110), (3, T), (2, 0), (9, 0), (0, 0)]) dX2_orderFirsts_8 rfl (by decide) rfl rfl ?_
  have f0 : SF1 T μ M2 := fun u i hh => by rw [eM2, mu_ne (by omega)]
  exact loop M2 0 0 (fun _ => 0, []) ⟨f0.des hT ht.1 w D, f0, by decide, hct.1, ⟨fun _ => Or.inl rfl, fun x x0 x1 => ⟨fun q => by rw [bt_0] at q; exact absurd q (by decide), fun q => absurd q (show ¬ (0 : Int) = 1 by decide)⟩, by { rw [eM2, mu_s]; rfl }, fun k k0 k1 => absurd k1 (by simp only [List.length_nil]; omega)⟩, by { have := cntz_le (fun _ => 0) (M 0 0).toNat; show 0 + 0 + cntz (fun _ => 0) (M 0 0).toNat ≤ 40; omega }, by rw [show M 4 t - 0 = M 4 t by omega]⟩
