/-! THE DESCRIPTION'S RELATION behind each change -/
theorem MeR_m1 {M : Mem} {μ : Mem} (h : ∀ i : Int, 0 ≤ i → i < 400 → μ 112 i = -1) : MeR M μ := fun t nm t0 t1 n0 n1 => Or.inl (h _ (by omega) (by omega))
theorem DeS_c {α α1 : Sh} {μ μ1 : Mem} (hα : ∀ t, 110 ≤ t → t < 115 → α1 t = α t) (hμ : ∀ k, k ≠ 1 → μ1 110 k = μ 110 k) (h : DeS α μ) : DeS α1 μ1 := by
  unfold DeS at h ⊢
  rw [hα 110 (by decide) (by decide), hα 111 (by decide) (by decide), hα 112 (by decide) (by decide), hα 113 (by decide) (by decide), hα 114 (by decide) (by decide), hμ 0 (by decide), hμ 2 (by decide), hμ 3 (by decide), hμ 6 (by decide)]
  exact h
theorem oF_0 {M : Mem} {t nm : Int} (h : M 6 t = 0) : oF M t nm = -6 := by
  unfold oF
  rw [h]
  rfl
theorem oM_0 {M : Mem} {t nm : Int} (h : M 10 t = 0) : oM M t nm = -6 := by
  unfold oM
  rw [h]
  rfl
theorem BodR_0 {M : Mem} {b B A : Int} {α : Sh} {μ : Mem} (hs : BoS B α μ) (h1 : μ B 1 = 0) (h0 : M 12 b = 0) (hf : ∀ k : Int, 0 ≤ k → k < 12 → (α (A + k)).1 = 0) : BodR M b B A α μ := ⟨hs, by rw [h0]; exact h1, fun k k0 k1 => by omega, fun k k0 k1 => hf k (by omega) k1⟩
theorem AG_mk {M : Mem} {a b up i : Int} (hi : i ≠ M 0 0) : AG M (mkM M a b up) i := by
  have o : ∀ k : Int, k ≠ 0 → k ≠ 1 → k ≠ 2 → k ≠ 3 → mkM M a b up k = M k := fun k h0 h1 h2 h3 => mk_o h0 h1 h2 h3
  unfold AG
  rw [mk_1, mk_2, mk_3, if_neg hi, if_neg hi, if_neg hi, o 4 (by decide) (by decide) (by decide) (by decide), o 5 (by decide) (by decide) (by decide) (by decide), o 6 (by decide) (by decide) (by decide) (by decide), o 7 (by decide) (by decide) (by decide) (by decide), o 8 (by decide) (by decide) (by decide) (by decide), o 9 (by decide) (by decide) (by decide) (by decide), o 10 (by decide) (by decide) (by decide) (by decide), o 11 (by decide) (by decide) (by decide) (by decide), o 12 (by decide) (by decide) (by decide) (by decide), o 13 (by decide) (by decide) (by decide) (by decide), o 14 (by decide) (by decide) (by decide) (by decide), o 15 (by decide) (by decide) (by decide) (by decide), o 16 (by decide) (by decide) (by decide) (by decide)]
  exact AG.rf
theorem DesR_mk {M : Mem} {a b up ab T Lb : Int} {α α1 : Sh} {μ μ0 μ1 : Mem} (w : WFD M) (w1 : WFD (mkM M a b up)) (D : DesR M α μ) (hn : M 0 0 < 40) (hup : -1 ≤ up ∧ up < M 0 0) (hab : ab = if up < 0 then -6 else up) (hT : T = tk (M 0 0)) (N : TyN T a b ab α1 μ0) (f : ∀ t, t < T ∨ T + 8 ≤ t → α1 t = α t ∧ μ0 t = μ t)
    (hμ : μ1 = mu (mu (mu μ0 T 5 Lb) 111 (M 0 0) T) 110 1 (M 0 0 + 1)) (hL : ∀ j : Nat, j < 64 → bt Lb j = (bt (μ0 T 5) j || (decide (0 ≤ ab) && (decide (j = ab.toNat) || bt (μ0 (tk ab) 5) j)))) : DesR (mkM M a b up) α1 μ1 := by
  have h0 := w.n
  have hT1 : T = 1000 * (M 0 0 + 1) := hT
  obtain ⟨D1, D2, D3, D4, D5, D6⟩ := D
  have o : ∀ k : Int, k ≠ 0 → k ≠ 1 → k ≠ 2 → k ≠ 3 → mkM M a b up k = M k := fun k h0 h1 h2 h3 => mk_o h0 h1 h2 h3
  have hun := w.un (M 0 0) (Int.le_refl _) hn
  have hm : ∀ u k : Int, ¬ (u = T ∧ k = 5) → ¬ (u = 111 ∧ k = M 0 0) → ¬ (u = 110 ∧ k = 1) → μ1 u k = μ0 u k := fun u k h1 h2 h3 => by rw [hμ, mu_ne h3, mu_ne h2, mu_ne h1]
  have hfree : ∀ t, T + 8 ≤ t → (α1 t).1 = 0 := fun t ht => by rw [(f t (Or.inr ht)).1]; exact D6 t (by rw [← hT]; omega)
  refine ⟨DeS_c (fun t a b => (f t (by omega)).1) (fun k hk => by rw [hm 110 k (by omega) (by omega) (by omega), (f 110 (by omega)).2]) D1, by rw [hμ, mu_s, mk_0], fun i i0 i1 => ?_, fun i j i0 i1 j0 j1 => ?_, fun t nm t0 t1 n0 n1 => ?_, fun t ht => ?_⟩
  · rw [mk_0] at i1
    by_cases hi : i = M 0 0
    · subst hi
      rw [← hT]
      refine ⟨by rw [hμ, mu_t _ _ _ _ (by decide), mu_s], ?_⟩
      unfold TypR
      rw [← hT]
      obtain ⟨N1, ⟨n0, n1, n2, n4, n5, n8, n10, n13, n51⟩, v1, v2, v3, v4, v6, v7⟩ := N
      have r : ∀ k, T < k → k < T + 8 → μ1 k = μ0 k := fun k h1 h2 => funext fun q => hm k q (by omega) (by omega) (by omega)
      have hS : TyS T α1 μ1 := TyS_c (fun _ _ _ => rfl) (fun k a => hm T k (by omega) (by omega) (by omega)) (by rw [r (T + 5) (by omega) (by omega)]) N1
      refine ⟨hS, ⟨?_, ?_, ?_, ?_, ?_, ?_⟩, fun k k0 k1 => ?_, fun nm m0 m1 => ?_, fun nm m0 m1 => ⟨fun _ => ?_, fun q => ?_⟩, ?_⟩
      · rw [hm T 0 (by omega) (by omega) (by omega), mk_1, if_pos rfl]; exact n0
      · rw [hm T 1 (by omega) (by omega) (by omega), mk_2, if_pos rfl]; exact n1
      · rw [hm T 2 (by omega) (by omega) (by omega), mk_3, if_pos rfl, n2]; exact hab
      · rw [hm T 4 (by omega) (by omega) (by omega), o 4 (by decide) (by decide) (by decide) (by decide), hun.1]; exact n4
      · rw [hm T 8 (by omega) (by omega) (by omega), o 6 (by decide) (by decide) (by decide) (by decide), hun.2.1]; exact n8
      · rw [hm T 10 (by omega) (by omega) (by omega), o 10 (by decide) (by decide) (by decide) (by decide), hun.2.2.1]; exact n10
      · rw [o 4 (by decide) (by decide) (by decide) (by decide), hun.1] at k1; omega
      · have ho : oF (mkM M a b up) (M 0 0) nm = -6 := oF_0 (by rw [o 6 (by decide) (by decide) (by decide) (by decide)]; exact hun.2.1)
        rw [ho]
        refine ⟨?_, fun q => by omega⟩
        rw [r (T + 2) (by omega) (by omega), v2]
        unfold fK
        rw [ho]
        rfl
      · refine ⟨by rw [r (T + 4) (by omega) (by omega)]; exact v4 nm, hfree _ (by omega), hfree _ (by omega), fun k k0 k1 => hfree _ (by omega)⟩
      · rw [oM_0 (by rw [o 10 (by decide) (by decide) (by decide) (by decide)]; exact hun.2.2.1)] at q; omega
      · refine BodR_0 ⟨hS.1.2.2.2.2.2.1, ?_, ?_⟩ ?_ ?_ (fun k k0 k1 => hfree _ (by omega))
        · have := hS.1.2.2.2.2.2.2.1; rwa [show T + 5 + 1 = T + 6 by omega]
        · have := hS.2.2.2.2.2.2.2; rwa [show T + 5 + 1 = T + 6 by omega]
        · rw [r (T + 5) (by omega) (by omega)]; exact n51
        · rw [o 12 (by decide) (by decide) (by decide) (by decide)]; exact hun.2.2.2
    · have hti : tk i + 1000 ≤ T := by have := tk_eq i; omega
      have ht0 : 1000 ≤ tk i := by have := tk_eq i; omega
      refine ⟨?_, TypR_c w i0 (by omega) (AG_mk hi) (fun t a b => (f t (by omega)).1) (fun t k a b _ => by rw [hm t k (by omega) (by omega) (by omega), (f t (by omega)).2]) (D3 i i0 (by omega)).2⟩
      rw [hm 111 i (by omega) (by omega) (by omega), (f 111 (by omega)).2]
      exact (D3 i i0 (by omega)).1
  · rw [mk_0] at i1
    by_cases hi : i = M 0 0
    · subst hi
      rw [← hT, hμ, mu_ne (by omega), mu_ne (by omega), mu_s, hL j.toNat (by omega), N.2.1.2.2.2.2.1, bt_0, Bool.false_or, Bool.and_eq_true, Bool.or_eq_true, decide_eq_true_eq, decide_eq_true_eq, mk_RTn w hn hup.2]
      by_cases hu : up < 0
      · rw [if_pos hu] at hab
        exact ⟨fun q => by have := q.1; omega, fun q => by have := q.1; omega⟩
      · rw [if_neg hu] at hab
        have htu : tk ab + 1000 ≤ T := by have := tk_eq ab; omega
        have hd := D4 ab j (by omega) (by omega) j0 j1
        rw [(f (tk ab) (by omega)).2, hd]
        unfold RS
        constructor
        · rintro ⟨-, q | q⟩
          · exact ⟨by omega, Or.inl (by omega)⟩
          · exact ⟨by omega, Or.inr (by rw [← hab]; exact q)⟩
        · rintro ⟨-, q | q⟩
          · exact ⟨by omega, Or.inl (by omega)⟩
          · exact ⟨by omega, Or.inr (by rw [hab]; exact q)⟩
    · have hti : tk i + 1000 ≤ T := by have := tk_eq i; omega
      have ht0 : 1000 ≤ tk i := by have := tk_eq i; omega
      rw [hm (tk i) 5 (by omega) (by omega) (by omega), (f (tk i) (by omega)).2, mk_RT w hn hi]
      exact D4 i j i0 (by omega) j0 j1
  · rw [hm 112 _ (by omega) (by omega) (by omega), (f 112 (by omega)).2]
    rcases D5 t nm t0 t1 n0 n1 with h | ⟨h1, h2⟩
    · exact Or.inl h
    · refine Or.inr ⟨by rw [mk_0]; omega, ?_⟩
      rw [h2, FO_same (FF_mk w w1 t0 h1)]
  · rw [mk_0] at ht
    have := tk_eq (M 0 0 + 1)
    exact hfree t (by omega)
theorem AG_un {M : Mem} {t f i : Int} (w : WFD M) (t0 : 0 ≤ t) (t1 : t < 40) (h4 : M 4 t < 4) (hi : i ≠ t) : AG M (undX M t f) i := by
  have hct := (w.cnt t t0 t1).1
  have o : ∀ k : Int, k ≠ 4 → k ≠ 5 → undX M t f k = M k := fun k h0 h1 => un_o h0 h1
  unfold AG
  rw [un_4, if_neg hi, o 1 (by decide) (by decide), o 2 (by decide) (by decide), o 3 (by decide) (by decide), o 6 (by decide) (by decide), o 7 (by decide) (by decide), o 8 (by decide) (by decide), o 9 (by decide) (by decide), o 10 (by decide) (by decide), o 11 (by decide) (by decide), o 12 (by decide) (by decide), o 13 (by decide) (by decide), o 14 (by decide) (by decide), o 15 (by decide) (by decide), o 16 (by decide) (by decide)]
  refine ⟨⟨rfl, rfl, rfl, rfl, rfl, rfl⟩, fun k k0 k1 => ⟨?_, rfl⟩, fun _ _ _ => ⟨rfl, rfl, rfl⟩, fun _ _ _ => rfl, fun _ _ _ => ⟨rfl, rfl, rfl, rfl⟩⟩
  rw [un_5, if_neg (by omega)]
theorem DesR_un {M : Mem} {t f T : Int} {α : Sh} {μ μ1 : Mem} (w : WFD M) (D : DesR M α μ) (t0 : 0 ≤ t) (t1 : t < M 0 0) (h4 : M 4 t < 4) (f0 : 0 ≤ f) (f1 : f < M 0 0) (hT : T = tk t)
    (g1 : μ1 (T + 1) (M 4 t) = f) (g2 : μ1 T 4 = M 4 t + 1) (gl : ∀ i : Int, 0 ≤ i → i < M 0 0 → ∀ j : Nat, j < 64 → bt (μ1 (tk i) 5) j = (bt (μ (tk i) 5) j || ((decide (i = t) || bt (μ (tk i) 5) t.toNat) && (decide (j = f.toNat) || bt (μ (tk f) 5) j)))) (gm : ∀ i : Int, 0 ≤ i → i < 400 → μ1 112 i = -1)
    (fr : ∀ u i : Int, ¬ (u = 112 ∨ (u = T + 1 ∧ i = M 4 t) ∨ (u = T ∧ i = 4) ∨ (1000 ≤ u ∧ u % 1000 = 0 ∧ i = 5)) → μ1 u i = μ u i) : DesR (undX M t f) α μ1 := by
  have h0 := w.n
  have hT1 : T = 1000 * (t + 1) := hT
  have hct := (w.cnt t t0 (by omega)).1
  obtain ⟨D1, D2, D3, D4, D5, D6⟩ := D
  have o : ∀ k : Int, k ≠ 4 → k ≠ 5 → undX M t f k = M k := fun k h0 h1 => un_o h0 h1
  refine ⟨DeS_c (fun _ _ _ => rfl) (fun k hk => fr 110 k (by omega)) D1, by rw [fr 110 1 (by omega), o 0 (by decide) (by decide)]; exact D2, fun i i0 i1 => ?_, fun i j i0 i1 j0 j1 => ?_, MeR_m1 gm, fun u hu => D6 u (by rw [o 0 (by decide) (by decide)] at hu; exact hu)⟩
  · rw [o 0 (by decide) (by decide)] at i1
    have hti := tk_eq i
    refine ⟨by rw [fr 111 i (by omega)]; exact (D3 i i0 i1).1, ?_⟩
    by_cases hi : i = t
    · subst hi
      obtain ⟨h1, ⟨c0, c1, c2, c4, c8, c10⟩, h3, h4', h5, h6⟩ := (D3 i i0 i1).2
      rw [← hT] at h1 c0 c1 c2 c4 c8 c10 h3 h4' h5 h6
      have eF : ∀ nm, oF (undX M i f) i nm = oF M i nm := fun nm => by unfold oF; rw [o 6 (by decide) (by decide), o 7 (by decide) (by decide)]
      have eM : ∀ nm, oM (undX M i f) i nm = oM M i nm := fun nm => oM_congr (o 10 (by decide) (by decide)) (o 11 (by decide) (by decide)) i nm
      have hB : ∀ b B A, 5 * i ≤ b → b < 5 * i + 5 → T + 4 < B → B + 1 < T + 1000 → T + 7 < A → A + 12 ≤ T + 1000 → BodR M b B A α μ → BodR (undX M i f) b B A α μ1 := fun b B A b0 b1 a1 a2 a3 a4 hb => by
        have hsz := w.size b (by omega) (by omega)
        refine BodR_c (by rw [o 12 (by decide) (by decide)]) (fun k k0 k1 => by rw [o 13 (by decide) (by decide), o 14 (by decide) (by decide), o 15 (by decide) (by decide), o 16 (by decide) (by decide)]; exact ⟨rfl, rfl, rfl, rfl⟩) (fun u hu => ⟨rfl, funext fun k => fr u k (by omega)⟩) hsz.2 hsz.1 hb
      unfold TypR
      rw [← hT]
      refine ⟨TyS_c (fun _ _ _ => rfl) (fun k a => ?_) (by rw [fr (T + 5) 0 (by omega)]) h1, ⟨?_, ?_, ?_, ?_, ?_, ?_⟩, fun k k0 k1 => ?_, fun nm n0 n1 => ?_, fun nm n0 n1 => ?_, hB _ _ _ (by omega) (by omega) (by omega) (by omega) (by omega) (by omega) h6⟩
      · exact fr T k (by omega)
      · rw [fr T 0 (by omega), o 1 (by decide) (by decide)]; exact c0
      · rw [fr T 1 (by omega), o 2 (by decide) (by decide)]; exact c1
      · rw [fr T 2 (by omega), o 3 (by decide) (by decide)]; exact c2
      · rw [g2, un_4, if_pos rfl]
      · rw [fr T 8 (by omega), o 6 (by decide) (by decide)]; exact c8
      · rw [fr T 10 (by omega), o 10 (by decide) (by decide)]; exact c10
      · rw [un_4, if_pos rfl] at k1
        rw [un_5]
        by_cases hk : k = M 4 i
        · rw [if_pos (by omega), hk]; exact g1
        · rw [if_neg (by omega), fr (T + 1) k (by omega)]; exact h3 k k0 (by omega)
      · rw [eF, fr (T + 2) nm (by omega), fr (T + 3) nm (by omega), o 9 (by decide) (by decide)]
        have e : fK (undX M i f) i nm = fK M i nm := by unfold fK; rw [eF, o 8 (by decide) (by decide)]
        rw [e]
        exact h4' nm n0 n1
      · rw [eM, fr (T + 4) nm (by omega)]
        have := oM_rng M i nm
        have hcm := (w.cnt i i0 (by omega)).2.2
        exact ⟨(h5 nm n0 n1).1, fun q => ⟨((h5 nm n0 n1).2 q).1, hB _ _ _ (by omega) (by omega) (by omega) (by omega) (by omega) (by omega) ((h5 nm n0 n1).2 q).2⟩⟩
    · exact TypR_c w i0 (by omega) (AG_un w t0 (by omega) h4 hi) (fun _ _ _ => rfl) (fun u k a b c => fr u k (by omega)) (D3 i i0 i1).2
  · rw [o 0 (by decide) (by decide)] at i1
    rw [gl i i0 i1 j.toNat (by omega), Bool.or_eq_true, Bool.and_eq_true, Bool.or_eq_true, Bool.or_eq_true, decide_eq_true_eq, decide_eq_true_eq, D4 i j i0 i1 j0 j1, D4 i t i0 i1 t0 (by omega), D4 f j f0 f1 j0 j1, un_RT w t0 t1 h4]
    unfold RS
    constructor
    · rintro (q | ⟨q1, q2⟩)
      · exact Or.inl q
      · exact Or.inr ⟨q1, q2.imp (fun q => by omega) id⟩
    · rintro (q | ⟨q1, q2⟩)
      · exact Or.inl q
      · exact Or.inr ⟨q1, q2.imp (fun q => by omega) id⟩
