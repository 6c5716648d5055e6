/-! THE DESCRIPTION'S RELATION behind fields, methods, actions -/
theorem AG_fl {M : Mem} {t nm c v i : Int} (w : WFD M) (t0 : 0 ≤ t) (t1 : t < 40) (h6 : M 6 t < 6) (hi : i ≠ t) : AG M (fldX M t nm c v) i := by
  have hct := (w.cnt t t0 t1).2.1
  have o : ∀ k : Int, k ≠ 6 → k ≠ 7 → k ≠ 8 → k ≠ 9 → fldX M t nm c v k = M k := fun k a b c d => fl_o a b c d
  unfold AG
  rw [fl_6, if_neg hi, o 1 (by decide) (by decide) (by decide) (by decide), o 2 (by decide) (by decide) (by decide) (by decide), o 3 (by decide) (by decide) (by decide) (by decide), o 4 (by decide) (by decide) (by decide) (by decide), o 5 (by decide) (by decide) (by decide) (by decide), o 10 (by decide) (by decide) (by decide) (by decide), o 11 (by decide) (by decide) (by decide) (by decide), o 12 (by decide) (by decide) (by decide) (by decide), o 13 (by decide) (by decide) (by decide) (by decide), o 14 (by decide) (by decide) (by decide) (by decide), o 15 (by decide) (by decide) (by decide) (by decide), o 16 (by decide) (by decide) (by decide) (by decide)]
  refine ⟨⟨rfl, rfl, rfl, rfl, rfl, rfl⟩, fun _ _ _ => ⟨rfl, rfl⟩, fun k k0 k1 => ?_, fun _ _ _ => rfl, fun _ _ _ => ⟨rfl, rfl, rfl, rfl⟩⟩
  rw [fl_7, fl_8, fl_9, if_neg (by omega), if_neg (by omega), if_neg (by omega)]
  exact ⟨rfl, rfl, rfl⟩
theorem DesR_fl {M : Mem} {t nm c v T : Int} {α : Sh} {μ μ1 : Mem} (w : WFD M) (D : DesR M α μ) (t0 : 0 ≤ t) (t1 : t < M 0 0) (m0 : 0 ≤ nm) (m1 : nm ≤ 9) (h6 : M 6 t < 6) (ho : oF M t nm < 0) (hc : 0 ≤ c ∧ c ≤ 1) (hT : T = tk t)
    (hm : ∀ u, u ≠ 112 → μ1 u = mu (mu (mu μ (T + 2) nm (if c = 0 then 1 else 2)) (T + 3) nm v) T 8 (M 6 t + 1) u) (gm : ∀ i : Int, 0 ≤ i → i < 400 → μ1 112 i = -1) : DesR (fldX M t nm c v) α μ1 := by
  have h0 := w.n
  have hT1 : T = 1000 * (t + 1) := hT
  have hct := (w.cnt t t0 (by omega)).2.1
  obtain ⟨D1, D2, D3, D4, D5, D6⟩ := D
  have o : ∀ k : Int, k ≠ 6 → k ≠ 7 → k ≠ 8 → k ≠ 9 → fldX M t nm c v k = M k := fun k a b c d => fl_o a b c d
  have fr : ∀ u k : Int, ¬ (u = 112 ∨ (u = T + 2 ∧ k = nm) ∨ (u = T + 3 ∧ k = nm) ∨ (u = T ∧ k = 8)) → μ1 u k = μ u k := fun u k h => by rw [hm u (by omega), mu_ne (by omega), mu_ne (by omega), mu_ne (by omega)]
  refine ⟨DeS_c (fun _ _ _ => rfl) (fun k hk => fr 110 k (by omega)) D1, by rw [fr 110 1 (by omega), o 0 (by decide) (by decide) (by decide) (by decide)]; exact D2, fun i i0 i1 => ?_, fun i j i0 i1 j0 j1 => ?_, MeR_m1 gm, fun u hu => D6 u (by rw [o 0 (by decide) (by decide) (by decide) (by decide)] at hu; exact hu)⟩
  · rw [o 0 (by decide) (by decide) (by decide) (by decide)] at i1
    have hti := tk_eq i
    refine ⟨by rw [fr 111 i (by omega)]; exact (D3 i i0 i1).1, ?_⟩
    by_cases hi : i = t
    · subst hi
      obtain ⟨h1, ⟨c0, c1, c2, c4, c8, c10⟩, h3, h4', h5, h6'⟩ := (D3 i i0 i1).2
      rw [← hT] at h1 c0 c1 c2 c4 c8 c10 h3 h4' h5 h6'
      have eF : ∀ u, oF (fldX M i nm c v) i u = if u = nm then M 6 i else oF M i u := fun u => by
        rw [fl_oF w i0 (by omega) h6 i0 (by omega)]
        by_cases hu : u = nm
        · rw [if_pos ⟨rfl, hu⟩, if_pos hu]
        · rw [if_neg (fun q => hu q.2), if_neg hu]
      have eM : ∀ u, oM (fldX M i nm c v) i u = oM M i u := fun u => oM_congr (o 10 (by decide) (by decide) (by decide) (by decide)) (o 11 (by decide) (by decide) (by decide) (by decide)) i u
      have hB : ∀ b B A, 5 * i ≤ b → b < 5 * i + 5 → T + 4 < B → B + 1 < T + 1000 → T + 7 < A → A + 12 ≤ T + 1000 → BodR M b B A α μ → BodR (fldX M i nm c v) b B A α μ1 := fun b B A b0 b1 a1 a2 a3 a4 hb => by
        have hsz := w.size b (by omega) (by omega)
        refine BodR_c (by rw [o 12 (by decide) (by decide) (by decide) (by decide)]) (fun k k0 k1 => by rw [o 13 (by decide) (by decide) (by decide) (by decide), o 14 (by decide) (by decide) (by decide) (by decide), o 15 (by decide) (by decide) (by decide) (by decide), o 16 (by decide) (by decide) (by decide) (by decide)]; exact ⟨rfl, rfl, rfl, rfl⟩) (fun u hu => ⟨rfl, funext fun k => fr u k (by omega)⟩) hsz.2 hsz.1 hb
      unfold TypR
      rw [← hT]
      refine ⟨TyS_c (fun _ _ _ => rfl) (fun k a => fr T k (by omega)) (by rw [fr (T + 5) 0 (by omega)]) h1, ⟨?_, ?_, ?_, ?_, ?_, ?_⟩, fun k k0 k1 => ?_, fun u n0 n1 => ?_, fun u n0 n1 => ?_, hB _ _ _ (by omega) (by omega) (by omega) (by omega) (by omega) (by omega) h6'⟩
      · rw [fr T 0 (by omega), o 1 (by decide) (by decide) (by decide) (by decide)]; exact c0
      · rw [fr T 1 (by omega), o 2 (by decide) (by decide) (by decide) (by decide)]; exact c1
      · rw [fr T 2 (by omega), o 3 (by decide) (by decide) (by decide) (by decide)]; exact c2
      · rw [fr T 4 (by omega), o 4 (by decide) (by decide) (by decide) (by decide)]; exact c4
      · rw [hm T (by omega), mu_s, fl_6, if_pos rfl]
      · rw [fr T 10 (by omega), o 10 (by decide) (by decide) (by decide) (by decide)]; exact c10
      · rw [o 4 (by decide) (by decide) (by decide) (by decide)] at k1
        rw [fr (T + 1) k (by omega), o 5 (by decide) (by decide) (by decide) (by decide)]; exact h3 k k0 k1
      · unfold fK
        rw [eF]
        by_cases hu : u = nm
        · subst hu
          rw [if_pos rfl, if_neg (by omega), fl_8, if_pos rfl, fl_9, if_pos rfl, hm (T + 2) (by omega), hm (T + 3) (by omega), mu_ne (by omega), mu_ne (by omega), mu_s, mu_ne (by omega), mu_s]
          refine ⟨?_, fun _ => rfl⟩
          by_cases hc1 : c = 1
          · rw [if_pos hc1, if_neg (by omega)]
          · rw [if_neg hc1, if_pos (by omega)]
        · have hr := oF_rng M i u
          rw [if_neg hu, fr (T + 2) u (by omega), fr (T + 3) u (by omega), fl_8, fl_9, if_neg (show ¬ 6 * i + oF M i u = 6 * i + M 6 i by omega), if_neg (show ¬ 6 * i + oF M i u = 6 * i + M 6 i by omega)]
          exact h4' u n0 n1
      · rw [eM, fr (T + 4) u (by omega)]
        have := oM_rng M i u
        have hcm := (w.cnt i i0 (by omega)).2.2
        exact ⟨(h5 u n0 n1).1, fun q => ⟨((h5 u n0 n1).2 q).1, hB _ _ _ (by omega) (by omega) (by omega) (by omega) (by omega) (by omega) ((h5 u n0 n1).2 q).2⟩⟩
    · exact TypR_c w i0 (by omega) (AG_fl w t0 (by omega) h6 hi) (fun _ _ _ => rfl) (fun u k a b c => fr u k (by omega)) (D3 i i0 i1).2
  · rw [o 0 (by decide) (by decide) (by decide) (by decide)] at i1
    have hti := tk_eq i
    unfold RT
    rw [fl_edge, fr (tk i) 5 (by omega)]
    exact D4 i j i0 i1 j0 j1
theorem AG_mt {M : Mem} {t nm i : Int} (w : WFD M) (t0 : 0 ≤ t) (t1 : t < 40) (h6 : M 10 t < 4) (hi : i ≠ t) : AG M (mthX M t nm) i := by
  have hct := (w.cnt t t0 t1).2.2
  have o : ∀ k : Int, k ≠ 10 → k ≠ 11 → mthX M t nm k = M k := fun k a b => mt_o a b
  unfold AG
  rw [mt_10, if_neg hi, o 1 (by decide) (by decide), o 2 (by decide) (by decide), o 3 (by decide) (by decide), o 4 (by decide) (by decide), o 5 (by decide) (by decide), o 6 (by decide) (by decide), o 7 (by decide) (by decide), o 8 (by decide) (by decide), o 9 (by decide) (by decide), o 12 (by decide) (by decide), o 13 (by decide) (by decide), o 14 (by decide) (by decide), o 15 (by decide) (by decide), o 16 (by decide) (by decide)]
  refine ⟨⟨rfl, rfl, rfl, rfl, rfl, rfl⟩, fun k k0 k1 => ⟨rfl, ?_⟩, fun _ _ _ => ⟨rfl, rfl, rfl⟩, fun _ _ _ => rfl, fun _ _ _ => ⟨rfl, rfl, rfl, rfl⟩⟩
  rw [mt_11, if_neg (by omega)]
theorem DesR_mt {M : Mem} {t nm T B : Int} {α α1 : Sh} {μ μ1 : Mem} (w : WFD M) (w1 : WFD (mthX M t nm)) (D : DesR M α μ) (t0 : 0 ≤ t) (t1 : t < M 0 0) (m0 : 0 ≤ nm) (m1 : nm ≤ 9) (h6 : M 10 t < 4) (ho : oM M t nm < 0) (hT : T = tk t) (hB0 : B = T + 20 + 2 * nm)
    (gb : BoN B α1 μ1) (g4 : μ1 (T + 4) nm = B) (g10 : μ1 T 10 = M 10 t + 1) (fr : ∀ u i : Int, ¬ (u = B ∨ u = B + 1 ∨ (u = T + 4 ∧ i = nm) ∨ (u = T ∧ i = 10)) → μ1 u i = μ u i) (fα : ∀ u : Int, u ≠ B → u ≠ B + 1 → α1 u = α u) : DesR (mthX M t nm) α1 μ1 := by
  have h0 := w.n
  have hT1 : T = 1000 * (t + 1) := hT
  have hct := (w.cnt t t0 (by omega)).2.2
  obtain ⟨D1, D2, D3, D4, D5, D6⟩ := D
  have o : ∀ k : Int, k ≠ 10 → k ≠ 11 → mthX M t nm k = M k := fun k a b => mt_o a b
  refine ⟨DeS_c (fun u a b => fα u (by omega) (by omega)) (fun k hk => fr 110 k (by omega)) D1, by rw [fr 110 1 (by omega), o 0 (by decide) (by decide)]; exact D2, fun i i0 i1 => ?_, fun i j i0 i1 j0 j1 => ?_, fun u k u0 u1 k0 k1 => ?_, fun u hu => ?_⟩
  · rw [o 0 (by decide) (by decide)] at i1
    have hti := tk_eq i
    refine ⟨by rw [fr 111 i (by omega)]; exact (D3 i i0 i1).1, ?_⟩
    by_cases hi : i = t
    · subst hi
      obtain ⟨h1, ⟨c0, c1, c2, c4, c8, c10⟩, h3, h4', h5, h6'⟩ := (D3 i i0 i1).2
      rw [← hT] at h1 c0 c1 c2 c4 c8 c10 h3 h4' h5 h6'
      have eF : ∀ u, oF (mthX M i nm) i u = oF M i u := fun u => by unfold oF; rw [o 6 (by decide) (by decide), o 7 (by decide) (by decide)]
      have eM : ∀ u, oM (mthX M i nm) i u = if u = nm then M 10 i else oM M i u := fun u => by
        rw [mt_oM w i0 (by omega) h6 i0 (by omega)]
        by_cases hu : u = nm
        · rw [if_pos ⟨rfl, hu⟩, if_pos hu]
        · rw [if_neg (fun q => hu q.2), if_neg hu]
      have hB : ∀ b B' A, 5 * i ≤ b → b < 5 * i + 5 → T + 4 < B' → B' + 1 < T + 1000 → T + 7 < A → A + 12 ≤ T + 1000 → (B' + 1 < B ∨ B + 1 < B') → B + 1 < A → BodR M b B' A α μ → BodR (mthX M i nm) b B' A α1 μ1 := fun b B' A b0 b1 a1 a2 a3 a4 a5 a6 hb => by
        have hsz := w.size b (by omega) (by omega)
        refine BodR_c (by rw [o 12 (by decide) (by decide)]) (fun k k0 k1 => by rw [o 13 (by decide) (by decide), o 14 (by decide) (by decide), o 15 (by decide) (by decide), o 16 (by decide) (by decide)]; exact ⟨rfl, rfl, rfl, rfl⟩) (fun u hu => ⟨fα u (by omega) (by omega), funext fun k => fr u k (by omega)⟩) hsz.2 hsz.1 hb
      unfold TypR
      rw [← hT]
      refine ⟨TyS_c (fun u a b => fα u (by omega) (by omega)) (fun k a => fr T k (by omega)) (by rw [fr (T + 5) 0 (by omega)]) h1, ⟨?_, ?_, ?_, ?_, ?_, ?_⟩, fun k k0 k1 => ?_, fun u n0 n1 => ?_, fun u n0 n1 => ?_, hB _ _ _ (by omega) (by omega) (by omega) (by omega) (by omega) (by omega) (by omega) (by omega) h6'⟩
      · rw [fr T 0 (by omega), o 1 (by decide) (by decide)]; exact c0
      · rw [fr T 1 (by omega), o 2 (by decide) (by decide)]; exact c1
      · rw [fr T 2 (by omega), o 3 (by decide) (by decide)]; exact c2
      · rw [fr T 4 (by omega), o 4 (by decide) (by decide)]; exact c4
      · rw [fr T 8 (by omega), o 6 (by decide) (by decide)]; exact c8
      · rw [g10, mt_10, if_pos rfl]
      · rw [o 4 (by decide) (by decide)] at k1
        rw [fr (T + 1) k (by omega), o 5 (by decide) (by decide)]; exact h3 k k0 k1
      · have e : fK (mthX M i nm) i u = fK M i u := by unfold fK; rw [eF, o 8 (by decide) (by decide)]
        rw [e, eF, fr (T + 2) u (by omega), fr (T + 3) u (by omega), o 9 (by decide) (by decide)]
        exact h4' u n0 n1
      · rw [eM]
        have hr := oM_rng M i u
        by_cases hu : u = nm
        · subst hu
          rw [if_pos rfl]
          refine ⟨fun q => by omega, fun q => ⟨by rw [g4]; omega, ?_⟩⟩
          have hfr := ((h5 u n0 n1).1 (by omega)).2.2.2
          rw [show T + (20 + 2 * u) = B by omega]
          refine BodR_0 gb.1 gb.2.1 ?_ (fun k k0 k1 => by rw [fα _ (by omega) (by omega)]; exact hfr k k0 k1)
          rw [o 12 (by decide) (by decide)]
          exact w.um i (M 10 i) i0 (by omega) (Int.le_refl _) h6
        · rw [if_neg hu, fr (T + 4) u (by omega)]
          refine ⟨fun q => ?_, fun q => ⟨((h5 u n0 n1).2 q).1, hB _ _ _ (by omega) (by omega) (by omega) (by omega) (by omega) (by omega) (by omega) (by omega) ((h5 u n0 n1).2 q).2⟩⟩
          obtain ⟨a, b, c, d⟩ := (h5 u n0 n1).1 q
          exact ⟨a, by rw [fα _ (by omega) (by omega)]; exact b, by rw [fα _ (by omega) (by omega)]; exact c, fun k k0 k1 => by rw [fα _ (by omega) (by omega)]; exact d k k0 k1⟩
    · exact TypR_c w i0 (by omega) (AG_mt w t0 (by omega) h6 hi) (fun u a b => fα u (by omega) (by omega)) (fun u k a b c => fr u k (by omega)) (D3 i i0 i1).2
  · rw [o 0 (by decide) (by decide)] at i1
    have hti := tk_eq i
    unfold RT
    rw [mt_edge, fr (tk i) 5 (by omega)]
    exact D4 i j i0 i1 j0 j1
  · rw [fr 112 _ (by omega), o 0 (by decide) (by decide)]
    rcases D5 u k u0 u1 k0 k1 with h | ⟨h1, h2⟩
    · exact Or.inl h
    · refine Or.inr ⟨h1, ?_⟩
      rw [h2, FO_same (FF_same w w1 (by rw [o 0 (by decide) (by decide)]; exact Int.le_refl _) (fun x _ _ => pF_congr (o 6 (by decide) (by decide)) (o 7 (by decide) (by decide)) x k) (fun x _ _ => by rw [o 3 (by decide) (by decide), o 4 (by decide) (by decide), o 5 (by decide) (by decide)]; exact ⟨rfl, rfl, fun _ _ _ => rfl⟩) _ u (Nat.le_refl _) u0 h1)]
  · rw [o 0 (by decide) (by decide)] at hu
    have := tk_eq (M 0 0)
    rw [fα u (by omega) (by omega)]
    exact D6 u hu
theorem AG_ac {M : Mem} {b k u n v t i : Int} (hb : 5 * t ≤ b ∧ b < 5 * t + 5) (hs : 0 ≤ M 12 b ∧ M 12 b < 12) (hi : i ≠ t) : AG M (actX M b k u n v) i := by
  have o : ∀ x : Int, x ≠ 12 → x ≠ 13 → x ≠ 14 → x ≠ 15 → x ≠ 16 → actX M b k u n v x = M x := fun x a b c d e => ac_o a b c d e
  unfold AG
  rw [o 1 (by decide) (by decide) (by decide) (by decide) (by decide), o 2 (by decide) (by decide) (by decide) (by decide) (by decide), o 3 (by decide) (by decide) (by decide) (by decide) (by decide), o 4 (by decide) (by decide) (by decide) (by decide) (by decide), o 5 (by decide) (by decide) (by decide) (by decide) (by decide), o 6 (by decide) (by decide) (by decide) (by decide) (by decide), o 7 (by decide) (by decide) (by decide) (by decide) (by decide), o 8 (by decide) (by decide) (by decide) (by decide) (by decide), o 9 (by decide) (by decide) (by decide) (by decide) (by decide), o 10 (by decide) (by decide) (by decide) (by decide) (by decide), o 11 (by decide) (by decide) (by decide) (by decide) (by decide)]
  refine ⟨⟨rfl, rfl, rfl, rfl, rfl, rfl⟩, fun _ _ _ => ⟨rfl, rfl⟩, fun _ _ _ => ⟨rfl, rfl, rfl⟩, fun x x0 x1 => ?_, fun x x0 x1 => ?_⟩
  · rw [ac_12, if_neg (by omega)]
  · rw [ac_13, ac_14, ac_15, ac_16, if_neg (by omega), if_neg (by omega), if_neg (by omega), if_neg (by omega)]
    exact ⟨rfl, rfl, rfl, rfl⟩
theorem BodR_push {M : Mem} {b B A a k u n v : Int} {α α1 : Sh} {μ μ1 : Mem} (h : BodR M b B A α μ) (ha : a = A + M 12 b) (hs : 0 ≤ M 12 b ∧ M 12 b < 12) (hBA : B + 1 < A) (gA : AcR α1 μ1 a k u n v) (g1 : μ1 (B + 1) (M 12 b) = a) (g2 : μ1 B 1 = M 12 b + 1) (fr : ∀ x i : Int, ¬ (x = a ∨ (x = B + 1 ∧ i = M 12 b) ∨ (x = B ∧ i = 1)) → μ1 x i = μ x i) (fα : ∀ x : Int, x ≠ a → α1 x = α x) : BodR (actX M b k u n v) b B A α1 μ1 := by
  obtain ⟨⟨h1, h2, h3⟩, h4, h5, h6⟩ := h
  refine ⟨⟨by rw [fα B (by omega)]; exact h1, by rw [fα (B + 1) (by omega)]; exact h2, by rw [fr B 0 (by omega)]; exact h3⟩, by rw [ac_12, if_pos rfl]; exact g2, fun j j0 j1 => ?_, fun j j0 j1 => ?_⟩
  · rw [ac_12, if_pos rfl] at j1
    rw [ac_13, ac_14, ac_15, ac_16]
    by_cases hj : j = M 12 b
    · subst hj
      rw [if_pos rfl, if_pos rfl, if_pos rfl, if_pos rfl, ← ha]
      exact ⟨g1, gA.1, gA.2.1, gA.2.2.1, gA.2.2.2.1, gA.2.2.2.2⟩
    · rw [if_neg (by omega), if_neg (by omega), if_neg (by omega), if_neg (by omega), fr (B + 1) j (by omega), fα (A + j) (by omega), fr (A + j) 0 (by omega), fr (A + j) 1 (by omega), fr (A + j) 2 (by omega), fr (A + j) 3 (by omega)]
      exact h5 j j0 (by omega)
  · rw [ac_12, if_pos rfl] at j0
    rw [fα (A + j) (by omega)]
    exact h6 j (by omega) j1
theorem DesR_ac {M : Mem} {t nm b B A a k u n v T : Int} {α α1 : Sh} {μ μ1 : Mem} (w : WFD M) (w1 : WFD (actX M b k u n v)) (D : DesR M α μ) (t0 : 0 ≤ t) (t1 : t < M 0 0) (hT : T = tk t) (hb : (nm = -1 ∧ b = 5 * t ∧ B = T + 5 ∧ A = T + 100) ∨ ((0 ≤ nm ∧ nm ≤ 9) ∧ 0 ≤ oM M t nm ∧ b = 5 * t + 1 + oM M t nm ∧ B = T + (20 + 2 * nm) ∧ A = T + (200 + 20 * nm))) (hs : 0 ≤ M 12 b ∧ M 12 b < 12) (ha : a = A + M 12 b)
    (gA : AcR α1 μ1 a k u n v) (g1 : μ1 (B + 1) (M 12 b) = a) (g2 : μ1 B 1 = M 12 b + 1) (fr : ∀ x i : Int, ¬ (x = a ∨ (x = B + 1 ∧ i = M 12 b) ∨ (x = B ∧ i = 1)) → μ1 x i = μ x i) (fα : ∀ x : Int, x ≠ a → α1 x = α x) : DesR (actX M b k u n v) α1 μ1 := by
  have h0 := w.n
  have hT1 : T = 1000 * (t + 1) := hT
  have hct := (w.cnt t t0 (by omega)).2.2
  have horg := oM_rng M t nm
  have hbr : 5 * t ≤ b ∧ b < 5 * t + 5 := by rcases hb with ⟨-, hb, -⟩ | ⟨-, ho, hb, -⟩ <;> omega
  have hBr : T + 4 < B ∧ B + 1 < T + 100 ∧ T + 100 ≤ A ∧ A + 12 ≤ T + 1000 ∧ B ≠ T + 6 ∧ B ≠ T + 7 := by rcases hb with ⟨-, -, hb, hc⟩ | ⟨hq, -, -, hb, hc⟩ <;> omega
  obtain ⟨D1, D2, D3, D4, D5, D6⟩ := D
  have o : ∀ x : Int, x ≠ 12 → x ≠ 13 → x ≠ 14 → x ≠ 15 → x ≠ 16 → actX M b k u n v x = M x := fun x a b c d e => ac_o a b c d e
  have o0 := o 0 (by decide) (by decide) (by decide) (by decide) (by decide)
  refine ⟨DeS_c (fun x a b => fα x (by omega)) (fun k hk => fr 110 k (by omega)) D1, by rw [fr 110 1 (by omega), o0]; exact D2, fun i i0 i1 => ?_, fun i j i0 i1 j0 j1 => ?_, fun x q x0 x1 q0 q1 => ?_, fun x hx => ?_⟩
  · rw [o0] at i1
    have hti := tk_eq i
    refine ⟨by rw [fr 111 i (by omega)]; exact (D3 i i0 i1).1, ?_⟩
    by_cases hi : i = t
    · subst hi
      obtain ⟨h1, ⟨c0, c1, c2, c4, c8, c10⟩, h3, h4', h5, h6'⟩ := (D3 i i0 i1).2
      rw [← hT] at h1 c0 c1 c2 c4 c8 c10 h3 h4' h5 h6'
      have eF : ∀ x, oF (actX M b k u n v) i x = oF M i x := fun x => by unfold oF; rw [o 6 (by decide) (by decide) (by decide) (by decide) (by decide), o 7 (by decide) (by decide) (by decide) (by decide) (by decide)]
      have eM : ∀ x, oM (actX M b k u n v) i x = oM M i x := fun x => oM_congr (o 10 (by decide) (by decide) (by decide) (by decide) (by decide)) (o 11 (by decide) (by decide) (by decide) (by decide) (by decide)) i x
      have hB : ∀ b' B' A', 5 * i ≤ b' → b' < 5 * i + 5 → b' ≠ b → (B' + 1 < B ∨ B + 1 < B') → B' + 1 < T + 100 → (A' + 12 ≤ A ∨ A + 12 ≤ A') → T + 100 ≤ A' → BodR M b' B' A' α μ → BodR (actX M b k u n v) b' B' A' α1 μ1 := fun b' B' A' b0 b1 a0 a1 a2 a3 a4 hb' => by
        have hsz := w.size b' (by omega) (by omega)
        refine BodR_c (by rw [ac_12, if_neg a0]) (fun k k0 k1 => by rw [ac_13, ac_14, ac_15, ac_16, if_neg (by omega), if_neg (by omega), if_neg (by omega), if_neg (by omega)]; exact ⟨rfl, rfl, rfl, rfl⟩) (fun x hx => ⟨fα x (by omega), funext fun k => fr x k (by omega)⟩) hsz.2 hsz.1 hb'
      have hP : BodR M b B A α μ → BodR (actX M b k u n v) b B A α1 μ1 := fun h => BodR_push h ha hs (by omega) gA g1 g2 fr fα
      unfold TypR
      rw [← hT]
      refine ⟨TyS_c (fun x a b => fα x (by omega)) (fun k a => fr T k (by omega)) (fr (T + 5) 0 (by omega)) h1, ⟨?_, ?_, ?_, ?_, ?_, ?_⟩, fun k k0 k1 => ?_, fun x n0 n1 => ?_, fun x n0 n1 => ?_, ?_⟩
      · rw [fr T 0 (by omega), o 1 (by decide) (by decide) (by decide) (by decide) (by decide)]; exact c0
      · rw [fr T 1 (by omega), o 2 (by decide) (by decide) (by decide) (by decide) (by decide)]; exact c1
      · rw [fr T 2 (by omega), o 3 (by decide) (by decide) (by decide) (by decide) (by decide)]; exact c2
      · rw [fr T 4 (by omega), o 4 (by decide) (by decide) (by decide) (by decide) (by decide)]; exact c4
      · rw [fr T 8 (by omega), o 6 (by decide) (by decide) (by decide) (by decide) (by decide)]; exact c8
      · rw [fr T 10 (by omega), o 10 (by decide) (by decide) (by decide) (by decide) (by decide)]; exact c10
      · rw [o 4 (by decide) (by decide) (by decide) (by decide) (by decide)] at k1
        rw [fr (T + 1) k (by omega), o 5 (by decide) (by decide) (by decide) (by decide) (by decide)]; exact h3 k k0 k1
      · have e : fK (actX M b k u n v) i x = fK M i x := by unfold fK; rw [eF, o 8 (by decide) (by decide) (by decide) (by decide) (by decide)]
        rw [e, eF, fr (T + 2) x (by omega), fr (T + 3) x (by omega), o 9 (by decide) (by decide) (by decide) (by decide) (by decide)]
        exact h4' x n0 n1
      · rw [eM, fr (T + 4) x (by omega)]
        have hr := oM_rng M i x
        have hr2 := oM_rng M i nm
        refine ⟨fun q => ?_, fun q => ⟨((h5 x n0 n1).2 q).1, ?_⟩⟩
        · obtain ⟨p1, p2, p3, p4⟩ := (h5 x n0 n1).1 q
          have hne : x ≠ nm := fun e => by subst e; rcases hb with ⟨hb, -⟩ | ⟨-, hb, -⟩ <;> omega
          refine ⟨p1, by rw [fα _ (by omega)]; exact p2, by rw [fα _ (by omega)]; exact p3, fun k k0 k1 => ?_⟩
          rw [fα _ (by rcases hb with ⟨-, -, -, hc⟩ | ⟨hq, -, -, -, hc⟩ <;> omega)]
          exact p4 k k0 k1
        · rcases hb with ⟨e1, e2, e3, e4⟩ | ⟨e0, e1, e2, e3, e4⟩
          · exact hB _ _ _ (by omega) (by omega) (by omega) (by omega) (by omega) (by omega) (by omega) ((h5 x n0 n1).2 q).2
          · by_cases hx : x = nm
            · subst hx
              have := ((h5 x n0 n1).2 q).2
              rw [← e2, ← e3, ← e4] at this ⊢
              exact hP this
            · have hne : oM M i x ≠ oM M i nm := fun e => hx (by
                have q1 := (hr.resolve_left (by omega)).2.2
                have q2 := (hr2.resolve_left (by omega)).2.2
                rw [e] at q1
                exact q1.symm.trans q2)
              exact hB _ _ _ (by omega) (by omega) (by omega) (by omega) (by omega) (by omega) (by omega) ((h5 x n0 n1).2 q).2
      · rcases hb with ⟨e1, e2, e3, e4⟩ | ⟨e0, e1, e2, e3, e4⟩
        · rw [← e2, ← e3, ← e4] at h6' ⊢
          exact hP h6'
        · exact hB _ _ _ (by omega) (by omega) (by omega) (by omega) (by omega) (by omega) (by omega) h6'
    · exact TypR_c w i0 (by omega) (AG_ac hbr hs hi) (fun x a b => fα x (by omega)) (fun x k a b c => fr x k (by omega)) (D3 i i0 i1).2
  · rw [o0] at i1
    have hti := tk_eq i
    unfold RT
    rw [ac_edge, fr (tk i) 5 (by omega)]
    exact D4 i j i0 i1 j0 j1
  · rw [fr 112 _ (by omega), o0]
    rcases D5 x q x0 x1 q0 q1 with h | ⟨h1, h2⟩
    · exact Or.inl h
    · refine Or.inr ⟨h1, ?_⟩
      rw [h2, FO_same (FF_same w w1 (by rw [o0]; exact Int.le_refl _) (fun y _ _ => pF_congr (o 6 (by decide) (by decide) (by decide) (by decide) (by decide)) (o 7 (by decide) (by decide) (by decide) (by decide) (by decide)) y q) (fun y _ _ => by rw [o 3 (by decide) (by decide) (by decide) (by decide) (by decide), o 4 (by decide) (by decide) (by decide) (by decide) (by decide), o 5 (by decide) (by decide) (by decide) (by decide) (by decide)]; exact ⟨rfl, rfl, fun _ _ _ => rfl⟩) _ x (Nat.le_refl _) x0 h1)]
  · rw [o0] at hx
    have := tk_eq (M 0 0)
    rw [fα x (by omega)]
    exact D6 x hx
