/-! A NEW WORLD: the relation behind it; what holds where only the count of worlds changes -/
theorem FF_cg {M M1 : Mem} (h3 : M1 3 = M 3) (h4 : M1 4 = M 4) (h5 : M1 5 = M 5) (h6 : M1 6 = M 6) (h7 : M1 7 = M 7) (nm t : Int) : FF M1 nm t = FF M nm t := by
  have key : ∀ (n : Nat) (t : Int), ffd M1 nm n t = ffd M nm n t := by
    intro n
    induction n with
    | zero => intro t; rfl
    | succ n ih =>
      intro t
      have hg : ffd M1 nm n = ffd M nm n := funext ih
      have hc : ∀ j, FC (ffd M nm n) M1 t j = FC (ffd M nm n) M t j := by
        intro j
        induction j with
        | zero => unfold FC; rw [h3]
        | succ j ihj => unfold FC; rw [ihj, h4, h5]
      unfold ffd
      rw [hg, hc, h4, pF_congr h6 h7]
  exact key 41 t
/-- the description is the same, the count of worlds may differ -/
def S16 (M M1 : Mem) : Prop := ∀ k : Int, 0 ≤ k → k ≤ 16 → M1 k = M k
theorem SW.s16 {M M1 : Mem} (h : SW M M1) : S16 M M1 := fun k a b => h.1 k a (by omega)
theorem SD.s16 {M M1 : Mem} (h : SD M M1) : S16 M M1 := fun k a b => h k a (by omega)
theorem S16.trans {M M1 M2 : Mem} (h : S16 M M1) (h1 : S16 M1 M2) : S16 M M2 := fun k a b => (h1 k a b).trans (h k a b)
theorem S16_edge {M M1 : Mem} (h : S16 M M1) : edge M1 = edge M := RT_same (h 0 (by decide) (by decide)) (h 3 (by decide) (by decide)) (h 4 (by decide) (by decide)) (h 5 (by decide) (by decide))
theorem S16_WFD {M M1 : Mem} (h : S16 M M1) (h17 : 0 ≤ M1 17 0 ∧ M1 17 0 ≤ 12) (w : WFD M) : WFD M1 := by
  unfold WFD RT ACT at *
  rw [S16_edge h, h 0 (by decide) (by decide), h 1 (by decide) (by decide), h 3 (by decide) (by decide), h 4 (by decide) (by decide), h 5 (by decide) (by decide), h 6 (by decide) (by decide), h 7 (by decide) (by decide), h 10 (by decide) (by decide), h 11 (by decide) (by decide), h 12 (by decide) (by decide), h 13 (by decide) (by decide), h 14 (by decide) (by decide), h 15 (by decide) (by decide), h 16 (by decide) (by decide)]
  obtain ⟨a1, a2, a3, a4, a5, a6, a7, a8, a9, a10, a11, a12, a13, -, a15⟩ := w
  exact ⟨a1, a2, a3, a4, a5, a6, a7, a8, a9, a10, a11, a12, a13, h17, a15⟩
theorem AG_16 {M M1 : Mem} {i : Int} (h : S16 M M1) : AG M M1 i := by
  unfold AG
  rw [h 1 (by decide) (by decide), h 2 (by decide) (by decide), h 3 (by decide) (by decide), h 4 (by decide) (by decide), h 5 (by decide) (by decide), h 6 (by decide) (by decide), h 7 (by decide) (by decide), h 8 (by decide) (by decide), h 9 (by decide) (by decide), h 10 (by decide) (by decide), h 11 (by decide) (by decide), h 12 (by decide) (by decide), h 13 (by decide) (by decide), h 14 (by decide) (by decide), h 15 (by decide) (by decide), h 16 (by decide) (by decide)]
  exact AG.rf
theorem DesR_16 {M M1 : Mem} {α α1 : Sh} {μ μ1 : Mem} (w : WFD M) (s : S16 M M1) (f : ∀ t, (109 < t ∧ t < 115) ∨ 1000 ≤ t → α1 t = α t ∧ μ1 t = μ t) (h : DesR M α μ) : DesR M1 α1 μ1 := by
  obtain ⟨h1, h2, h3, h4, h5, h6⟩ := h
  have e0 := s 0 (by decide) (by decide)
  have hn := w.n
  refine ⟨DeS_c (fun t a b => (f t (by omega)).1) (fun k _ => by rw [(f 110 (by omega)).2]) h1, by rw [e0, (f 110 (by omega)).2]; exact h2, fun i i0 i1 => ?_, fun i j i0 i1 j0 j1 => ?_, fun t nm t0 t1 n0 n1 => ?_, fun t ht => ?_⟩
  · rw [e0] at i1
    have := tk_eq i
    rw [(f 111 (by omega)).2]
    exact ⟨(h3 i i0 i1).1, TypR_c w i0 (by omega) (AG_16 s) (fun t a b => (f t (by omega)).1) (fun t k a b _ => by rw [(f t (by omega)).2]) (h3 i i0 i1).2⟩
  · rw [e0] at i1
    have := tk_eq i
    unfold RT
    rw [S16_edge s, (f (tk i) (by omega)).2]
    exact h4 i j i0 i1 j0 j1
  · rw [(f 112 (by omega)).2, e0]
    unfold FO
    rw [FF_cg (s 3 (by decide) (by decide)) (s 4 (by decide) (by decide)) (s 5 (by decide) (by decide)) (s 6 (by decide) (by decide)) (s 7 (by decide) (by decide))]
    exact h5 t nm t0 t1 n0 n1
  · rw [e0] at ht
    have := tk_eq (M 0 0)
    rw [(f t (by omega)).1]
    exact h6 t ht
theorem nw_k {M : Mem} {x k : Int} (h : k ≤ 16) : newW M x k = M k := by
  funext j
  have h1 : k ≠ 17 := by omega
  have h2 : k ≠ 28 := by omega
  have h3 : k ≠ 29 := by omega
  have h4 : k ≠ 30 := by omega
  have h5 : k ≠ 32 := by omega
  have h6 : k ≠ 34 := by omega
  have h7 : k ≠ 35 := by omega
  have h8 : k ≠ 36 := by omega
  simp [newW, fillM, mu, h1, h2, h3, h4, h5, h6, h7, h8]
theorem nw_17 {M : Mem} {x : Int} : newW M x 17 0 = x + 1 := mu_s _ _ _ _
theorem nw_28 {M : Mem} {x j : Int} : newW M x 28 j = if 40 * x ≤ j ∧ j < 40 * x + 40 then 0 else M 28 j := by simp [newW, fillM, mu]
theorem nw_29 {M : Mem} {x j : Int} : newW M x 29 j = if 240 * x ≤ j ∧ j < 240 * x + 240 then 0 else M 29 j := by simp [newW, fillM, mu]
theorem nw_30 {M : Mem} {x j : Int} : newW M x 30 j = if j = x then 0 else M 30 j := by simp [newW, fillM, mu]
theorem nw_31 {M : Mem} {x : Int} : newW M x 31 = M 31 := by funext j; simp [newW, fillM, mu]
theorem nw_32 {M : Mem} {x j : Int} : newW M x 32 j = if j = x then 0 else M 32 j := by simp [newW, fillM, mu]
theorem nw_33 {M : Mem} {x : Int} : newW M x 33 = M 33 := by funext j; simp [newW, fillM, mu]
theorem nw_34 {M : Mem} {x j : Int} : newW M x 34 j = if j = x then -6 else M 34 j := by simp [newW, fillM, mu]
theorem nw_35 {M : Mem} {x j : Int} : newW M x 35 j = if j = x then -6 else M 35 j := by simp [newW, fillM, mu]
theorem nw_36 {M : Mem} {x j : Int} : newW M x 36 j = if 4 * x ≤ j ∧ j < 4 * x + 4 then 0 else M 36 j := by simp [newW, fillM, mu]
theorem WosR_nw {M : Mem} {x W : Int} {α α1 : Sh} {μ μ1 : Mem} (wd : WFD M) (ww : WFW M) (h : WosR M α μ) (hx : x = M 17 0) (hx2 : x < 12) (eW : W = 200 + 10 * x) (hS : WoS W α1 μ1) (z1 : ∀ i : Int, 0 ≤ i → i < 40 → μ1 (W + 1) i = 0) (z2 : ∀ i : Int, 0 ≤ i → i < 400 → μ1 (W + 2) i = 0) (z3 : μ1 W 3 = 0 ∧ μ1 W 5 = 0 ∧ μ1 W 6 = -6 ∧ μ1 W 7 = -6) (z4 : ∀ i : Int, 0 ≤ i → i < 4 → μ1 (W + 5) i = 0)
    (f : ∀ t, 102 ≤ t → t < 1000 → (t < W ∨ W + 6 ≤ t) → α1 t = α t ∧ μ1 t = μ t) (f1 : μ1 101 x = W) (f2 : ∀ i, i ≠ x → μ1 101 i = μ 101 i) : WosR (newW M x) α1 μ1 := by
  obtain ⟨h1, h2, hw, g1, g2, g3, g4, g5⟩ := h
  have hx0 : 0 ≤ x := by have := wd.w; omega
  have hn := wd.n
  refine ⟨WoS_c (fun t a b => f t (by omega) (by omega) (by omega)) h1, fun t a b => by rw [(f t (by omega) (by omega) (by omega)).1]; exact h2 t a b, if hw ≤ x then x + 1 else hw, by rw [nw_17]; split <;> omega, by split <;> omega, fun w w0 w1 => ?_, fun w w0 w1 => ?_, fun w w0 w1 => ?_⟩
  · by_cases hwx : w = x
    · subst hwx; rw [f1, ← eW]; exact ⟨rfl, hS⟩
    · have hwl : w < hw := by split at w1 <;> omega
      rw [f2 w hwx]
      exact ⟨(g3 w w0 hwl).1, WoS_c (fun t a b => f t (by omega) (by omega) (by omega)) (g3 w w0 hwl).2⟩
  · have hwl : hw ≤ w ∧ w ≠ x := by split at w0 <;> omega
    rw [f2 w hwl.2]
    exact ⟨(g4 w hwl.1 w1).1, fun t a b => by rw [(f t (by omega) (by omega) (by omega)).1]; exact (g4 w hwl.1 w1).2 t a b⟩
  · rw [nw_17] at w1
    by_cases hwx : w = x
    · subst hwx
      rw [← eW]
      refine ⟨⟨fun t t0 t1 => ?_, fun t nm t0 t1 n0 n1 => ?_, ⟨?_, fun i i0 i1 => ?_⟩, ?_, fun i i0 i1 => ?_⟩, ?_, ?_, ?_, ?_, Or.inl ?_, ?_⟩
      · rw [z1 t t0 t1, nw_28, if_pos (by omega)]
      · have e0 : newW M w 0 0 = M 0 0 := by rw [nw_k (by decide)]
        rw [e0] at t1
        have hr := oF_rng M t nm
        have hc := (wd.cnt t t0 (by omega)).2.1
        have eo : oF (newW M w) t nm = oF M t nm := by unfold oF; rw [nw_k (by decide), nw_k (by decide)]
        rw [eo, z2 _ (by omega) (by omega), nw_29]
        split
        · rw [if_pos (by omega)]
        · rfl
      · rw [z3.1, nw_30, if_pos rfl]
      · rw [nw_30, if_pos rfl] at i1; omega
      · rw [z3.2.1, nw_32, if_pos rfl]
      · rw [nw_32, if_pos rfl] at i1; omega
      · rw [z3.2.2.1, nw_34, if_pos rfl]
      · rw [z3.2.2.2, nw_35, if_pos rfl]
      · rw [z4 0 (by decide) (by decide), nw_36, if_pos (by omega)]
      · rw [z4 1 (by decide) (by decide), nw_36, if_pos (by omega)]
      · rw [z4 2 (by decide) (by decide), nw_36, if_pos (by omega)]
      · rw [z4 3 (by decide) (by decide), nw_36, if_pos (by omega)]
    · have hm : ∀ t, 200 + 10 * w ≤ t → t < 200 + 10 * w + 10 → μ1 t = μ t := fun t a b => (f t (by omega) (by omega) (by omega)).2
      have hg := g5 w w0 (by omega)
      refine ⟨WrC_c hm (by rw [nw_k (by decide)]) (fun t nm _ _ => by unfold oF; rw [nw_k (by decide), nw_k (by decide)]) (fun t a b => by rw [nw_28, if_neg (by omega)]) (fun k a b => by rw [nw_29, if_neg (by omega)]) (by rw [nw_30, if_neg hwx]) (fun i a b => by rw [nw_31]) (by rw [nw_32, if_neg hwx]) (fun i a b => by rw [nw_33]) wd (ww w w0 (by omega)).2.2 hg.1, WrA_c hm (by rw [nw_34, if_neg hwx]) (by rw [nw_35, if_neg hwx]) (fun i a b => by rw [nw_36, if_neg (by omega)]) hg.2⟩
