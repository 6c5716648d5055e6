/-! THE WORLDS in the class and in the reference -/
/-- how far the world w of the reference is, in the class's world W -/
def WrC (M : Mem) (w W : Int) (μ : Mem) : Prop :=
  (∀ t : Int, 0 ≤ t → t < 40 → μ (W + 1) t = M 28 (40 * w + t)) ∧
  (∀ t nm : Int, 0 ≤ t → t < M 0 0 → 0 ≤ nm → nm ≤ 9 → μ (W + 2) (10 * t + nm) = if 0 ≤ oF M t nm then M 29 (240 * w + (6 * t + oF M t nm)) else 0) ∧
  (μ W 3 = M 30 w ∧ ∀ i : Int, 0 ≤ i → i < M 30 w → i < 300 → μ (W + 3) i = M 31 (300 * w + i)) ∧
  μ W 5 = M 32 w ∧ ∀ i : Int, 0 ≤ i → i < M 32 w → μ (W + 4) i = M 33 (40 * w + i)
/-- how its latest touch went (of the FAILURES: where 41 arose the reference holds 40) -/
def WrA (M : Mem) (w W : Int) (μ : Mem) : Prop := μ W 6 = M 34 w ∧ μ W 7 = M 35 w ∧ μ (W + 5) 0 = M 36 (4 * w) ∧ μ (W + 5) 1 = M 36 (4 * w + 1) ∧ (μ (W + 5) 2 = M 36 (4 * w + 2) ∨ (μ (W + 5) 2 = 41 ∧ M 36 (4 * w + 2) = 40)) ∧ μ (W + 5) 3 = M 36 (4 * w + 3)
def WosR (M : Mem) (α : Sh) (μ : Mem) : Prop := WoS 320 α μ ∧ (∀ t : Int, 150 ≤ t → t < 200 → (α t).1 = 0) ∧ ∃ hw : Int, M 17 0 ≤ hw ∧ hw ≤ 12 ∧ (∀ w : Int, 0 ≤ w → w < hw → μ 101 w = 200 + 10 * w ∧ WoS (200 + 10 * w) α μ) ∧ (∀ w : Int, hw ≤ w → w < 12 → μ 101 w = -1 ∧ ∀ t : Int, 200 + 10 * w ≤ t → t < 210 + 10 * w → (α t).1 = 0) ∧ ∀ w : Int, 0 ≤ w → w < M 17 0 → WrC M w (200 + 10 * w) μ ∧ WrA M w (200 + 10 * w) μ
theorem WosR.at {M : Mem} {α : Sh} {μ : Mem} {w : Int} (h : WosR M α μ) (w0 : 0 ≤ w) (w1 : w < M 17 0) : μ 101 w = 200 + 10 * w ∧ WoS (200 + 10 * w) α μ ∧ WrC M w (200 + 10 * w) μ ∧ WrA M w (200 + 10 * w) μ := by
  obtain ⟨-, -, hw, h1, h2, h3, -, h5⟩ := h
  exact ⟨(h3 w w0 (by omega)).1, (h3 w w0 (by omega)).2, (h5 w w0 w1).1, (h5 w w0 w1).2⟩
theorem WrC_c {M M1 : Mem} {w W : Int} {μ μ1 : Mem} (hμ : ∀ t, W ≤ t → t < W + 10 → μ1 t = μ t) (h0 : M1 0 0 = M 0 0) (hF : ∀ t nm, 0 ≤ t → t < M 0 0 → oF M1 t nm = oF M t nm) (h28 : ∀ t : Int, 0 ≤ t → t < 40 → M1 28 (40 * w + t) = M 28 (40 * w + t)) (h29 : ∀ k : Int, 0 ≤ k → k < 240 → M1 29 (240 * w + k) = M 29 (240 * w + k)) (h30 : M1 30 w = M 30 w) (h31 : ∀ i : Int, 0 ≤ i → i < 300 → M1 31 (300 * w + i) = M 31 (300 * w + i)) (h32 : M1 32 w = M 32 w) (h33 : ∀ i : Int, 0 ≤ i → i < 40 → M1 33 (40 * w + i) = M 33 (40 * w + i)) (wd : WFD M) (wr : M 32 w ≤ 40) (h : WrC M w W μ) : WrC M1 w W μ1 := by
  obtain ⟨a, b, ⟨c, d⟩, e, f⟩ := h
  have hn := wd.n
  refine ⟨fun t t0 t1 => ?_, fun t nm t0 t1 n0 n1 => ?_, ⟨?_, fun i i0 i1 i2 => ?_⟩, ?_, fun i i0 i1 => ?_⟩
  · rw [hμ _ (by omega) (by omega), h28 t t0 t1]; exact a t t0 t1
  · rw [h0] at t1
    have hr := oF_rng M t nm
    have hc := (wd.cnt t t0 (by omega)).2.1
    rw [hμ _ (by omega) (by omega), hF t nm t0 t1, b t nm t0 t1 n0 n1]
    by_cases q : 0 ≤ oF M t nm
    · rw [if_pos q, if_pos q, h29 _ (by omega) (by omega)]
    · rw [if_neg q, if_neg q]
  · rw [hμ _ (by omega) (by omega), h30]; exact c
  · rw [h30] at i1; rw [hμ _ (by omega) (by omega), h31 i i0 i2]; exact d i i0 i1 i2
  · rw [hμ _ (by omega) (by omega), h32]; exact e
  · rw [h32] at i1; rw [hμ _ (by omega) (by omega), h33 i i0 (by omega)]; exact f i i0 i1
theorem WrA_c {M M1 : Mem} {w W : Int} {μ μ1 : Mem} (hμ : ∀ t, W ≤ t → t < W + 10 → μ1 t = μ t) (h34 : M1 34 w = M 34 w) (h35 : M1 35 w = M 35 w) (h36 : ∀ i : Int, 0 ≤ i → i < 4 → M1 36 (4 * w + i) = M 36 (4 * w + i)) (h : WrA M w W μ) : WrA M1 w W μ1 := by
  unfold WrA at h ⊢
  have e0 := h36 0 (by decide) (by decide)
  rw [Int.add_zero] at e0
  rw [hμ W (by omega) (by omega), hμ (W + 5) (by omega) (by omega), h34, h35, e0, h36 1 (by decide) (by decide), h36 2 (by decide) (by decide), h36 3 (by decide) (by decide)]
  exact h
/-- the worlds' part of the reference is the same -/
def SW (M M1 : Mem) : Prop := (∀ k : Int, 0 ≤ k → k ≤ 17 → M1 k = M k) ∧ ∀ k : Int, 28 ≤ k → k ≤ 36 → M1 k = M k
theorem WosR_SW {M M1 : Mem} {α α1 : Sh} {μ μ1 : Mem} (wd : WFD M) (ww : WFW M) (s : SW M M1) (hα : ∀ t, 100 ≤ t → t < 1000 → α1 t = α t) (hμ : ∀ t, 100 ≤ t → t < 1000 → t ≠ 110 → t ≠ 111 → t ≠ 112 → t ≠ 113 → t ≠ 114 → μ1 t = μ t) (h : WosR M α μ) : WosR M1 α1 μ1 := by
  obtain ⟨h1, h2, hw, g1, g2, g3, g4, g5⟩ := h
  have e17 := s.1 17 (by decide) (by decide)
  have hww := wd.w
  refine ⟨WoS_c (fun t a b => ⟨hα t (by omega) (by omega), hμ t (by omega) (by omega) (by omega) (by omega) (by omega) (by omega) (by omega)⟩) h1, fun t a b => by rw [hα t (by omega) (by omega)]; exact h2 t a b, hw, by rw [e17]; exact g1, g2, fun w w0 w1 => ?_, fun w w0 w1 => ⟨?_, fun t t0 t1 => ?_⟩, fun w w0 w1 => ?_⟩
  · rw [hμ 101 (by decide) (by decide) (by decide) (by decide) (by decide) (by decide) (by decide)]
    exact ⟨(g3 w w0 w1).1, WoS_c (fun t a b => ⟨hα t (by omega) (by omega), hμ t (by omega) (by omega) (by omega) (by omega) (by omega) (by omega) (by omega)⟩) (g3 w w0 w1).2⟩
  · rw [hμ 101 (by decide) (by decide) (by decide) (by decide) (by decide) (by decide) (by decide)]; exact (g4 w w0 w1).1
  · rw [hα t (by omega) (by omega)]; exact (g4 w w0 w1).2 t t0 t1
  · rw [e17] at w1
    have hm : ∀ t, 200 + 10 * w ≤ t → t < 200 + 10 * w + 10 → μ1 t = μ t := fun t a b => hμ t (by omega) (by omega) (by omega) (by omega) (by omega) (by omega) (by omega)
    refine ⟨WrC_c hm (by rw [s.1 0 (by decide) (by decide)]) (fun t nm _ _ => by unfold oF; rw [s.1 6 (by decide) (by decide), s.1 7 (by decide) (by decide)]) (fun _ _ _ => by rw [s.2 28 (by decide) (by decide)]) (fun _ _ _ => by rw [s.2 29 (by decide) (by decide)]) (by rw [s.2 30 (by decide) (by decide)]) (fun _ _ _ => by rw [s.2 31 (by decide) (by decide)]) (by rw [s.2 32 (by decide) (by decide)]) (fun _ _ _ => by rw [s.2 33 (by decide) (by decide)]) wd (ww w w0 (by omega)).2.2 (g5 w w0 w1).1, WrA_c hm (by rw [s.2 34 (by decide) (by decide)]) (by rw [s.2 35 (by decide) (by decide)]) (fun _ _ _ => by rw [s.2 36 (by decide) (by decide)]) (g5 w w0 w1).2⟩
/-- a description changed: there are no worlds -/
theorem WosR_MF {M M1 : Mem} {α α1 : Sh} {μ μ1 : Mem} (h0 : M 17 0 = 0) (h1 : M1 17 0 = 0) (f : MF α μ α1 μ1) (h : WosR M α μ) : WosR M1 α1 μ1 := by
  obtain ⟨a1, a2, hw, g1, g2, g3, g4, g5⟩ := h
  refine ⟨WoS_c (fun t a b => ⟨f.1 t (by omega), f.2 t (by omega) (by omega) (by omega) (by omega)⟩) a1, fun t a b => by rw [f.1 t (by omega)]; exact a2 t a b, hw, by omega, g2, fun w w0 w1 => ?_, fun w w0 w1 => ⟨?_, fun t t0 t1 => ?_⟩, fun w w0 w1 => by omega⟩
  · rw [f.2 101 (by decide) (by decide) (by decide) (by decide)]
    exact ⟨(g3 w w0 w1).1, WoS_c (fun t a b => ⟨f.1 t (by omega), f.2 t (by omega) (by omega) (by omega) (by omega)⟩) (g3 w w0 w1).2⟩
  · rw [f.2 101 (by decide) (by decide) (by decide) (by decide)]; exact (g4 w w0 w1).1
  · rw [f.1 t (by omega)]; exact (g4 w w0 w1).2 t t0 t1
