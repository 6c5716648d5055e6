/-! THE CLASS AND THE REFERENCE: what the cells of the class hold of the description (type i: T = tk i) -/
abbrev tk (i : Int) : Int := 1000 * (i + 1)
/-- the body b of the reference, at the cell B, its actions from A on -/
def BodR (M : Mem) (b B A : Int) (α : Sh) (μ : Mem) : Prop := BoS B α μ ∧ μ B 1 = M 12 b ∧
  (∀ k : Int, 0 ≤ k → k < M 12 b → μ (B + 1) k = A + k ∧ α (A + k) = (1, 0) ∧ μ (A + k) 0 = M 13 (12 * b + k) ∧ μ (A + k) 1 = M 14 (12 * b + k) ∧ μ (A + k) 2 = M 15 (12 * b + k) ∧ μ (A + k) 3 = M 16 (12 * b + k)) ∧
  (∀ k : Int, M 12 b ≤ k → k < 12 → (α (A + k)).1 = 0)
/-- the kind of a type's own field by a name: 0 none, 1 plain, 2 constant -/
def fK (M : Mem) (i nm : Int) : Int := if oF M i nm < 0 then 0 else if M 8 (6 * i + oF M i nm) = 1 then 2 else 1
def TypR (M : Mem) (i : Int) (α : Sh) (μ : Mem) : Prop := TyS (tk i) α μ ∧
  (μ (tk i) 0 = M 1 i ∧ μ (tk i) 1 = M 2 i ∧ μ (tk i) 2 = (if M 3 i < 0 then -6 else M 3 i) ∧ μ (tk i) 4 = M 4 i ∧ μ (tk i) 8 = M 6 i ∧ μ (tk i) 10 = M 10 i) ∧
  (∀ k : Int, 0 ≤ k → k < M 4 i → μ (tk i + 1) k = M 5 (4 * i + k)) ∧
  (∀ nm : Int, 0 ≤ nm → nm ≤ 9 → μ (tk i + 2) nm = fK M i nm ∧ (0 ≤ oF M i nm → μ (tk i + 3) nm = M 9 (6 * i + oF M i nm))) ∧
  (∀ nm : Int, 0 ≤ nm → nm ≤ 9 → (oM M i nm < 0 → μ (tk i + 4) nm = -1 ∧ (α (tk i + (20 + 2 * nm))).1 = 0 ∧ (α (tk i + (21 + 2 * nm))).1 = 0 ∧ ∀ k : Int, 0 ≤ k → k < 12 → (α (tk i + (200 + 20 * nm) + k)).1 = 0) ∧ (0 ≤ oM M i nm → μ (tk i + 4) nm = tk i + (20 + 2 * nm) ∧ BodR M (5 * i + 1 + oM M i nm) (tk i + (20 + 2 * nm)) (tk i + (200 + 20 * nm)) α μ)) ∧
  BodR M (5 * i) (tk i + 5) (tk i + 100) α μ
def LdR (M : Mem) (μ : Mem) : Prop := ∀ i j : Int, 0 ≤ i → i < M 0 0 → 0 ≤ j → j < 40 → (bt (μ (tk i) 5) j.toNat = true ↔ RT M i j)
/-- the type that has the field that is found; -6: none -/
def FO (M : Mem) (t nm : Int) : Int := if FF M nm t < 0 then -6 else FF M nm t / 6
def MeR (M : Mem) (μ : Mem) : Prop := ∀ t nm : Int, 0 ≤ t → t < 40 → 0 ≤ nm → nm ≤ 9 → μ 112 (10 * t + nm) = -1 ∨ (t < M 0 0 ∧ μ 112 (10 * t + nm) = FO M t nm)
def DesR (M : Mem) (α : Sh) (μ : Mem) : Prop := DeS α μ ∧ μ 110 1 = M 0 0 ∧ (∀ i : Int, 0 ≤ i → i < M 0 0 → μ 111 i = tk i ∧ TypR M i α μ) ∧ LdR M μ ∧ MeR M μ ∧ ∀ t : Int, tk (M 0 0) ≤ t → (α t).1 = 0
/-- the class's notes: what the description's readers may write -/
def scr (t i : Int) : Prop := t = 112 ∨ t = 113 ∨ t = 114 ∨ (t = 110 ∧ (i = 4 ∨ i = 5)) ∨ (1000 ≤ t ∧ (t % 1000 = 7 ∨ (t % 1000 = 0 ∧ i = 13)))
def SF (μ μ1 : Mem) : Prop := ∀ t i : Int, ¬ scr t i → μ1 t i = μ t i
theorem SF.rf {μ : Mem} : SF μ μ := fun _ _ _ => rfl
theorem SF.trans {μ μ1 μ2 : Mem} (h : SF μ μ1) (h1 : SF μ1 μ2) : SF μ μ2 := fun t i hs => (h1 t i hs).trans (h t i hs)
theorem SF.row {μ μ1 : Mem} (h : SF μ μ1) {t : Int} (ht : ∀ i, ¬ scr t i) : μ1 t = μ t := funext fun i => h t i (ht i)
/-- all but the memo of fields is the same -/
def SFm (μ μ1 : Mem) : Prop := ∀ t i : Int, t ≠ 112 → μ1 t i = μ t i
theorem SFm.rf {μ : Mem} : SFm μ μ := fun _ _ _ => rfl
theorem SFm.trans {μ μ1 μ2 : Mem} (h : SFm μ μ1) (h1 : SFm μ1 μ2) : SFm μ μ2 := fun t i hs => (h1 t i hs).trans (h t i hs)
theorem SFm.sf {μ μ1 : Mem} (h : SFm μ μ1) : SF μ μ1 := fun t i hs => h t i (fun q => hs (Or.inl q))
theorem SFm_put {μ : Mem} {i x : Int} : SFm μ (mu μ 112 i x) := fun u k hs => mu_t _ _ _ _ hs
theorem BodR_c {M M1 : Mem} {b B A : Int} {α α1 : Sh} {μ μ1 : Mem} (hs : M1 12 b = M 12 b) (hM : ∀ k : Int, 0 ≤ k → k < M 12 b → M1 13 (12 * b + k) = M 13 (12 * b + k) ∧ M1 14 (12 * b + k) = M 14 (12 * b + k) ∧ M1 15 (12 * b + k) = M 15 (12 * b + k) ∧ M1 16 (12 * b + k) = M 16 (12 * b + k)) (hB : ∀ t, t = B ∨ t = B + 1 ∨ (A ≤ t ∧ t < A + 12) → α1 t = α t ∧ μ1 t = μ t) (hn : M 12 b ≤ 12) (h0 : 0 ≤ M 12 b) (h : BodR M b B A α μ) : BodR M1 b B A α1 μ1 := by
  obtain ⟨⟨h1, h2, h3⟩, h4, h5, h6⟩ := h
  have e0 := hB B (Or.inl rfl)
  have e1 := hB (B + 1) (Or.inr (Or.inl rfl))
  refine ⟨⟨by rw [e0.1]; exact h1, by rw [e1.1]; exact h2, by rw [e0.2]; exact h3⟩, by rw [e0.2, hs]; exact h4, fun k k0 k1 => ?_, fun k k0 k1 => ?_⟩
  · rw [hs] at k1
    have e2 := hB (A + k) (Or.inr (Or.inr ⟨by omega, by omega⟩))
    have m := hM k k0 k1
    rw [e1.2, e2.1, e2.2, m.1, m.2.1, m.2.2.1, m.2.2.2]
    exact h5 k k0 k1
  · rw [hs] at k0
    rw [(hB (A + k) (Or.inr (Or.inr ⟨by omega, by omega⟩))).1]
    exact h6 k k0 k1
/-- two memories of the reference that say the same of the type i -/
def AG (M M1 : Mem) (i : Int) : Prop := (M1 1 i = M 1 i ∧ M1 2 i = M 2 i ∧ M1 3 i = M 3 i ∧ M1 4 i = M 4 i ∧ M1 6 i = M 6 i ∧ M1 10 i = M 10 i) ∧ (∀ k : Int, 4 * i ≤ k → k < 4 * i + 4 → M1 5 k = M 5 k ∧ M1 11 k = M 11 k) ∧ (∀ k : Int, 6 * i ≤ k → k < 6 * i + 6 → M1 7 k = M 7 k ∧ M1 8 k = M 8 k ∧ M1 9 k = M 9 k) ∧ (∀ b : Int, 5 * i ≤ b → b < 5 * i + 5 → M1 12 b = M 12 b) ∧ (∀ k : Int, 60 * i ≤ k → k < 60 * i + 60 → M1 13 k = M 13 k ∧ M1 14 k = M 14 k ∧ M1 15 k = M 15 k ∧ M1 16 k = M 16 k)
theorem AG.rf {M : Mem} {i : Int} : AG M M i := ⟨⟨rfl, rfl, rfl, rfl, rfl, rfl⟩, fun _ _ _ => ⟨rfl, rfl⟩, fun _ _ _ => ⟨rfl, rfl, rfl⟩, fun _ _ _ => rfl, fun _ _ _ => ⟨rfl, rfl, rfl, rfl⟩⟩
theorem AG_SD {M M1 : Mem} {i : Int} (h : SD M M1) : AG M M1 i := by
  unfold AG
  rw [h 1 (by decide) (by decide), h 2 (by decide) (by decide), h 3 (by decide) (by decide), h 4 (by decide) (by decide), h 5 (by decide) (by decide), h 6 (by decide) (by decide), h 7 (by decide) (by decide), h 8 (by decide) (by decide), h 9 (by decide) (by decide), h 10 (by decide) (by decide), h 11 (by decide) (by decide), h 12 (by decide) (by decide), h 13 (by decide) (by decide), h 14 (by decide) (by decide), h 15 (by decide) (by decide), h 16 (by decide) (by decide)]
  exact AG.rf
theorem lastAt_congr {f g : Int → Int} {b nm : Int} : ∀ k : Nat, (∀ j : Int, 0 ≤ j → j < k → g (b + j) = f (b + j)) → lastAt g b nm k = lastAt f b nm k := by
  intro k
  induction k with
  | zero => intro _; rfl
  | succ k ih =>
    intro h
    unfold lastAt
    rw [ih (fun j h0 h1 => h j h0 (by omega)), h k (by omega) (by omega)]
theorem AG_oF {M M1 : Mem} {i nm : Int} (w : WFD M) (i0 : 0 ≤ i) (i1 : i < 40) (h : AG M M1 i) : oF M1 i nm = oF M i nm := by
  have hc := (w.cnt i i0 i1).2.1
  unfold oF
  rw [h.1.2.2.2.2.1]
  exact lastAt_congr _ fun j j0 j1 => (h.2.2.1 _ (by omega) (by omega)).1
theorem AG_oM {M M1 : Mem} {i nm : Int} (w : WFD M) (i0 : 0 ≤ i) (i1 : i < 40) (h : AG M M1 i) : oM M1 i nm = oM M i nm := by
  have hc := (w.cnt i i0 i1).2.2
  unfold oM
  rw [h.1.2.2.2.2.2]
  exact lastAt_congr _ fun j j0 j1 => (h.2.1 _ (by omega) (by omega)).2
theorem TyS_c {b : Int} {α α1 : Sh} {μ μ1 : Mem} (hα : ∀ t, b ≤ t → t < b + 8 → α1 t = α t) (h0 : ∀ k : Int, (k = 3 ∨ k = 6 ∨ k = 7 ∨ k = 9 ∨ k = 11 ∨ k = 12) → μ1 b k = μ b k) (h5 : μ1 (b + 5) 0 = μ (b + 5) 0) (N : TyS b α μ) : TyS b α1 μ1 := by
  unfold TyS at N ⊢
  rw [hα b (by omega) (by omega), hα (b + 1) (by omega) (by omega), hα (b + 2) (by omega) (by omega), hα (b + 3) (by omega) (by omega), hα (b + 4) (by omega) (by omega), hα (b + 5) (by omega) (by omega), hα (b + 6) (by omega) (by omega), hα (b + 7) (by omega) (by omega), h0 3 (by decide), h0 6 (by decide), h0 7 (by decide), h0 9 (by decide), h0 11 (by decide), h0 12 (by decide), h5]
  exact N
/-- a type's cells by what they hold: all the same but the notes -/
theorem TypR_c {M M1 : Mem} {i : Int} {α α1 : Sh} {μ μ1 : Mem} (w : WFD M) (i0 : 0 ≤ i) (i1 : i < 40) (hM : AG M M1 i) (hα : ∀ t, tk i ≤ t → t < tk i + 1000 → α1 t = α t) (hμ : ∀ t k, tk i ≤ t → t < tk i + 1000 → ¬ (t = tk i + 7 ∨ (t = tk i ∧ (k = 13 ∨ k = 5))) → μ1 t k = μ t k) (h : TypR M i α μ) : TypR M1 i α1 μ1 := by
  obtain ⟨h1, ⟨g0, g1, g2, g4, g8, g10⟩, h3, h4, h5, h6⟩ := h
  obtain ⟨⟨m1, m2, m3, m4, m6, m10⟩, mf, mn, mb, ma⟩ := id hM
  have hr : ∀ t, tk i < t → t < tk i + 1000 → t ≠ tk i + 7 → μ1 t = μ t := fun t a b c => funext fun k => hμ t k (by omega) b (by omega)
  have hB : ∀ b B A, 5 * i ≤ b → b < 5 * i + 5 → tk i < B → B + 1 < tk i + 1000 → tk i < A → A + 12 ≤ tk i + 1000 → (B ≠ tk i + 7 ∧ B ≠ tk i + 6) → tk i + 7 < A → BodR M b B A α μ → BodR M1 b B A α1 μ1 := fun b B A b0 b1 a1 a2 a3 a4 a5 a6 hb => by
    have hsz := w.size b (by omega) (by omega)
    refine BodR_c (mb b b0 b1) (fun k k0 k1 => ma _ (by omega) (by omega)) (fun t ht => ⟨hα t (by omega) (by omega), hr t (by omega) (by omega) (by omega)⟩) hsz.2 hsz.1 hb
  refine ⟨TyS_c (fun t a b => hα t a (by omega)) (fun k a => ?_) (by rw [hr _ (by omega) (by omega) (by omega)]) h1, ⟨?_, ?_, ?_, ?_, ?_, ?_⟩, fun k k0 k1 => ?_, fun nm n0 n1 => ?_, fun nm n0 n1 => ?_, ?_⟩
  · exact hμ _ _ (by omega) (by omega) (by omega)
  · rw [hμ _ _ (by omega) (by omega) (by omega), m1]; exact g0
  · rw [hμ _ _ (by omega) (by omega) (by omega), m2]; exact g1
  · rw [hμ _ _ (by omega) (by omega) (by omega), m3]; exact g2
  · rw [hμ _ _ (by omega) (by omega) (by omega), m4]; exact g4
  · rw [hμ _ _ (by omega) (by omega) (by omega), m6]; exact g8
  · rw [hμ _ _ (by omega) (by omega) (by omega), m10]; exact g10
  · rw [m4] at k1
    have := (w.cnt i i0 i1).1
    rw [hr _ (by omega) (by omega) (by omega), (mf (4 * i + k) (by omega) (by omega)).1]
    exact h3 k k0 k1
  · have e := AG_oF (nm := nm) w i0 i1 hM
    have hc := (w.cnt i i0 i1).2.1
    have ho := oF_rng M i nm
    rw [hr (tk i + 2) (by omega) (by omega) (by omega), hr (tk i + 3) (by omega) (by omega) (by omega), e]
    refine ⟨?_, fun h => ?_⟩
    · rw [(h4 nm n0 n1).1]
      unfold fK
      rw [e]
      by_cases hh : oF M i nm < 0
      · rw [if_pos hh, if_pos hh]
      · rw [if_neg hh, if_neg hh, (mn (6 * i + oF M i nm) (by omega) (by omega)).2.1]
    · rw [(mn (6 * i + oF M i nm) (by omega) (by omega)).2.2]
      exact (h4 nm n0 n1).2 h
  · have e := AG_oM (nm := nm) w i0 i1 hM
    have hc := (w.cnt i i0 i1).2.2
    have ho := oM_rng M i nm
    rw [hr (tk i + 4) (by omega) (by omega) (by omega), e]
    refine ⟨fun h => ?_, fun h => ⟨((h5 nm n0 n1).2 h).1, hB _ _ _ (by omega) (by omega) (by omega) (by omega) (by omega) (by omega) (by omega) (by omega) ((h5 nm n0 n1).2 h).2⟩⟩
    obtain ⟨a, b, c, d⟩ := (h5 nm n0 n1).1 h
    exact ⟨a, by rw [hα _ (by omega) (by omega)]; exact b, by rw [hα _ (by omega) (by omega)]; exact c, fun k k0 k1 => by rw [hα _ (by omega) (by omega)]; exact d k k0 k1⟩
  · exact hB _ _ _ (by omega) (by omega) (by omega) (by omega) (by omega) (by omega) (by omega) (by omega) h6
theorem tk_eq (i : Int) : tk i = 1000 * (i + 1) := rfl
/-- the notes written, the description is the same -/
theorem DesR_scr {M : Mem} {α : Sh} {μ μ1 : Mem} (w : WFD M) (h : DesR M α μ) (f : SF μ μ1) (m : MeR M μ1) : DesR M α μ1 := by
  obtain ⟨h1, h2, h3, h4, h5, h6⟩ := h
  have hn := w.n
  refine ⟨?_, ?_, fun i i0 i1 => ⟨?_, TypR_c w i0 (by omega) AG.rf (fun _ _ _ => rfl) (fun t k a b c => f t k (by have := tk_eq i; unfold scr; omega)) (h3 i i0 i1).2⟩, fun i j i0 i1 j0 j1 => ?_, m, h6⟩
  · unfold DeS at h1 ⊢
    rw [f 110 0 (by unfold scr; omega), f 110 2 (by unfold scr; omega), f 110 3 (by unfold scr; omega), f 110 6 (by unfold scr; omega)]
    exact h1
  · rw [f 110 1 (by unfold scr; omega)]; exact h2
  · rw [f 111 i (by unfold scr; omega)]; exact (h3 i i0 i1).1
  · rw [f _ 5 (by have := tk_eq i; unfold scr; omega)]; exact h4 i j i0 i1 j0 j1
/-- the reference's notes written: the same -/
theorem DesR_SD {M M1 : Mem} {α : Sh} {μ : Mem} (w : WFD M) (s : SD M M1) (h : DesR M α μ) : DesR M1 α μ := by
  obtain ⟨h1, h2, h3, h4, h5, h6⟩ := h
  have e0 := s 0 (by decide) (by decide)
  have hn := w.n
  refine ⟨h1, by rw [e0]; exact h2, fun i i0 i1 => ⟨(h3 i i0 (by rw [← e0]; exact i1)).1, TypR_c w i0 (by rw [e0] at i1; omega) (AG_SD s) (fun _ _ _ => rfl) (fun _ _ _ _ _ => rfl) (h3 i i0 (by rw [← e0]; exact i1)).2⟩, ?_, ?_, by rw [e0]; exact h6⟩
  · unfold LdR RT
    rw [SD_edge s, e0]
    exact h4
  · unfold MeR FO
    intro t nm t0 t1 n0 n1
    rw [e0, SD_FF s]
    exact h5 t nm t0 t1 n0 n1
