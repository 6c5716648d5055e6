/-! WHAT IS ASKED FOR; a list in a row of places with its count -/
def LR (M : Mem) (a c : Int) (l : List Int) : Prop := M c 0 = l.length ∧ ∀ k : Int, 0 ≤ k → k < l.length → M a k = l.getD k.toNat 0
theorem LR_congr {M M1 : Mem} {a c : Int} {l : List Int} (h : LR M a c l) (ha : M1 a = M a) (hc : M1 c = M c) : LR M1 a c l := by
  unfold LR
  rw [ha, hc]
  exact h
theorem LR_nil {M : Mem} {a c : Int} (h : M c 0 = 0) : LR M a c [] := ⟨h, fun k k0 k1 => absurd k1 (by simp only [List.length_nil]; omega)⟩
theorem LR_push {M M1 : Mem} {a c x : Int} {l : List Int} (h : LR M a c l) (hc : M1 c 0 = l.length + 1) (hx : M1 a l.length = x) (ho : ∀ k : Int, k ≠ l.length → M1 a k = M a k) : LR M1 a c (l ++ [x]) := by
  refine ⟨by rw [hc, List.length_append, List.length_singleton]; omega, fun k k0 k1 => ?_⟩
  rw [List.length_append, List.length_singleton] at k1
  by_cases hk1 : k = l.length
  · rw [hk1, hx, List.getD_eq_getElem?_getD, Int.toNat_natCast, List.getElem?_append_right (Nat.le_refl _), Nat.sub_self]; rfl
  · rw [ho k hk1, h.2 k k0 (by omega), List.getD_eq_getElem?_getD, List.getD_eq_getElem?_getD, List.getElem?_append_left (by omega)]
theorem mem_getD {l : List Int} {t : Int} : t ∈ l ↔ ∃ j : Int, 0 ≤ j ∧ j < l.length ∧ l.getD j.toNat 0 = t := by
  constructor
  · intro h
    obtain ⟨i, hi⟩ := List.mem_iff_getElem?.mp h
    have hl := (List.getElem?_eq_some_iff.mp hi).1
    exact ⟨i, by omega, by omega, by rw [List.getD_eq_getElem?_getD, Int.toNat_natCast, hi]; rfl⟩
  · rintro ⟨j, j0, j1, rfl⟩
    rw [List.getD_eq_getElem?_getD]
    have : j.toNat < l.length := by omega
    rw [List.getElem?_eq_getElem this]
    exact List.getElem_mem this
theorem getD_mem {l : List Int} {j : Int} (j0 : 0 ≤ j) (j1 : j < l.length) : l.getD j.toNat 0 ∈ l := mem_getD.mpr ⟨j, j0, j1, rfl⟩
def AD (of : Int) (l : List Int) (t : Int) : List Int := if t < 0 ∨ t = of ∨ t ∈ l then l else l ++ [t]
theorem AD_len (of : Int) (l : List Int) (t : Int) : (AD of l t).length ≤ l.length + 1 := by
  unfold AD
  split
  · omega
  · rw [List.length_append, List.length_singleton]; exact Nat.le_refl _
theorem AD_mem {of t x : Int} {l : List Int} : x ∈ AD of l t ↔ x ∈ l ∨ (x = t ∧ 0 ≤ t ∧ t ≠ of) := by
  unfold AD
  split
  · rename_i h
    constructor
    · exact Or.inl
    · rintro (h1 | ⟨rfl, h1, h2⟩)
      · exact h1
      · rcases h with h | h | h
        · omega
        · exact absurd h h2
        · exact h
  · rename_i h
    rw [List.mem_append, List.mem_singleton]
    constructor
    · rintro (h1 | rfl)
      · exact Or.inl h1
      · exact Or.inr ⟨rfl, by omega, fun h2 => h (Or.inr (Or.inl h2))⟩
    · rintro (h1 | ⟨rfl, -, -⟩)
      · exact Or.inl h1
      · exact Or.inr rfl
def LAf (l : List Int) (t : Int) : Nat → List Int
  | 0 => []
  | k + 1 => AD t (LAf l t k) (l.getD k 0)
def LAa (M : Mem) (t : Int) : Nat → List Int
  | 0 => LAf (LF M t) t (LF M t).length
  | j + 1 => AD t (LAa M t j) (STi M (M 13 (60 * t + j)) (M 14 (60 * t + j)) (M 15 (60 * t + j)))
/-- what a type's start asks for -/
def LA (M : Mem) (t : Int) : List Int := LAa M t (M 12 (5 * t)).toNat
theorem LAf_len (l : List Int) (t : Int) : ∀ k, (LAf l t k).length ≤ k := by
  intro k
  induction k with
  | zero => exact Nat.le_refl _
  | succ k ih => have := AD_len t (LAf l t k) (l.getD k 0); show (AD t (LAf l t k) (l.getD k 0)).length ≤ _; omega
theorem LAa_len (M : Mem) (t : Int) (h : (LF M t).length ≤ 41) : ∀ j, (LAa M t j).length ≤ 41 + j := by
  intro j
  induction j with
  | zero => have := LAf_len (LF M t) t (LF M t).length; show (LAf _ _ _).length ≤ _; omega
  | succ j ih => have := AD_len t (LAa M t j) (STi M (M 13 (60 * t + j)) (M 14 (60 * t + j)) (M 15 (60 * t + j))); show (AD _ _ _).length ≤ _; omega
theorem STi_rng {M : Mem} (w : WFD M) {k t n : Int} (hk : 1 ≤ k → k ≤ 6 → 0 ≤ t ∧ t < M 0 0) : STi M k t n < 0 ∨ (0 ≤ STi M k t n ∧ STi M k t n < M 0 0) := by
  unfold STi
  split
  · exact Or.inl (by decide)
  · split
    · rename_i h1 h2
      have ht := hk (by omega) (by omega)
      have hr := FF_rng (nm := n) w ht.1 ht.2
      split
      · exact Or.inl (by decide)
      · rcases hr with hr | ⟨u, u0, u1, u2, u3, u4, u5⟩
        · exact Or.inl (by rw [hr]; decide)
        · exact Or.inr ⟨by omega, by omega⟩
    · split
      · rename_i h1 h2 h3
        have ht := hk (by omega) (by omega)
        have hn := w.n
        rcases FM_rng (nm := n) w ht.2 with hr | ⟨u, u0, u1, u2, u3, u4⟩
        · exact Or.inl (by rw [hr]; decide)
        · have := (w.cnt u u0 (by omega)).2.2
          exact Or.inr ⟨by omega, by omega⟩
      · split
        · rename_i h1 h2 h3 h4
          exact Or.inr (hk (by omega) (by omega))
        · exact Or.inl (by decide)
theorem LAf_all {l : List Int} {t : Int} {Q : Int → Prop} (h : ∀ x ∈ l, Q x) : ∀ k, k ≤ l.length → ∀ x ∈ LAf l t k, Q x := by
  intro k
  induction k with
  | zero => intro _ x hx; exact absurd hx List.not_mem_nil
  | succ k ih =>
    intro hk x hx
    rcases AD_mem.mp hx with h1 | ⟨rfl, -, -⟩
    · exact ih (by omega) x h1
    · have := getD_mem (l := l) (j := (k : Int)) (by omega) (by omega)
      rw [Int.toNat_natCast] at this
      exact h _ this
theorem LA_all {M : Mem} (w : WFD M) {t : Int} (t0 : 0 ≤ t) (t1 : t < M 0 0) : ∀ x ∈ LA M t, 0 ≤ x ∧ x < M 0 0 := by
  have hn := w.n
  have hs := w.size (5 * t) (by omega) (by omega)
  have key : ∀ j : Nat, j ≤ (M 12 (5 * t)).toNat → ∀ x ∈ LAa M t j, 0 ≤ x ∧ x < M 0 0 := by
    intro j
    induction j with
    | zero => intro _; exact LAf_all (LF_all w t0 t1) _ (Nat.le_refl _)
    | succ j ih =>
      intro hj x hx
      rcases AD_mem.mp hx with h1 | ⟨rfl, h2, -⟩
      · exact ih (by omega) x h1
      · have ha := w.act (5 * t) j (by omega) (by omega) (by omega) (by omega)
        rw [show 12 * (5 * t) + (j : Int) = 60 * t + j by omega] at ha
        rcases STi_rng w (k := M 13 (60 * t + j)) (t := M 14 (60 * t + j)) (n := M 15 (60 * t + j)) ha.2.1 with h3 | h3
        · omega
        · exact h3
  exact key _ (Nat.le_refl _)
theorem SD_LA {M M1 : Mem} (h : SD M M1) (t : Int) : LA M1 t = LA M t := by
  have key : ∀ j, LAa M1 t j = LAa M t j := by
    intro j
    induction j with
    | zero => show LAf _ _ _ = LAf _ _ _; rw [SD_LF h]
    | succ j ih => show AD _ _ _ = AD _ _ _; rw [ih, SD_STi h, h 13 (by decide) (by decide), h 14 (by decide) (by decide), h 15 (by decide) (by decide)]
  unfold LA
  rw [key, h 12 (by decide) (by decide)]
