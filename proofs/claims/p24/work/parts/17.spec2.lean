/-! what is found of METHODS; what is RULED; which type an action starts first -/
theorem oM_congr {M M1 : Mem} (h10 : M1 10 = M 10) (h11 : M1 11 = M 11) (t nm : Int) : oM M1 t nm = oM M t nm := by
  unfold oM
  rw [h10, h11]
def fmd (M : Mem) (nm : Int) : Nat → Int → Int
  | 0, _ => -6
  | h + 1, t => if t < 0 then -6 else if 0 ≤ oM M t nm then 5 * t + 1 + oM M t nm else fmd M nm h (M 3 t)
/-- the body of the method that is found; -6: none -/
def FM (M : Mem) (nm t : Int) : Int := fmd M nm 41 t
theorem fmd_st {M : Mem} (w : WFD M) (nm : Int) : ∀ (h h1 : Nat) (t : Int), t < M 0 0 → (t + 1).toNat < h → (t + 1).toNat < h1 → fmd M nm h t = fmd M nm h1 t := by
  intro h
  induction h with
  | zero => intro h1 t _ hh; omega
  | succ h ih =>
    intro h1 t t1 hh hh1
    cases h1 with
    | zero => omega
    | succ h1 =>
      unfold fmd
      by_cases ht : t < 0
      · rw [if_pos ht, if_pos ht]
      · rw [if_neg ht, if_neg ht]
        have := w.above t (by omega) t1
        rw [ih h1 (M 3 t) (by omega) (by omega) (by omega)]
theorem FM_neg {M : Mem} {nm t : Int} (h : t < 0) : FM M nm t = -6 := by
  unfold FM fmd
  rw [if_pos h]
theorem FM_eq {M : Mem} (w : WFD M) (nm : Int) {t : Int} (t0 : 0 ≤ t) (t1 : t < M 0 0) : FM M nm t = if 0 ≤ oM M t nm then 5 * t + 1 + oM M t nm else FM M nm (M 3 t) := by
  have hn := w.n
  have := w.above t t0 t1
  unfold FM
  conv => lhs; unfold fmd
  rw [if_neg (by omega), fmd_st w nm 40 41 (M 3 t) (by omega) (by omega) (by omega)]
theorem fmd_rng {M : Mem} {nm : Int} (w : WFD M) : ∀ (h : Nat) (t : Int), t < M 0 0 → fmd M nm h t = -6 ∨ ∃ u, 0 ≤ u ∧ u ≤ t ∧ fmd M nm h t = 5 * u + 1 + oM M u nm ∧ 0 ≤ oM M u nm ∧ oM M u nm < M 10 u := by
  intro h
  induction h with
  | zero => intro t _; exact Or.inl rfl
  | succ h ih =>
    intro t t1
    unfold fmd
    by_cases ht : t < 0
    · rw [if_pos ht]; exact Or.inl rfl
    · rw [if_neg ht]
      have := w.above t (by omega) t1
      by_cases ho : 0 ≤ oM M t nm
      · rw [if_pos ho]
        rcases oM_rng M t nm with h2 | h2
        · omega
        · exact Or.inr ⟨t, by omega, by omega, rfl, ho, h2.2.1⟩
      · rw [if_neg ho]
        rcases ih (M 3 t) (by omega) with h2 | ⟨u, u0, u1, u2⟩
        · exact Or.inl h2
        · exact Or.inr ⟨u, u0, by omega, u2⟩
theorem FM_rng {M : Mem} {nm t : Int} (w : WFD M) (t1 : t < M 0 0) : FM M nm t = -6 ∨ ∃ u, 0 ≤ u ∧ u ≤ t ∧ FM M nm t = 5 * u + 1 + oM M u nm ∧ 0 ≤ oM M u nm ∧ oM M u nm < M 10 u := fmd_rng w 41 t t1
theorem FF_rng {M : Mem} {nm t : Int} (w : WFD M) (t0 : 0 ≤ t) (t1 : t < M 0 0) : FF M nm t = -6 ∨ ∃ u, 0 ≤ u ∧ u < M 0 0 ∧ FF M nm t = pF M u nm ∧ 6 * u ≤ FF M nm t ∧ FF M nm t < 6 * u + M 6 u ∧ M 6 u ≤ 6 := by
  have key : ∀ (h : Nat) (t : Int), t < M 0 0 → ffd M nm h t = -6 ∨ (0 ≤ ffd M nm h t ∧ ∃ u, 0 ≤ u ∧ u < M 0 0 ∧ ffd M nm h t = pF M u nm) := by
    intro h
    induction h with
    | zero => intro t _; exact Or.inl rfl
    | succ h ih =>
      intro t t1
      unfold ffd
      by_cases ht : t < 0
      · rw [if_pos ht]; exact Or.inl rfl
      · rw [if_neg ht]
        by_cases ho : 0 ≤ pF M t nm
        · rw [if_pos ho]; exact Or.inr ⟨ho, t, by omega, t1, rfl⟩
        · rw [if_neg ho]
          have hj : ∀ j : Nat, j ≤ (M 4 t).toNat → FC (ffd M nm h) M t j = -6 ∨ (0 ≤ FC (ffd M nm h) M t j ∧ ∃ u, 0 ≤ u ∧ u < M 0 0 ∧ FC (ffd M nm h) M t j = pF M u nm) := by
            intro j
            induction j with
            | zero =>
              intro _
              unfold FC
              split
              · exact Or.inl rfl
              · have := w.above t (by omega) t1
                exact ih _ (by omega)
            | succ j ihj =>
              intro hj
              unfold FC
              have hf := w.face t (M 4 t - 1 - j) (by omega) t1 (by omega) (by omega)
              split
              · rename_i h1
                rcases ih _ hf.2.1 with h2 | h2
                · omega
                · exact Or.inr h2
              · exact ihj (by omega)
          exact hj _ (Nat.le_refl _)
  have hn := w.n
  rcases key 41 t t1 with h | ⟨h, u, u0, u1, u2⟩
  · exact Or.inl h
  · have h3 := (w.cnt u u0 (by omega)).2.1
    rcases pF_rng M u nm with h4 | h4
    · have : FF M nm t = -6 := by rw [show FF M nm t = pF M u nm from u2, h4]
      exact Or.inl this
    · refine Or.inr ⟨u, u0, u1, u2, ?_, ?_, h3.2⟩
      · rw [show FF M nm t = pF M u nm from u2]; exact h4.1
      · rw [show FF M nm t = pF M u nm from u2]; exact h4.2.1
theorem SD_FF {M M1 : Mem} (h : SD M M1) (nm t : Int) : FF M1 nm t = FF M nm t := by
  have key : ∀ (n : Nat) (t : Int), ffd M1 nm n t = ffd M nm n t := by
    intro n
    induction n with
    | zero => intro t; rfl
    | succ n ih =>
      intro t
      have hg : ffd M1 nm n = ffd M nm n := funext ih
      have hc : ∀ j, FC (ffd M nm n) M1 t j = FC (ffd M nm n) M t j := by
        intro j
        induction j with
        | zero => unfold FC; rw [h 3 (by decide) (by decide)]
        | succ j ihj => unfold FC; rw [ihj, h 4 (by decide) (by decide), h 5 (by decide) (by decide)]
      unfold ffd
      rw [hg, hc, h 4 (by decide) (by decide), pF_congr (h 6 (by decide) (by decide)) (h 7 (by decide) (by decide))]
  exact key 41 t
theorem SD_FM {M M1 : Mem} (h : SD M M1) (nm t : Int) : FM M1 nm t = FM M nm t := by
  have key : ∀ (n : Nat) (t : Int), fmd M1 nm n t = fmd M nm n t := by
    intro n
    induction n with
    | zero => intro t; rfl
    | succ n ih =>
      intro t
      unfold fmd
      rw [ih, h 3 (by decide) (by decide), oM_congr (h 10 (by decide) (by decide)) (h 11 (by decide) (by decide))]
  exact key 41 t
/-- 1: the action can't be -/
def RUi (M : Mem) (k t n : Int) : Int := if k = 1 then (if FF M n t < 0 then 1 else 0) else if k = 2 then (if FF M n t < 0 then 1 else if M 8 (FF M n t) = 1 then 1 else 0) else if k = 3 then (if FM M n t < 0 then 1 else 0) else if k = 4 then (if M 1 t = 1 then 1 else if M 2 t = 1 then 1 else 0) else 0
theorem RUi_1 (M : Mem) (t n : Int) : RUi M 1 t n = if FF M n t < 0 then 1 else 0 := rfl
theorem RUi_2 (M : Mem) (t n : Int) : RUi M 2 t n = if FF M n t < 0 then 1 else if M 8 (FF M n t) = 1 then 1 else 0 := rfl
theorem RUi_3 (M : Mem) (t n : Int) : RUi M 3 t n = if FM M n t < 0 then 1 else 0 := rfl
theorem RUi_4 (M : Mem) (t n : Int) : RUi M 4 t n = if M 1 t = 1 then 1 else if M 2 t = 1 then 1 else 0 := rfl
theorem RUi_o (M : Mem) {k : Int} (t n : Int) (h1 : k ≠ 1) (h2 : k ≠ 2) (h3 : k ≠ 3) (h4 : k ≠ 4) : RUi M k t n = 0 := by
  unfold RUi
  rw [if_neg h1, if_neg h2, if_neg h3, if_neg h4]
theorem RUi_01 (M : Mem) (k t n : Int) : RUi M k t n = 0 ∨ RUi M k t n = 1 := by
  unfold RUi
  (repeat' split) <;> first | exact Or.inl rfl | exact Or.inr rfl
/-- the type that an action starts first; -6: none -/
def STi (M : Mem) (k t n : Int) : Int := if RUi M k t n = 1 then -6 else if k = 1 ∨ k = 2 then (if M 8 (FF M n t) = 1 then -6 else FF M n t / 6) else if k = 3 then FM M n t / 5 else if k = 4 ∨ k = 5 then t else -6
theorem SD_RUi {M M1 : Mem} (h : SD M M1) (k t n : Int) : RUi M1 k t n = RUi M k t n := by
  unfold RUi
  rw [SD_FF h, SD_FM h, h 8 (by decide) (by decide), h 1 (by decide) (by decide), h 2 (by decide) (by decide)]
theorem SD_STi {M M1 : Mem} (h : SD M M1) (k t n : Int) : STi M1 k t n = STi M k t n := by
  unfold STi
  rw [SD_RUi h, SD_FF h, SD_FM h, h 8 (by decide) (by decide)]
