theorem onTM_ne {v k i : Int} {M : Mem} (h1 : ¬ (k = 31 ∧ i = 300 * M 37 0 + M 30 (M 37 0))) (h2 : ¬ (k = 30 ∧ i = M 37 0)) : onTM v M k i = M k i := by
  unfold onTM
  split
  · rw [mu_ne h2, mu_ne h1]
  · rw [mu_ne h2]
theorem RSg_onT {M0 M σ : Mem} {x v : Int} (h : RSg M0 x M σ) (h30 : 0 ≤ σ 30 0) : RSg M0 x (onTM v M) (onT v σ) := by
  obtain ⟨⟨a1, a2, a3, a4, b1, b2, b3, b4⟩, k1, k2, k3, k4, c45, c46, c47, c48⟩ := id h
  have e30 : onTM v M 30 x = M 30 x + 1 := by
    unfold onTM
    rw [a4]
    split
    · rw [mu_s]
    · rw [mu_s]
  have ok : ∀ k : Int, k ≠ 30 → k ≠ 31 → onTM v M k = M k := fun k a b => onTM_o b a
  have so : ∀ k i : Int, k ≠ 31 → k ≠ 30 → onT v σ k i = σ k i := fun k i a b => onT_o a b
  refine ⟨⟨fun k p q => (ok k (by omega) (by omega)).trans (a1 k p q), fun k p q => (ok k (by omega) (by omega)).trans (a2 k p q), fun k p q => (ok k (by omega) (by omega)).trans (a3 k p q), by rw [ok 37 (by decide) (by decide)]; exact a4, fun i hi => ?_, fun i hi => ?_, fun i hi => ⟨?_, ?_⟩, fun i hi => ?_⟩, fun t p q => ?_, fun p a b => ?_, ⟨?_, fun i a b c => ?_⟩, ⟨?_, fun i a b => ?_⟩, ?_, ?_, ?_, ?_⟩
  · rw [ok 28 (by decide) (by decide), ok 33 (by decide) (by decide)]; exact b1 i hi
  · rw [ok 29 (by decide) (by decide)]; exact b2 i hi
  · rw [onTM_ne (by omega) (by omega)]; exact (b3 i hi).1
  · rw [ok 32 (by decide) (by decide)]; exact (b3 i hi).2
  · by_cases hc : M 30 x < 300
    · rw [onTM_ne (by rw [a4]; omega) (by omega)]; exact b4 i hi
    · unfold onTM
      rw [a4, if_neg hc, mu_ne (by omega)]
      exact b4 i hi
  · rw [ok 28 (by decide) (by decide), so _ _ (by decide) (by decide)]; exact k1 t p q
  · rw [ok 29 (by decide) (by decide), so _ _ (by decide) (by decide)]; exact k2 p a b
  · rw [e30, onT_30, k3.1]
  · rw [onT_30] at b
    unfold onTM onT
    rw [a4, k3.1]
    by_cases hc : σ 30 0 < 300
    · rw [if_pos hc, if_pos hc, mu_ne (show ¬ ((31 : Int) = 30 ∧ 300 * x + i = x) by omega), mu_ne (show ¬ ((31 : Int) = 30 ∧ i = 0) by omega)]
      by_cases hi : i = σ 30 0
      · rw [hi, mu_s, mu_s]
      · rw [mu_ne (show ¬ ((31 : Int) = 31 ∧ 300 * x + i = 300 * x + σ 30 0) by omega), mu_ne (show ¬ ((31 : Int) = 31 ∧ i = σ 30 0) by omega)]; exact k3.2 i a (by omega) c
    · rw [if_neg hc, if_neg hc, mu_ne (show ¬ ((31 : Int) = 30 ∧ 300 * x + i = x) by omega), mu_ne (show ¬ ((31 : Int) = 30 ∧ i = 0) by omega)]; exact k3.2 i a (by omega) c
  · rw [ok 32 (by decide) (by decide), so _ _ (by decide) (by decide)]; exact k4.1
  · rw [so _ _ (by decide) (by decide)] at b; rw [ok 33 (by decide) (by decide), so _ _ (by decide) (by decide)]; exact k4.2 i a b
  · rw [ok 45 (by decide) (by decide), so _ _ (by decide) (by decide)]; exact c45
  · rw [ok 46 (by decide) (by decide), so _ _ (by decide) (by decide)]; exact c46
  · rw [ok 47 (by decide) (by decide), so _ _ (by decide) (by decide)]; exact c47
  · rw [ok 48 (by decide) (by decide), so _ _ (by decide) (by decide)]; exact c48
