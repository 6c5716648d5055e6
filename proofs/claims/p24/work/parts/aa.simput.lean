theorem RSg_28 {M0 M σ : Mem} {x t v p : Int} (h : RSg M0 x M σ) (hp : p = 40 * x + t) (t0 : 0 ≤ t) (t1 : t < 40) : RSg M0 x (mu M 28 p v) (mu σ 28 t v) := by
  obtain ⟨⟨a1, a2, a3, a4, b1, b2, b3, b4⟩, k1, k2, k3, k4, c45, c46, c47, c48⟩ := id h
  subst hp
  have ok : ∀ k : Int, k ≠ 28 → mu M 28 (40 * x + t) v k = M k := fun k a => mu_f _ _ _ _ a
  have so : ∀ k : Int, k ≠ 28 → mu σ 28 t v k = σ k := fun k a => mu_f _ _ _ _ a
  unfold RSg KS
  rw [ok 29 (by decide), ok 30 (by decide), ok 31 (by decide), ok 32 (by decide), ok 33 (by decide), ok 37 (by decide), ok 45 (by decide), ok 46 (by decide), ok 47 (by decide), ok 48 (by decide), so 29 (by decide), so 30 (by decide), so 31 (by decide), so 32 (by decide), so 33 (by decide), so 45 (by decide), so 46 (by decide), so 47 (by decide), so 48 (by decide)]
  refine ⟨⟨fun k p q => (ok k (by omega)).trans (a1 k p q), fun k p q => (ok k (by omega)).trans (a2 k p q), fun k p q => (ok k (by omega)).trans (a3 k p q), a4, fun i hi => ⟨?_, (b1 i hi).2⟩, b2, b3, b4⟩, fun u p q => ?_, k2, k3, k4, c45, c46, c47, c48⟩
  · rw [mu_ne (by omega)]; exact (b1 i hi).1
  · by_cases hu : u = t
    · rw [hu, mu_s, mu_s]
    · rw [mu_ne (show ¬ ((28 : Int) = 28 ∧ 40 * x + u = 40 * x + t) by omega), mu_ne (show ¬ ((28 : Int) = 28 ∧ u = t) by omega)]; exact k1 u p q
theorem RSg_29 {M0 M σ : Mem} {x t v p : Int} (h : RSg M0 x M σ) (hp : p = 240 * x + t) (t0 : 0 ≤ t) (t1 : t < 240) : RSg M0 x (mu M 29 p v) (mu σ 29 t v) := by
  obtain ⟨⟨a1, a2, a3, a4, b1, b2, b3, b4⟩, k1, k2, k3, k4, c45, c46, c47, c48⟩ := id h
  subst hp
  have ok : ∀ k : Int, k ≠ 29 → mu M 29 (240 * x + t) v k = M k := fun k a => mu_f _ _ _ _ a
  have so : ∀ k : Int, k ≠ 29 → mu σ 29 t v k = σ k := fun k a => mu_f _ _ _ _ a
  unfold RSg KS
  rw [ok 28 (by decide), ok 30 (by decide), ok 31 (by decide), ok 32 (by decide), ok 33 (by decide), ok 37 (by decide), ok 45 (by decide), ok 46 (by decide), ok 47 (by decide), ok 48 (by decide), so 28 (by decide), so 30 (by decide), so 31 (by decide), so 32 (by decide), so 33 (by decide), so 45 (by decide), so 46 (by decide), so 47 (by decide), so 48 (by decide)]
  refine ⟨⟨fun k p q => (ok k (by omega)).trans (a1 k p q), fun k p q => (ok k (by omega)).trans (a2 k p q), fun k p q => (ok k (by omega)).trans (a3 k p q), a4, b1, fun i hi => ?_, b3, b4⟩, k1, fun u p q => ?_, k3, k4, c45, c46, c47, c48⟩
  · rw [mu_ne (by omega)]; exact b2 i hi
  · by_cases hu : u = t
    · rw [hu, mu_s, mu_s]
    · rw [mu_ne (show ¬ ((29 : Int) = 29 ∧ 240 * x + u = 240 * x + t) by omega), mu_ne (show ¬ ((29 : Int) = 29 ∧ u = t) by omega)]; exact k2 u p q
theorem RSg_45 {M0 M σ : Mem} {x v : Int} (h : RSg M0 x M σ) : RSg M0 x (mu M 45 0 v) (mu σ 45 0 v) := by
  obtain ⟨⟨a1, a2, a3, a4, b1, b2, b3, b4⟩, k1, k2, k3, k4, c45, c46, c47, c48⟩ := id h
  have ok : ∀ k : Int, k ≠ 45 → mu M 45 0 v k = M k := fun k a => mu_f _ _ _ _ a
  have so : ∀ k : Int, k ≠ 45 → mu σ 45 0 v k = σ k := fun k a => mu_f _ _ _ _ a
  unfold RSg KS
  rw [ok 28 (by decide), ok 29 (by decide), ok 30 (by decide), ok 31 (by decide), ok 32 (by decide), ok 33 (by decide), ok 37 (by decide), ok 46 (by decide), ok 47 (by decide), ok 48 (by decide), so 28 (by decide), so 29 (by decide), so 30 (by decide), so 31 (by decide), so 32 (by decide), so 33 (by decide), so 46 (by decide), so 47 (by decide), so 48 (by decide), mu_s, mu_s]
  exact ⟨⟨fun k p q => (ok k (by omega)).trans (a1 k p q), fun k p q => (ok k (by omega)).trans (a2 k p q), fun k p q => (ok k (by omega)).trans (a3 k p q), a4, b1, b2, b3, b4⟩, k1, k2, k3, k4, rfl, c46, c47, c48⟩
theorem RSg_46 {M0 M σ : Mem} {x v : Int} (h : RSg M0 x M σ) : RSg M0 x (mu M 46 0 v) (mu σ 46 0 v) := by
  obtain ⟨⟨a1, a2, a3, a4, b1, b2, b3, b4⟩, k1, k2, k3, k4, c45, c46, c47, c48⟩ := id h
  have ok : ∀ k : Int, k ≠ 46 → mu M 46 0 v k = M k := fun k a => mu_f _ _ _ _ a
  have so : ∀ k : Int, k ≠ 46 → mu σ 46 0 v k = σ k := fun k a => mu_f _ _ _ _ a
  unfold RSg KS
  rw [ok 28 (by decide), ok 29 (by decide), ok 30 (by decide), ok 31 (by decide), ok 32 (by decide), ok 33 (by decide), ok 37 (by decide), ok 45 (by decide), ok 47 (by decide), ok 48 (by decide), so 28 (by decide), so 29 (by decide), so 30 (by decide), so 31 (by decide), so 32 (by decide), so 33 (by decide), so 45 (by decide), so 47 (by decide), so 48 (by decide), mu_s, mu_s]
  exact ⟨⟨fun k p q => (ok k (by omega)).trans (a1 k p q), fun k p q => (ok k (by omega)).trans (a2 k p q), fun k p q => (ok k (by omega)).trans (a3 k p q), a4, b1, b2, b3, b4⟩, k1, k2, k3, k4, c45, rfl, c47, c48⟩
theorem RSg_row {M0 M σ : Mem} {x t : Int} (h : RSg M0 x M σ) (r0 : 0 ≤ σ 32 0) (r1 : σ 32 0 < 40) : RSg M0 x (mu (mu (mu M 33 (40 * x + M 32 x) t) 32 x (M 32 x + 1)) 48 0 (M 48 0 + 1)) (rowP t σ) := by
  obtain ⟨⟨a1, a2, a3, a4, b1, b2, b3, b4⟩, k1, k2, k3, k4, c45, c46, c47, c48⟩ := id h
  have ok : ∀ k : Int, k ≠ 33 → k ≠ 32 → k ≠ 48 → (mu (mu (mu M 33 (40 * x + M 32 x) t) 32 x (M 32 x + 1)) 48 0 (M 48 0 + 1)) k = M k := fun k a b c => by rw [mu_f _ _ _ _ c, mu_f _ _ _ _ b, mu_f _ _ _ _ a]
  have so : ∀ k : Int, k ≠ 33 → k ≠ 32 → k ≠ 48 → rowP t σ k = σ k := fun k a b c => funext fun i => rowP_o a b c
  unfold RSg KS
  rw [ok 28 (by decide) (by decide) (by decide), ok 29 (by decide) (by decide) (by decide), ok 30 (by decide) (by decide) (by decide), ok 31 (by decide) (by decide) (by decide), ok 37 (by decide) (by decide) (by decide), ok 45 (by decide) (by decide) (by decide), ok 46 (by decide) (by decide) (by decide), ok 47 (by decide) (by decide) (by decide), so 28 (by decide) (by decide) (by decide), so 29 (by decide) (by decide) (by decide), so 30 (by decide) (by decide) (by decide), so 31 (by decide) (by decide) (by decide), so 45 (by decide) (by decide) (by decide), so 46 (by decide) (by decide) (by decide), so 47 (by decide) (by decide) (by decide), rowP_32, rowP_48]
  refine ⟨⟨fun k p q => (ok k (by omega) (by omega) (by omega)).trans (a1 k p q), fun k p q => (ok k (by omega) (by omega) (by omega)).trans (a2 k p q), fun k p q => (ok k (by omega) (by omega) (by omega)).trans (a3 k p q), a4, fun i hi => ⟨(b1 i hi).1, ?_⟩, b2, fun i hi => ⟨(b3 i hi).1, ?_⟩, b4⟩, k1, k2, k3, ⟨?_, fun i a b => ?_⟩, c45, c46, c47, ?_⟩
  · rw [mu_ne (by omega), mu_ne (by omega), mu_ne (by omega)]; exact (b1 i hi).2
  · rw [mu_ne (by omega), mu_ne (by omega), mu_ne (by omega)]; exact (b3 i hi).2
  · rw [mu_ne (by omega), mu_s, k4.1]
  · rw [mu_ne (show ¬ ((33 : Int) = 48 ∧ 40 * x + i = 0) by omega), mu_ne (show ¬ ((33 : Int) = 32 ∧ 40 * x + i = x) by omega), k4.1]
    unfold rowP
    rw [mu_ne (show ¬ ((33 : Int) = 48 ∧ i = 0) by omega), mu_ne (show ¬ ((33 : Int) = 32 ∧ i = 0) by omega)]
    by_cases hi : i = σ 32 0
    · rw [hi, mu_s, mu_s]
    · rw [mu_ne (show ¬ ((33 : Int) = 33 ∧ 40 * x + i = 40 * x + σ 32 0) by omega), mu_ne (show ¬ ((33 : Int) = 33 ∧ i = σ 32 0) by omega)]; exact k4.2 i a (by omega)
  · rw [mu_s, c48]
