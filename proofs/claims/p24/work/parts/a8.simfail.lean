theorem KS_c {M0 M M1 : Mem} {x : Int} (h : KS M0 x M) (hm : ∀ k : Int, (0 ≤ k ∧ k ≤ 17) ∨ (28 ≤ k ∧ k ≤ 37) ∨ (53 ≤ k ∧ k ≤ 56) → M1 k = M k) : KS M0 x M1 := by
  obtain ⟨a1, a2, a3, a4, a5⟩ := h
  unfold KS
  rw [hm 28 (by decide), hm 29 (by decide), hm 30 (by decide), hm 31 (by decide), hm 32 (by decide), hm 33 (by decide), hm 37 (by decide)]
  exact ⟨fun k p q => (hm k (by omega)).trans (a1 k p q), fun k p q => (hm k (by omega)).trans (a2 k p q), fun k p q => (hm k (by omega)).trans (a3 k p q), a4, a5⟩
theorem END_fail {M0 M Mb σ : Mem} {x f ob n of : Int} (h : RSg M0 x M σ) (h38 : M 38 0 = f) (h44 : M 44 0 = ob) (h49 : M 49 0 = 0) (hb : BLW f Mb M) (h47 : σ 47 0 ≤ 40) (hn : 0 ≤ n ∧ n ≤ 22) : ENDq M0 x f ob Mb (arE n of σ) (failM n of M) := by
  obtain ⟨k0, k1, k2, k3, k4, c45, c46, c47, c48⟩ := id h
  have e : ∀ k i : Int, ¬ (k = 47 ∧ i = 0) → ¬ (k = 52 ∧ i = 0) → (arE n of σ).2 k i = σ k i := fun k i h1 h2 => by
    unfold arE
    show mu (mu σ 47 0 (σ 47 0 + 1)) 52 0 of k i = σ k i
    rw [mu_ne h2, mu_ne h1]
  have e47 : (arE n of σ).2 47 0 = σ 47 0 + 1 := by
    unfold arE
    show mu (mu σ 47 0 (σ 47 0 + 1)) 52 0 of 47 0 = σ 47 0 + 1
    rw [mu_ne (by omega), mu_s]
  have e52 : (arE n of σ).2 52 0 = of := by
    unfold arE
    show mu (mu σ 47 0 (σ 47 0 + 1)) 52 0 of 52 0 = of
    rw [mu_s]
  have e1 : (arE n of σ).1 = if 40 < σ 47 0 + 1 then 23 else n := rfl
  by_cases h40 : M 47 0 = 40
  · right
    have em : failM n of M = mu M 49 0 1 := by unfold failM; rw [if_pos h40]
    rw [em, e1, e 45 0 (by omega) (by omega), e 46 0 (by omega) (by omega), e 48 0 (by omega) (by omega), e47]
    refine ⟨by rw [if_pos (by omega)], by rw [mu_s], KS_c k0 (fun k hk => mu_f _ _ _ _ (by omega)), ?_, ?_, Or.inr ⟨?_, by omega⟩, ?_⟩
    · rw [mu_ne (by omega)]; exact c45
    · rw [mu_ne (by omega)]; exact c46
    · rw [mu_ne (by omega)]; exact h40
    · rw [mu_ne (by omega)]; exact c48
  · left
    have em : failM n of M = mu (mu (mu (mu M 47 0 (M 47 0 + 1)) 50 0 1) 51 0 n) 52 0 of := by unfold failM; rw [if_neg h40]
    have o : ∀ k i : Int, k ≠ 47 → k ≠ 50 → k ≠ 51 → k ≠ 52 → failM n of M k i = M k i := fun k i a b c d => by rw [em, mu_ne (by omega), mu_ne (by omega), mu_ne (by omega), mu_ne (by omega)]
    have m50 : failM n of M 50 0 = 1 := by rw [em, mu_ne (by omega), mu_ne (by omega), mu_s]
    have m51 : failM n of M 51 0 = n := by rw [em, mu_ne (by omega), mu_s]
    have m52 : failM n of M 52 0 = of := by rw [em, mu_s]
    have m47 : failM n of M 47 0 = M 47 0 + 1 := by rw [em, mu_ne (by omega), mu_ne (by omega), mu_ne (by omega), mu_s]
    have r1 : (arE n of σ).1 = n := by rw [e1, if_neg (by omega)]
    have ok : ∀ k : Int, k ≠ 47 → k ≠ 50 → k ≠ 51 → k ≠ 52 → failM n of M k = M k := fun k a b c d => funext fun i => o k i a b c d
    refine ⟨by omega, (o 38 0 (by decide) (by decide) (by decide) (by decide)).trans h38, (o 44 0 (by decide) (by decide) (by decide) (by decide)).trans h44, (o 49 0 (by decide) (by decide) (by decide) (by decide)).trans h49, ?_, ?_, Or.inr ⟨by omega, m50, by omega, by rw [m52, e52]⟩⟩
    · refine ⟨KS_c k0 (fun k hk => ok k (by omega) (by omega) (by omega) (by omega)), fun t a b => ?_, fun p a b => ?_, ⟨?_, fun i a b c => ?_⟩, ⟨?_, fun i a b => ?_⟩, ?_, ?_, ?_, ?_⟩
      · rw [o _ _ (by decide) (by decide) (by decide) (by decide), e _ _ (by omega) (by omega)]; exact k1 t a b
      · rw [o _ _ (by decide) (by decide) (by decide) (by decide), e _ _ (by omega) (by omega)]; exact k2 p a b
      · rw [o _ _ (by decide) (by decide) (by decide) (by decide), e _ _ (by omega) (by omega)]; exact k3.1
      · rw [e _ _ (by omega) (by omega)] at b; rw [o _ _ (by decide) (by decide) (by decide) (by decide), e _ _ (by omega) (by omega)]; exact k3.2 i a b c
      · rw [o _ _ (by decide) (by decide) (by decide) (by decide), e _ _ (by omega) (by omega)]; exact k4.1
      · rw [e _ _ (by omega) (by omega)] at b; rw [o _ _ (by decide) (by decide) (by decide) (by decide), e _ _ (by omega) (by omega)]; exact k4.2 i a b
      · rw [o _ _ (by decide) (by decide) (by decide) (by decide), e _ _ (by omega) (by omega)]; exact c45
      · rw [o _ _ (by decide) (by decide) (by decide) (by decide), e _ _ (by omega) (by omega)]; exact c46
      · rw [m47, e47, c47]
      · rw [o _ _ (by decide) (by decide) (by decide) (by decide), e _ _ (by omega) (by omega)]; exact c48
    · refine hb.trans (fun j _ => ⟨?_, ?_, ?_, ?_, ?_, ?_⟩) <;> exact o _ _ (by decide) (by decide) (by decide) (by decide)
