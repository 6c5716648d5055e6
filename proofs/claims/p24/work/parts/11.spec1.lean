/-! THE DESCRIPTION as the reference keeps it (M k i: place i of its field k): what is found by names, and what always holds -/
theorem loop_wf {σ : Type} (G : σ → Prop) (ms : σ → Nat) (I : σ → Prop) (step : ∀ s, I s → (∀ s1, I s1 → ms s1 < ms s → G s1) → G s) : ∀ s, I s → G s := by
  have h : ∀ n s, ms s ≤ n → I s → G s := by
    intro n
    induction n with
    | zero => intro s hs hi; exact step s hi (fun s1 _ h => absurd h (by omega))
    | succ n ih => intro s hs hi; exact step s hi (fun s1 h1 h2 => ih s1 (by omega) h1)
  exact fun s => h _ s (Nat.le_refl _)
/-- the last place below k of a row of names that has the name -/
def lastAt (f : Int → Int) (b nm : Int) : Nat → Int
  | 0 => -6
  | k + 1 => if f (b + k) = nm then k else lastAt f b nm k
theorem lastAt_lt (f : Int → Int) (b nm : Int) : ∀ k : Nat, lastAt f b nm k = -6 ∨ (0 ≤ lastAt f b nm k ∧ lastAt f b nm k < k ∧ f (b + lastAt f b nm k) = nm) := by
  intro k
  induction k with
  | zero => exact Or.inl rfl
  | succ k ih =>
    unfold lastAt
    split
    · rename_i h; exact Or.inr ⟨by omega, by omega, h⟩
    · rcases ih with h | h
      · exact Or.inl h
      · exact Or.inr ⟨h.1, by omega, h.2.2⟩
theorem lastAt_none (f : Int → Int) (b nm : Int) : ∀ k : Nat, (∀ j : Int, 0 ≤ j → j < k → f (b + j) ≠ nm) → lastAt f b nm k = -6 := by
  intro k
  induction k with
  | zero => intro _; rfl
  | succ k ih =>
    intro h
    unfold lastAt
    rw [if_neg (h k (by omega) (by omega))]
    exact ih (fun j h0 h1 => h j h0 (by omega))
theorem lastAt_some (f : Int → Int) (b nm : Int) (k : Nat) (h : lastAt f b nm k = -6) : ∀ j : Int, 0 ≤ j → j < k → f (b + j) ≠ nm := by
  induction k with
  | zero => intro j h0 h1; omega
  | succ k ih =>
    intro j h0 h1
    unfold lastAt at h
    split at h
    · omega
    · rename_i hne
      by_cases hj : j = k
      · rw [hj]; exact hne
      · exact ih h j h0 (by omega)
/-- the number (in its type) of a type's own field, method by a name; -6: none -/
def oF (M : Mem) (t nm : Int) : Int := lastAt (M 7) (6 * t) nm (M 6 t).toNat
def oM (M : Mem) (t nm : Int) : Int := lastAt (M 11) (4 * t) nm (M 10 t).toNat
/-- the place of an own field -/
def pF (M : Mem) (t nm : Int) : Int := if oF M t nm < 0 then -6 else 6 * t + oF M t nm
theorem oF_rng (M : Mem) (t nm : Int) : oF M t nm = -6 ∨ (0 ≤ oF M t nm ∧ oF M t nm < M 6 t ∧ M 7 (6 * t + oF M t nm) = nm) := by
  rcases lastAt_lt (M 7) (6 * t) nm (M 6 t).toNat with h | h
  · exact Or.inl h
  · refine Or.inr ⟨h.1, ?_, h.2.2⟩
    have := h.1
    have := h.2.1
    unfold oF
    omega
theorem oM_rng (M : Mem) (t nm : Int) : oM M t nm = -6 ∨ (0 ≤ oM M t nm ∧ oM M t nm < M 10 t ∧ M 11 (4 * t + oM M t nm) = nm) := by
  rcases lastAt_lt (M 11) (4 * t) nm (M 10 t).toNat with h | h
  · exact Or.inl h
  · refine Or.inr ⟨h.1, ?_, h.2.2⟩
    have := h.1
    have := h.2.1
    unfold oM
    omega
def lastI (f : Int → Int) (b nm k : Int) : Int := lastAt f b nm k.toNat
theorem lastI_s (f : Int → Int) (b nm k : Int) (h : 0 ≤ k) : lastI f b nm (k + 1) = if f (b + k) = nm then k else lastI f b nm k := by
  unfold lastI
  rw [show (k + 1).toNat = k.toNat + 1 by omega]
  show (if f (b + (k.toNat : Nat)) = nm then ((k.toNat : Nat) : Int) else _) = _
  rw [show ((k.toNat : Nat) : Int) = k by omega]
/-- the same, moved to its place b in the row; -6: none -/
def placeI (f : Int → Int) (b c nm k : Int) : Int := if lastI f b nm k < 0 then -6 else c + lastI f b nm k
theorem placeI_s (f : Int → Int) (b c nm k : Int) (h : 0 ≤ k) : placeI f b c nm (k + 1) = if f (b + k) = nm then c + k else placeI f b c nm k := by
  unfold placeI
  rw [lastI_s f b nm k h]
  by_cases h1 : f (b + k) = nm
  · rw [if_pos h1, if_pos h1, if_neg (by omega)]
  · rw [if_neg h1, if_neg h1]
theorem pF_eq (M : Mem) (t nm : Int) : placeI (M 7) (6 * t) (6 * t) nm (M 6 t) = pF M t nm := rfl
theorem oM_eq (M : Mem) (t nm : Int) : placeI (M 11) (4 * t) 0 nm (M 10 t) = oM M t nm := by
  unfold placeI
  show (if oM M t nm < 0 then (-6 : Int) else 0 + oM M t nm) = oM M t nm
  rcases oM_rng M t nm with h | h
  · rw [if_pos (by omega), h]
  · rw [if_neg (by omega)]; omega
theorem pF_rng (M : Mem) (t nm : Int) : pF M t nm = -6 ∨ (6 * t ≤ pF M t nm ∧ pF M t nm < 6 * t + M 6 t ∧ M 7 (pF M t nm) = nm) := by
  unfold pF
  rcases oF_rng M t nm with h | ⟨h1, h2, h3⟩
  · rw [if_pos (by omega)]; exact Or.inl rfl
  · rw [if_neg (by omega)]; exact Or.inr ⟨by omega, by omega, h3⟩
