/-! WHAT THE CALLS OF THE WORLDS ANSWER -/
abbrev isW (M : Mem) (w : Int) : Prop := 0 ≤ w ∧ w < M 17 0
abbrev isTy (M : Mem) (t : Int) : Prop := 0 ≤ t ∧ t < M 0 0
def WFW (M : Mem) : Prop := ∀ w : Int, 0 ≤ w → w ≤ 12 → 0 ≤ M 30 w ∧ 0 ≤ M 32 w ∧ M 32 w ≤ 40
def stateR (M : Mem) (w t : Int) : Int := if ¬ isW M w then -1 else if ¬ isTy M t then -1 else M 28 (40 * w + t)
def beganR (M : Mem) (w i : Int) : Int := if ¬ isW M w then -1 else if i = -1 then M 32 w else if 0 ≤ i ∧ i < M 32 w then M 33 (40 * w + i) else -6
def tapeR (M : Mem) (w i : Int) : Int := if ¬ isW M w then 0 else if i = -1 then M 30 w else if 0 ≤ i ∧ i < M 30 w ∧ i < 300 then M 31 (300 * w + i) else 0
def valueR (M : Mem) (w t nm : Int) : Int := if ¬ isW M w ∨ ¬ isTy M t ∨ ¬ (0 ≤ nm ∧ nm ≤ 9) then 0 else if FF M nm t < 0 then 0 else if M 8 (FF M nm t) = 1 then M 9 (FF M nm t) else M 29 (240 * w + FF M nm t)
def failedR (M : Mem) (w i : Int) : Int := if ¬ isW M w then -1 else if i = 0 then M 34 w else if i = 1 then M 35 w else -2
def spentR (M : Mem) (w x : Int) : Int := if ¬ isW M w then -1 else if 0 ≤ x ∧ x ≤ 3 then M 36 (4 * w + x) else -2
/-- how many of the first n places from b on hold s -/
def cntV (f : Int → Int) (b s : Int) : Nat → Nat
  | 0 => 0
  | n + 1 => cntV f b s n + (if f (b + n) = s then 1 else 0)
theorem cntV_s (f : Int → Int) (b s : Int) {t : Int} (h0 : 0 ≤ t) : cntV f b s (t + 1).toNat = cntV f b s t.toNat + (if f (b + t) = s then 1 else 0) := by
  rw [show (t + 1).toNat = t.toNat + 1 by omega]
  show cntV f b s t.toNat + (if f (b + (t.toNat : Nat)) = s then 1 else 0) = _
  rw [show ((t.toNat : Nat) : Int) = t by omega]
theorem cntV_le (f : Int → Int) (b s : Int) : ∀ n, cntV f b s n ≤ n := by
  intro n
  induction n with
  | zero => exact Nat.le_refl _
  | succ n ih => unfold cntV; split <;> omega
def manyR (M : Mem) (w s : Int) : Int := if ¬ isW M w then -1 else if ¬ (0 ≤ s ∧ s ≤ 3) then -2 else (cntV (M 28) (40 * w) s (M 0 0).toNat : Int)
/-- whether a type is another one in two worlds -/
def difT (M : Mem) (w u t : Int) : Prop := M 28 (40 * w + t) ≠ M 28 (40 * u + t) ∨ ∃ k : Int, 0 ≤ k ∧ k < M 6 t ∧ M 29 (240 * w + (6 * t + k)) ≠ M 29 (240 * u + (6 * t + k))
/-- r is the first number below n of which p holds; -6: none -/
def isFirst (p : Int → Prop) (n r : Int) : Prop := (r = -6 ∧ ∀ t : Int, 0 ≤ t → t < n → ¬ p t) ∨ (0 ≤ r ∧ r < n ∧ p r ∧ ∀ t : Int, 0 ≤ t → t < r → ¬ p t)
theorem isFirst_one {p : Int → Prop} {n r r1 : Int} (h : isFirst p n r) (h1 : isFirst p n r1) : r = r1 := by
  rcases h with ⟨rfl, h⟩ | ⟨a0, a1, a2, a3⟩
  · rcases h1 with ⟨rfl, h1⟩ | ⟨b0, b1, b2, b3⟩
    · rfl
    · exact absurd b2 (h r1 b0 b1)
  · rcases h1 with ⟨rfl, h1⟩ | ⟨b0, b1, b2, b3⟩
    · exact absurd a2 (h1 r a0 a1)
    · rcases (show r < r1 ∨ r = r1 ∨ r1 < r by omega) with h | h | h
      · exact absurd a2 (b3 r a0 h)
      · exact h
      · exact absurd b2 (a3 r1 b0 h)
theorem FF_b {M : Mem} {nm t : Int} (w : WFD M) (t0 : 0 ≤ t) (t1 : t < M 0 0) : FF M nm t = -6 ∨ (0 ≤ FF M nm t ∧ FF M nm t < 6 * M 0 0) := by
  rcases FF_rng (nm := nm) w t0 t1 with h | ⟨u, h1, h2, h3, h4, h5, h6⟩
  · exact Or.inl h
  · exact Or.inr ⟨by omega, by omega⟩
