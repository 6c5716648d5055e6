/-! A TOUCH's answers: a start answers no THROWN number; what 52 holds beside an answer -/
theorem arE_1 {n of : Int} {σ : Mem} : (arE n of σ).1 = n ∨ (arE n of σ).1 = 23 := by
  unfold arE
  show (if 40 < σ 47 0 + 1 then 23 else n) = n ∨ (if 40 < σ 47 0 + 1 then 23 else n) = 23
  split
  · exact Or.inr rfl
  · exact Or.inl rfl
theorem sfE_20 {q : Int × Mem} : ¬ (0 ≤ (sfE q).1 ∧ (sfE q).1 < 20) := by
  unfold sfE
  split
  · have := arE_1 (n := 20) (of := q.1) (σ := q.2); omega
  · assumption
theorem ev_20 {M : Mem} {n : Nat} {t ob : Int} {σ : Mem} : ¬ (0 ≤ (ev M n true t ob σ).1 ∧ (ev M n true t ob σ).1 < 20) := by
  cases n with
  | zero => rintro ⟨-, h⟩; exact absurd h (show ¬ (23 : Int) < 20 by decide)
  | succ n =>
    show ¬ (0 ≤ (stE M (ev M n) t ob σ).1 ∧ (stE M (ev M n) t ob σ).1 < 20)
    unfold stE
    split
    · have := arE_1 (n := 21) (of := t) (σ := σ); omega
    · split
      · rintro ⟨h, -⟩; exact no6 h
      · exact sfE_20
def P52 (q : Int × Mem) : Prop := 0 ≤ q.1 → q.1 ≤ 22 → (q.1 < 20 ∨ q.1 = 22) → q.2 52 0 = -6
theorem P52_n {σ : Mem} : P52 (-6, σ) := fun h => no6 h
theorem P52_o {σ : Mem} : P52 (23, σ) := fun _ (h : (23 : Int) ≤ 22) => absurd h (by decide)
theorem P52_ar {n of : Int} {σ : Mem} (h : n = 20 ∨ n = 21 ∨ of = -6) : P52 (arE n of σ) := by
  intro h0 h1 h2
  have := arE_1 (n := n) (of := of) (σ := σ)
  have e : (arE n of σ).2 52 0 = of := by
    unfold arE
    show mu (mu σ 47 0 (σ 47 0 + 1)) 52 0 of 52 0 = of
    rw [mu_s]
  rw [e]
  omega
def G52 (g : EvT) : Prop := ∀ (s : Bool) (x ob : Int) (σ : Mem), P52 (g s x ob σ)
theorem P52_seqF {g : EvT} (hg : G52 g) (ob : Int) : ∀ (l : List Int) (σ : Mem), P52 (seqF g ob l σ) := by
  intro l
  induction l with
  | nil => intro σ; exact P52_n
  | cons x l ih =>
    intro σ
    unfold seqF
    split
    · exact ih _
    · exact hg true x ob σ
theorem P52_stE {M : Mem} {g : EvT} (hg : G52 g) {t ob : Int} {σ : Mem} : P52 (stE M g t ob σ) := by
  unfold stE
  split
  · exact P52_ar (Or.inr (Or.inl rfl))
  · split
    · exact P52_n
    · have hs : P52 (sfE (sbE g t ob (seqF g ob (LF M t) (mu σ 28 t 1)))) := by
        have hb : P52 (sbE g t ob (seqF g ob (LF M t) (mu σ 28 t 1))) := by
          have hq := P52_seqF hg ob (LF M t) (mu σ 28 t 1)
          revert hq
          generalize seqF g ob (LF M t) (mu σ 28 t 1) = q
          intro hq
          unfold sbE
          split
          · split
            · exact P52_o
            · exact hg false _ ob _
          · exact hq
        unfold sfE
        split
        · exact P52_ar (Or.inl rfl)
        · exact hb
      revert hs
      generalize sfE (sbE g t ob (seqF g ob (LF M t) (mu σ 28 t 1))) = q
      intro hs h0 h1 h2
      have := hs h0 h1 h2
      show mu q.2 28 t (if q.1 = -6 then 2 else 3) 52 0 = -6
      rw [mu_ne (by omega)]
      exact this
theorem P52_acE {M : Mem} {g : EvT} (hg : G52 g) {k t n v ob : Int} {σ : Mem} : P52 (acE M g k t n v ob σ) := by
  unfold acE
  split
  · exact P52_ar (Or.inr (Or.inr rfl))
  · split
    · exact P52_ar (Or.inr (Or.inr rfl))
    · have hq : P52 (if 0 ≤ STi M k t n then g true (STi M k t n) ob σ else (-6, σ)) := by
        split
        · exact hg _ _ _ _
        · exact P52_n
      revert hq
      generalize (if 0 ≤ STi M k t n then g true (STi M k t n) ob σ else (-6, σ)) = q
      intro hq
      split
      · split
        · exact hg _ _ _ _
        · exact P52_n
      · exact hq
theorem P52_tkE {M : Mem} {b fc i : Int} {q : Int × Mem} (h : P52 q) : P52 (tkE M b fc i q) := by
  unfold tkE
  split
  · exact h
  · split
    · exact P52_n
    · exact h
theorem P52_bdL {M : Mem} {g : EvT} (hg : G52 g) {b ob : Int} : ∀ (k : Nat) (i fc : Int) (σ : Mem), P52 (bdL M g b ob k i fc σ) := by
  intro k
  induction k with
  | zero => intro i fc σ; exact P52_n
  | succ k ih =>
    intro i fc σ
    unfold bdL
    split
    · exact P52_o
    · split
      · exact ih _ _ _
      · split
        · exact ih _ _ _
        · exact P52_tkE (P52_acE hg)
theorem ev_52 (M : Mem) : ∀ n : Nat, G52 (ev M n) := by
  intro n
  induction n with
  | zero => intro s x ob σ; exact P52_o
  | succ n ih =>
    intro s x ob σ
    cases s with
    | true => exact P52_stE ih
    | false =>
      show P52 (bdE M (ev M n) x ob σ)
      unfold bdE
      split
      · exact P52_o
      · exact P52_bdL ih _ _ _ _
theorem tE_52 {M σ : Mem} {k t n v : Int} : P52 (tE M k t n v σ) := P52_acE (ev_52 M 100)
