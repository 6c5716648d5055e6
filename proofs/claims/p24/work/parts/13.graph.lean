/-! WAYS by ABOVE and UNDER in the description; what holds of a description; counting -/
def edge (M : Mem) (a b : Int) : Prop := 0 ≤ a ∧ a < M 0 0 ∧ ((b = M 3 a ∧ 0 ≤ b) ∨ ∃ k : Int, 0 ≤ k ∧ k < M 4 a ∧ b = M 5 (4 * a + k))
abbrev RT (M : Mem) : Int → Int → Prop := Relation.TransGen (edge M)
def RS (M : Mem) (a b : Int) : Prop := a = b ∨ RT M a b
theorem RS.tail {M : Mem} {a b c : Int} (h : RS M a b) (e : edge M b c) : RS M a c := by
  rcases h with h | h
  · subst h; exact Or.inr (.single e)
  · exact Or.inr (.tail h e)
theorem RT.of_RS {M : Mem} {a b c : Int} (h : RS M a b) (e : edge M b c) : RT M a c := by
  rcases h with h | h
  · subst h; exact .single e
  · exact .tail h e
theorem RS.trans {M : Mem} {a b c : Int} (h : RS M a b) (h1 : RS M b c) : RS M a c := by
  rcases h with h | h
  · subst h; exact h1
  · rcases h1 with h1 | h1
    · subst h1; exact Or.inr h
    · exact Or.inr (h.trans h1)
theorem RT.RS_l {M : Mem} {a b c : Int} (h : RS M a b) (h1 : RT M b c) : RT M a c := by
  rcases h with h | h
  · subst h; exact h1
  · exact h.trans h1
theorem RT.RS_r {M : Mem} {a b c : Int} (h : RT M a b) (h1 : RS M b c) : RT M a c := by
  rcases h1 with h1 | h1
  · subst h1; exact h
  · exact h.trans h1
/-- a set closed under the edges that holds a holds all that a leads to -/
theorem RS.closed {M : Mem} {P : Int → Prop} {a b : Int} (h : RS M a b) (ha : P a) (hc : ∀ x y, P x → edge M x y → P y) : P b := by
  rcases h with h | h
  · exact h ▸ ha
  · induction h with
    | single e => exact hc _ _ ha e
    | tail _ e ih => exact hc _ _ ih e
/-- the first step of a way -/
theorem RT.head {M : Mem} {a b : Int} (h : RT M a b) : ∃ c, edge M a c ∧ RS M c b := by
  induction h with
  | single e => exact ⟨_, e, Or.inl rfl⟩
  | tail _ e ih => obtain ⟨c, h1, h2⟩ := ih; exact ⟨c, h1, h2.tail e⟩
def ACT (M : Mem) (a : Int) : Prop := (0 ≤ M 13 a ∧ M 13 a ≤ 8) ∧ (1 ≤ M 13 a → M 13 a ≤ 6 → 0 ≤ M 14 a ∧ M 14 a < M 0 0) ∧ (1 ≤ M 13 a → M 13 a ≤ 3 → 0 ≤ M 15 a ∧ M 15 a ≤ 9) ∧ (M 13 a = 7 → 0 ≤ M 16 a ∧ M 16 a ≤ 19) ∧ (M 13 a = 8 → -1 ≤ M 16 a ∧ M 16 a ≤ 22)
/-- what always holds of the description -/
def WFD (M : Mem) : Prop :=
  (0 ≤ M 0 0 ∧ M 0 0 ≤ 40) ∧
  (∀ t : Int, 0 ≤ t → t < 40 → (0 ≤ M 4 t ∧ M 4 t ≤ 4) ∧ (0 ≤ M 6 t ∧ M 6 t ≤ 6) ∧ (0 ≤ M 10 t ∧ M 10 t ≤ 4)) ∧
  (∀ t : Int, 0 ≤ t → t < M 0 0 → -1 ≤ M 3 t ∧ M 3 t < t) ∧
  (∀ t k : Int, 0 ≤ t → t < M 0 0 → 0 ≤ k → k < M 4 t → 0 ≤ M 5 (4 * t + k) ∧ M 5 (4 * t + k) < M 0 0 ∧ M 1 (M 5 (4 * t + k)) = 1) ∧
  (∀ t k : Int, 0 ≤ t → t < M 0 0 → 0 ≤ k → k < M 6 t → 0 ≤ M 7 (6 * t + k) ∧ M 7 (6 * t + k) ≤ 9) ∧
  (∀ t k l : Int, 0 ≤ t → t < M 0 0 → 0 ≤ k → k < M 6 t → 0 ≤ l → l < M 6 t → M 7 (6 * t + k) = M 7 (6 * t + l) → k = l) ∧
  (∀ t k : Int, 0 ≤ t → t < M 0 0 → 0 ≤ k → k < M 10 t → 0 ≤ M 11 (4 * t + k) ∧ M 11 (4 * t + k) ≤ 9) ∧
  (∀ t k l : Int, 0 ≤ t → t < M 0 0 → 0 ≤ k → k < M 10 t → 0 ≤ l → l < M 10 t → M 11 (4 * t + k) = M 11 (4 * t + l) → k = l) ∧
  (∀ b : Int, 0 ≤ b → b < 200 → 0 ≤ M 12 b ∧ M 12 b ≤ 12) ∧
  (∀ b j : Int, 0 ≤ b → b < 200 → 0 ≤ j → j < M 12 b → ACT M (12 * b + j)) ∧
  (∀ t : Int, M 0 0 ≤ t → t < 40 → M 4 t = 0 ∧ M 6 t = 0 ∧ M 10 t = 0 ∧ M 12 (5 * t) = 0) ∧
  (∀ t m : Int, 0 ≤ t → t < 40 → M 10 t ≤ m → m < 4 → M 12 (5 * t + 1 + m) = 0) ∧
  (∀ t : Int, 0 ≤ t → t < M 0 0 → M 1 t = 1 → M 3 t = -1) ∧
  (0 ≤ M 17 0 ∧ M 17 0 ≤ 12) ∧
  (∀ t : Int, ¬ RT M t t)
theorem WFD.n {M : Mem} (h : WFD M) : 0 ≤ M 0 0 ∧ M 0 0 ≤ 40 := h.1
theorem WFD.cnt {M : Mem} (h : WFD M) (t : Int) (h0 : 0 ≤ t) (h1 : t < 40) : (0 ≤ M 4 t ∧ M 4 t ≤ 4) ∧ (0 ≤ M 6 t ∧ M 6 t ≤ 6) ∧ (0 ≤ M 10 t ∧ M 10 t ≤ 4) := h.2.1 t h0 h1
theorem WFD.above {M : Mem} (h : WFD M) (t : Int) (h0 : 0 ≤ t) (h1 : t < M 0 0) : -1 ≤ M 3 t ∧ M 3 t < t := h.2.2.1 t h0 h1
theorem WFD.face {M : Mem} (h : WFD M) (t k : Int) (h0 : 0 ≤ t) (h1 : t < M 0 0) (h2 : 0 ≤ k) (h3 : k < M 4 t) : 0 ≤ M 5 (4 * t + k) ∧ M 5 (4 * t + k) < M 0 0 ∧ M 1 (M 5 (4 * t + k)) = 1 := h.2.2.2.1 t k h0 h1 h2 h3
theorem WFD.fname {M : Mem} (h : WFD M) (t k : Int) (h0 : 0 ≤ t) (h1 : t < M 0 0) (h2 : 0 ≤ k) (h3 : k < M 6 t) : 0 ≤ M 7 (6 * t + k) ∧ M 7 (6 * t + k) ≤ 9 := h.2.2.2.2.1 t k h0 h1 h2 h3
theorem WFD.size {M : Mem} (h : WFD M) (b : Int) (h0 : 0 ≤ b) (h1 : b < 200) : 0 ≤ M 12 b ∧ M 12 b ≤ 12 := h.2.2.2.2.2.2.2.2.1 b h0 h1
theorem WFD.act {M : Mem} (h : WFD M) (b j : Int) (h0 : 0 ≤ b) (h1 : b < 200) (h2 : 0 ≤ j) (h3 : j < M 12 b) : ACT M (12 * b + j) := h.2.2.2.2.2.2.2.2.2.1 b j h0 h1 h2 h3
theorem WFD.acyc {M : Mem} (h : WFD M) (t : Int) : ¬ RT M t t := h.2.2.2.2.2.2.2.2.2.2.2.2.2.2 t
theorem WFD.w {M : Mem} (h : WFD M) : 0 ≤ M 17 0 ∧ M 17 0 ≤ 12 := h.2.2.2.2.2.2.2.2.2.2.2.2.2.1
theorem WFD_edge {M : Mem} (h : WFD M) {a b : Int} (e : edge M a b) : 0 ≤ b ∧ b < M 0 0 := by
  obtain ⟨h0, h1, ⟨h2, h3⟩ | ⟨k, h2, h3, h4⟩⟩ := e
  · have := h.above a h0 h1
    omega
  · have := h.face a k h0 h1 h2 h3
    rw [h4]
    exact ⟨this.1, this.2.1⟩
/-- two memories with the same description -/
def SD (M M1 : Mem) : Prop := ∀ k : Int, 0 ≤ k → k ≤ 17 → M1 k = M k
theorem SD.rf {M : Mem} : SD M M := fun _ _ _ => rfl
theorem SD.trans {M M1 M2 : Mem} (h : SD M M1) (h1 : SD M1 M2) : SD M M2 := fun k h0 h17 => (h1 k h0 h17).trans (h k h0 h17)
theorem SD_edge {M M1 : Mem} (h : SD M M1) : edge M1 = edge M := by
  funext a b
  unfold edge
  rw [h 0 (by decide) (by decide), h 3 (by decide) (by decide), h 4 (by decide) (by decide), h 5 (by decide) (by decide)]
theorem SD_WFD {M M1 : Mem} (h : SD M M1) (w : WFD M) : WFD M1 := by
  unfold WFD RT ACT at *
  rw [SD_edge h, h 0 (by decide) (by decide), h 1 (by decide) (by decide), h 3 (by decide) (by decide), h 4 (by decide) (by decide), h 5 (by decide) (by decide), h 6 (by decide) (by decide), h 7 (by decide) (by decide), h 10 (by decide) (by decide), h 11 (by decide) (by decide), h 12 (by decide) (by decide), h 13 (by decide) (by decide), h 14 (by decide) (by decide), h 15 (by decide) (by decide), h 16 (by decide) (by decide), h 17 (by decide) (by decide)]
  exact w
/-- how many of the first places hold 0 -/
def cntz (f : Int → Int) : Nat → Nat
  | 0 => 0
  | n + 1 => cntz f n + (if f n = 0 then 1 else 0)
theorem cntz_le (f : Int → Int) : ∀ n, cntz f n ≤ n := by
  intro n
  induction n with
  | zero => exact Nat.le_refl _
  | succ n ih => unfold cntz; split <;> omega
theorem cntz_congr {f g : Int → Int} : ∀ n : Nat, (∀ i : Int, 0 ≤ i → i < n → f i = g i) → cntz f n = cntz g n := by
  intro n
  induction n with
  | zero => intro _; rfl
  | succ n ih => intro h; unfold cntz; rw [ih (fun i h0 h1 => h i h0 (by omega)), h n (by omega) (by omega)]
theorem cntz_upd {f g : Int → Int} {i : Int} (hi : f i = 0) (hg : g i ≠ 0) (ho : ∀ j, j ≠ i → g j = f j) : ∀ n : Nat, 0 ≤ i → i < n → cntz g n + 1 = cntz f n := by
  intro n
  induction n with
  | zero => intro h0 h1; omega
  | succ n ih =>
    intro h0 h1
    unfold cntz
    by_cases h : i = n
    · rw [← h, if_pos hi, if_neg hg, cntz_congr (g := f) n (fun j h2 h3 => ho j (by omega))]
    · rw [ho n (by omega), ← ih h0 (by omega)]
      omega
