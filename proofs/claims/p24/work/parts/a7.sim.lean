/-! BOTH TOUCHES: what the reference's memory holds of σ (world x; M0: its memory at the beginning) -/
/-- the description, the accounts, the touch's own action, the other worlds are the same -/
def KS (M0 : Mem) (x : Int) (M : Mem) : Prop := (∀ k : Int, 0 ≤ k → k ≤ 17 → M k = M0 k) ∧ (∀ k : Int, 34 ≤ k → k ≤ 36 → M k = M0 k) ∧ (∀ k : Int, 53 ≤ k → k ≤ 56 → M k = M0 k) ∧ M 37 0 = x ∧
  (∀ i : Int, ¬ (40 * x ≤ i ∧ i < 40 * x + 40) → M 28 i = M0 28 i ∧ M 33 i = M0 33 i) ∧ (∀ i : Int, ¬ (240 * x ≤ i ∧ i < 240 * x + 240) → M 29 i = M0 29 i) ∧ (∀ i : Int, i ≠ x → M 30 i = M0 30 i ∧ M 32 i = M0 32 i) ∧ (∀ i : Int, ¬ (300 * x ≤ i ∧ i < 300 * x + 300) → M 31 i = M0 31 i)
def RSg (M0 : Mem) (x : Int) (M σ : Mem) : Prop := KS M0 x M ∧ (∀ t : Int, 0 ≤ t → t < 40 → M 28 (40 * x + t) = σ 28 t) ∧ (∀ p : Int, 0 ≤ p → p < 240 → M 29 (240 * x + p) = σ 29 p) ∧
  (M 30 x = σ 30 0 ∧ ∀ i : Int, 0 ≤ i → i < σ 30 0 → i < 300 → M 31 (300 * x + i) = σ 31 i) ∧ (M 32 x = σ 32 0 ∧ ∀ i : Int, 0 ≤ i → i < σ 32 0 → M 33 (40 * x + i) = σ 33 i) ∧
  M 45 0 = σ 45 0 ∧ M 46 0 = σ 46 0 ∧ M 47 0 = σ 47 0 ∧ M 48 0 = σ 48 0
/-- the stack below f is the same -/
def BLW (f : Int) (M M1 : Mem) : Prop := ∀ j : Int, j < f → M1 39 j = M 39 j ∧ M1 40 j = M 40 j ∧ M1 41 j = M 41 j ∧ M1 42 j = M 42 j ∧ M1 43 j = M 43 j ∧ M1 57 j = M 57 j
/-- where the machine stands when the answer q has come, f frames and ob bodies being open -/
def ENDq (M0 : Mem) (x f ob : Int) (Mb : Mem) (q : Int × Mem) (M1 : Mem) : Prop :=
  (q.1 ≠ 23 ∧ M1 38 0 = f ∧ M1 44 0 = ob ∧ M1 49 0 = 0 ∧ RSg M0 x M1 q.2 ∧ BLW f Mb M1 ∧ ((q.1 = -6 ∧ M1 50 0 = 0) ∨ (0 ≤ q.1 ∧ M1 50 0 = 1 ∧ M1 51 0 = q.1 ∧ M1 52 0 = q.2 52 0))) ∨
  (q.1 = 23 ∧ M1 49 0 = 1 ∧ KS M0 x M1 ∧ M1 45 0 = q.2 45 0 ∧ M1 46 0 = q.2 46 0 ∧ (M1 47 0 = q.2 47 0 ∨ (M1 47 0 = 40 ∧ q.2 47 0 = 41)) ∧ M1 48 0 = q.2 48 0)
theorem BLW.rf {f : Int} {M : Mem} : BLW f M M := fun _ _ => ⟨rfl, rfl, rfl, rfl, rfl, rfl⟩
theorem BLW.trans {f : Int} {M M1 M2 : Mem} (h : BLW f M M1) (h1 : BLW f M1 M2) : BLW f M M2 := fun j hj => by
  have a := h j hj
  have b := h1 j hj
  exact ⟨b.1.trans a.1, b.2.1.trans a.2.1, b.2.2.1.trans a.2.2.1, b.2.2.2.1.trans a.2.2.2.1, b.2.2.2.2.1.trans a.2.2.2.2.1, b.2.2.2.2.2.trans a.2.2.2.2.2⟩
theorem BLW.le {f g : Int} {M M1 : Mem} (h : BLW f M M1) (hg : g ≤ f) : BLW g M M1 := fun j hj => h j (by omega)
theorem KS.sd {M0 M : Mem} {x : Int} (h : KS M0 x M) : SD M0 M := fun k a b => h.1 k a b
/-- a change of the machine's own registers alone -/
theorem RSg_c {M0 M M1 σ : Mem} {x : Int} (h : RSg M0 x M σ) (hm : ∀ k : Int, (0 ≤ k ∧ k ≤ 17) ∨ (28 ≤ k ∧ k ≤ 37) ∨ (45 ≤ k ∧ k ≤ 48) ∨ (53 ≤ k ∧ k ≤ 56) → M1 k = M k) : RSg M0 x M1 σ := by
  obtain ⟨⟨a1, a2, a3, a4, a5⟩, b⟩ := h
  unfold RSg KS
  rw [hm 28 (by decide), hm 29 (by decide), hm 30 (by decide), hm 31 (by decide), hm 32 (by decide), hm 33 (by decide), hm 37 (by decide), hm 45 (by decide), hm 46 (by decide), hm 47 (by decide), hm 48 (by decide)]
  exact ⟨⟨fun k p q => (hm k (by omega)).trans (a1 k p q), fun k p q => (hm k (by omega)).trans (a2 k p q), fun k p q => (hm k (by omega)).trans (a3 k p q), a4, a5⟩, b⟩
