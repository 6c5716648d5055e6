/-- what is asked where a start or a body begins in the reference's machine -/
def PRr (B : Int) (M0 : Mem) (n : Nat) (ob f : Int) (σ : Mem) : Prop := (0 ≤ ob ∧ ob ≤ 30) ∧ (1 ≤ f ∧ f + (30 - ob) + Un M0 σ ≤ 75) ∧ (30 - ob) + Un M0 σ + 1 ≤ n ∧ INV B M0 σ ∧ σ 47 0 ≤ 40 ∧ (0 ≤ B ∧ B ≤ 2000000000) ∧ slk B 0 σ
def HDm (M0 : Mem) (x f ob : Int) (M σ : Mem) : Prop := RSg M0 x M σ ∧ M 38 0 = f ∧ M 44 0 = ob ∧ M 49 0 = 0 ∧ M 50 0 = 0
def SIMs (G : Mem → Prop) (B : Int) (M0 : Mem) (x : Int) (n : Nat) : Prop := ∀ (t f ob : Int) (M σ : Mem), (0 ≤ t ∧ t < M0 0 0) → HDm M0 x f ob M σ → PRr B M0 n ob f σ → (∀ M1, ENDq M0 x f ob M (ev M0 n true t ob σ) M1 → G M1) → G (startM t M)
def SIMb (G : Mem → Prop) (B : Int) (M0 : Mem) (x : Int) (n : Nat) : Prop := ∀ (b f ob : Int) (M σ : Mem), (0 ≤ b ∧ b < 200) → HDm M0 x f ob M σ → PRr B M0 n ob f σ → (∀ M1, ENDq M0 x f ob M (ev M0 n false b ob σ) M1 → G M1) → G (pushM b M)
theorem RG_of {B x f ob : Int} {M0 M σ : Mem} (hx : 0 ≤ x ∧ x ≤ 12) (h : RSg M0 x M σ) (hi : INV B M0 σ) (hB : 0 ≤ B ∧ B ≤ 2000000000) (h38 : M 38 0 = f) (h44 : M 44 0 = ob) (hf : 0 ≤ f ∧ f ≤ 99) (hob : 0 ≤ ob ∧ ob ≤ 30) : RG M := by
  have a4 := h.1.2.2.2.1
  have c30 := h.2.2.2.1.1
  have c47 := h.2.2.2.2.2.2.2.1
  have hi2 := hi.2.2.2
  unfold RG
  rw [a4, c30, c47, h38, h44]
  exact ⟨hx, hf, ⟨by omega, by omega⟩, ⟨by omega, by omega⟩, by omega, by omega⟩
