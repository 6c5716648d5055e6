/-! A TOUCH's tape and row only grow -/
def PM (σ τ : Mem) : Prop := (σ 30 0 ≤ τ 30 0 ∧ ∀ i : Int, 0 ≤ i → i < σ 30 0 → τ 31 i = σ 31 i) ∧ (σ 32 0 ≤ τ 32 0 ∧ ∀ i : Int, 0 ≤ i → i < σ 32 0 → τ 33 i = σ 33 i)
theorem PM.rf {σ : Mem} : PM σ σ := ⟨⟨Int.le_refl _, fun _ _ _ => rfl⟩, Int.le_refl _, fun _ _ _ => rfl⟩
theorem PM.trans {σ τ υ : Mem} (h : PM σ τ) (h1 : PM τ υ) : PM σ υ :=
  ⟨⟨Int.le_trans h.1.1 h1.1.1, fun i a b => (h1.1.2 i a (by have := h.1.1; omega)).trans (h.1.2 i a b)⟩, Int.le_trans h.2.1 h1.2.1, fun i a b => (h1.2.2 i a (by have := h.2.1; omega)).trans (h.2.2 i a b)⟩
theorem PM_o {σ τ : Mem} (h : ∀ k i : Int, 30 ≤ k → k ≤ 33 → τ k i = σ k i) : PM σ τ := by
  unfold PM
  rw [h 30 0 (by decide) (by decide), h 32 0 (by decide) (by decide)]
  exact ⟨⟨Int.le_refl _, fun i _ _ => h 31 i (by decide) (by decide)⟩, Int.le_refl _, fun i _ _ => h 33 i (by decide) (by decide)⟩
theorem PM_mu {σ : Mem} {k i v : Int} (h : k < 30 ∨ 33 < k) : PM σ (mu σ k i v) := PM_o fun u j a b => mu_ne (by omega)
theorem PM_onT {v : Int} {σ : Mem} : PM σ (onT v σ) := by
  refine ⟨⟨?_, fun i a b => ?_⟩, ?_, fun i a b => ?_⟩
  · rw [onT_30]; omega
  · unfold onT
    split
    · rw [mu_ne (by omega), mu_ne (by omega)]
    · rw [mu_ne (by omega)]
  · rw [onT_o (by decide) (by decide)]; exact Int.le_refl _
  · rw [onT_o (by decide) (by decide)]
theorem PM_rowP {t : Int} {σ : Mem} : PM σ (rowP t σ) := by
  refine ⟨⟨?_, fun i a b => ?_⟩, ?_, fun i a b => ?_⟩
  · rw [rowP_o (by decide) (by decide) (by decide)]; exact Int.le_refl _
  · rw [rowP_o (by decide) (by decide) (by decide)]
  · rw [rowP_32]; omega
  · unfold rowP
    rw [mu_ne (by omega), mu_ne (by omega), mu_ne (by omega)]
theorem PM_arE {n of : Int} {σ : Mem} : PM σ (arE n of σ).2 := PM.trans (PM_mu (k := 47) (by decide)) (PM_mu (k := 52) (by decide))
def GP (g : EvT) : Prop := ∀ (s : Bool) (x ob : Int) (σ : Mem), PM σ (g s x ob σ).2
theorem PM_seqF {g : EvT} (hg : GP g) (ob : Int) : ∀ (l : List Int) (σ : Mem), PM σ (seqF g ob l σ).2 := by
  intro l
  induction l with
  | nil => intro σ; exact PM.rf
  | cons x l ih =>
    intro σ
    unfold seqF
    split
    · exact (hg true x ob σ).trans (ih _)
    · exact hg true x ob σ
theorem PM_sbE {g : EvT} (hg : GP g) {t ob : Int} {q : Int × Mem} : PM q.2 (sbE g t ob q).2 := by
  unfold sbE
  split
  · split
    · exact PM.rf
    · exact PM_rowP.trans (hg false _ ob _)
  · exact PM.rf
theorem PM_sfE {q : Int × Mem} : PM q.2 (sfE q).2 := by
  unfold sfE
  split
  · exact PM_arE
  · exact PM.rf
theorem PM_stE {M : Mem} {g : EvT} (hg : GP g) {t ob : Int} {σ : Mem} : PM σ (stE M g t ob σ).2 := by
  unfold stE
  split
  · exact PM_arE
  · split
    · exact PM.rf
    · exact (PM_mu (k := 28) (by decide)).trans ((PM_seqF hg ob (LF M t) _).trans ((PM_sbE hg).trans (PM_sfE.trans (PM_mu (k := 28) (by decide)))))
theorem PM_thE {M σ : Mem} {k t n v : Int} : PM σ (thE M k t n v σ) := by
  unfold thE
  split
  · exact PM_onT
  · split
    · exact PM_onT
    · split
      · exact PM_mu (by decide)
      · exact PM.rf
theorem PM_acE {M : Mem} {g : EvT} (hg : GP g) {k t n v ob : Int} {σ : Mem} : PM σ (acE M g k t n v ob σ).2 := by
  unfold acE
  split
  · exact PM_arE
  · split
    · exact PM_arE
    · have hq : PM σ (if 0 ≤ STi M k t n then g true (STi M k t n) ob σ else (-6, σ)).2 := by
        split
        · exact hg _ _ _ _
        · exact PM.rf
      revert hq
      generalize (if 0 ≤ STi M k t n then g true (STi M k t n) ob σ else (-6, σ)) = q
      intro hq
      split
      · split
        · exact hq.trans (hg _ _ _ _)
        · exact hq.trans PM_thE
      · exact hq
theorem PM_tkE {M : Mem} {b fc i : Int} {q : Int × Mem} : PM q.2 (tkE M b fc i q).2 := by
  unfold tkE
  split
  · exact PM.rf
  · split
    · exact PM_onT
    · exact PM.rf
theorem PM_bdL {M : Mem} {g : EvT} (hg : GP g) {b ob : Int} : ∀ (k : Nat) (i fc : Int) (σ : Mem), PM σ (bdL M g b ob k i fc σ).2 := by
  intro k
  induction k with
  | zero => intro i fc σ; exact PM.rf
  | succ k ih =>
    intro i fc σ
    have h45 : PM σ (mu σ 45 0 (σ 45 0 + 1)) := PM_mu (by decide)
    have hA := h45.trans ((PM_acE (M := M) hg (k := M 13 (12 * b + i)) (t := M 14 (12 * b + i)) (n := M 15 (12 * b + i)) (v := M 16 (12 * b + i)) (ob := ob + 1)).trans (PM_tkE (M := M) (b := b) (fc := fc) (i := i)))
    unfold bdL
    split
    · exact PM.rf
    · split
      · exact h45.trans (ih _ _ _)
      · split
        · exact hA.trans (ih _ _ _)
        · exact hA
theorem PM_ev (M : Mem) : ∀ n : Nat, GP (ev M n) := by
  intro n
  induction n with
  | zero => intro s x ob σ; exact PM.rf
  | succ n ih =>
    intro s x ob σ
    cases s with
    | true => exact PM_stE ih
    | false =>
      show PM σ (bdE M (ev M n) x ob σ).2
      unfold bdE
      split
      · exact PM.rf
      · exact (PM_mu (k := 46) (by decide)).trans (PM_bdL ih _ _ _ _)
theorem PM_beg {σ : Mem} : PM σ (beg σ) := PM_o fun k i a b => by
  unfold beg
  rw [mu_ne (by omega), mu_ne (by omega), mu_ne (by omega), mu_ne (by omega), mu_ne (by omega)]
theorem PM_tE {M σ : Mem} {k t n v : Int} : PM σ (tE M k t n v σ).2 := PM_beg.trans (PM_acE (PM_ev M 100))
/-- how far the world x of the reference is -/
def vw (M : Mem) (x : Int) : Mem := fun k i => if k = 28 then M 28 (40 * x + i) else if k = 29 then M 29 (240 * x + i) else if k = 30 then M 30 x else if k = 31 then M 31 (300 * x + i) else if k = 32 then M 32 x else if k = 33 then M 33 (40 * x + i) else 0
theorem WrT_vw {M : Mem} {x W : Int} {μ : Mem} : WrT M (vw M x) W μ ↔ WrC M x W μ := Iff.rfl
theorem V_WF {Γ : GC} {α0 : Sh} {ad0 : Ad} {Z : ZT} {R : Room} {own : String} {cc : ByteArray} {nL : Nat} {ret : Option FieldType} {nm : String} {pc : Nat} {st lv : List AV} {α : Sh} {μ : Mem} {cs sl : Nat} (k : WFm α μ → V Γ α0 ad0 Z R own cc nL ret nm pc st lv α μ cs sl) : V Γ α0 ad0 Z R own cc nL ret nm pc st lv α μ cs sl :=
  fun p e s m args below meth c ad H ls locs F hH => k hH.2 p e s m args below meth c ad H ls locs F hH
theorem WFm_int {α αc : Sh} {μ μ1 : Mem} (h0 : WFm α μ) (h1 : WFm αc μ1) (hα : ∀ u, (α u).1 ≠ 0 → αc u = α u) (f : ∀ (t : Int) (i : Nat), (α t).1 ≠ 0 → μ1 t i = μ t i ∨ ek (α t).1 i ≤ 2) : WFm α μ1 := by
  intro t i ht
  rcases f t i ht with h | h
  · rw [h]; exact h0 t i ht
  · have := h1 t i (by rw [hα t ht]; exact ht)
    rw [hα t ht] at this
    revert this h
    generalize ek (α t).1 i = k
    intro h this
    match k, h, this with
    | 0, _, this => exact this
    | 1, _, this => exact this
    | 2, _, this => exact this
/-- the notes hold no references -/
theorem scr_int {M : Mem} {α : Sh} {μ : Mem} (D : DesR M α μ) {t : Int} {i : Nat} (h : scr t i) (ht : (α t).1 ≠ 0) : ek (α t).1 i ≤ 2 := by
  rcases h with h | h | h | ⟨h, h1⟩ | ⟨h, h1⟩
  · subst h; rw [D.1.1.2.2.1]; exact (show (0 : Nat) ≤ 2 by decide)
  · subst h; rw [D.1.1.2.2.2.1]; exact (show (0 : Nat) ≤ 2 by decide)
  · subst h; rw [D.1.1.2.2.2.2]; exact (show (2 : Nat) ≤ 2 by decide)
  · subst h; rw [D.1.1.1]
    rcases h1 with h1 | h1
    · have : i = 4 := by omega
      subst this; decide
    · have : i = 5 := by omega
      subst this; decide
  · have hn : t < tk (M 0 0) := by
      rcases (show t < tk (M 0 0) ∨ tk (M 0 0) ≤ t by omega) with q | q
      · exact q
      · exact absurd (D.2.2.2.2.2 t q) ht
    unfold tk at hn
    have hu := D.2.2.1 (t / 1000 - 1) (by omega) (by omega)
    have hy := hu.2.1.1
    rcases h1 with h1 | ⟨h1, h2⟩
    · have e : t = tk (t / 1000 - 1) + 7 := by unfold tk; omega
      rw [e, hy.2.2.2.2.2.2.2]; exact (show (0 : Nat) ≤ 2 by decide)
    · have e : t = tk (t / 1000 - 1) := by unfold tk; omega
      have e2 : i = 13 := by omega
      rw [e, e2, hy.1]; decide
