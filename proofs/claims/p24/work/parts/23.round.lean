/-! WHAT IS ASKED FOR IN A ROUND -/
def aedge (M : Mem) (a b : Int) : Prop := 0 ≤ a ∧ a < M 0 0 ∧ b ∈ LA M a
abbrev AT (M : Mem) : Int → Int → Prop := Relation.TransGen (aedge M)
def asksS (M : Mem) (t i : Int) : Int := if 0 ≤ t ∧ t < M 0 0 then (if 0 ≤ i ∧ i < (LA M t).length then (LA M t).getD i.toNat 0 else -6) else -1
def RI (M : Mem) (t ex B n R : Int) (M1 : Mem) : Prop :=
  (∀ k : Int, k < 18 ∨ 27 < k → M1 k = M k) ∧ 0 ≤ n ∧ n + (cntz (M1 26) (M 0 0).toNat : Int) ≤ B ∧
  (∀ i : Int, 0 ≤ i → i < n → 0 ≤ M1 27 i ∧ M1 27 i < M 0 0 ∧ (M1 27 i = t ∨ AT M t (M1 27 i))) ∧
  (∀ x : Int, 0 ≤ x → x < M 0 0 → M1 26 x = 1 → AT M t x) ∧ (0 ≤ R ∧ R ≤ 1) ∧ (R = 1 → AT M t t) ∧
  (∀ x : Int, 0 ≤ x → x < M 0 0 → x ≠ ex → (x = t ∨ M1 26 x = 1) → (∃ i : Int, 0 ≤ i ∧ i < n ∧ M1 27 i = x) ∨ (∀ b ∈ LA M x, M1 26 b = 1 ∧ (b = t → R = 1)))
theorem RI_pop {M : Mem} {t B n m R x0 : Int} {M1 : Mem} (h : RI M t (-1) B n R M1) (hn : 0 < n) (hm : m = n - 1) (hx : M1 27 m = x0) : RI M t x0 (B - 1) m R M1 := by
  subst hm
  obtain ⟨h1, h2, h3, h4, h5, h6, h7, h8⟩ := h
  refine ⟨h1, by omega, by omega, fun i i0 i1 => h4 i i0 (by omega), h5, h6, h7, fun x x0' x1 xe xs => ?_⟩
  rcases h8 x x0' x1 (by omega) xs with ⟨i, i0, i1, i2⟩ | h9
  · by_cases hi : i = n - 1
    · subst hi
      exact absurd (i2.symm.trans hx) xe
    · exact Or.inl ⟨i, i0, by omega, i2⟩
  · exact Or.inr h9
theorem RI_step {M : Mem} {t ex B n R R1 : Int} {M1 : Mem} (h : RI M t ex B n R M1) (hb : 0 ≤ R1 ∧ R1 ≤ 1) (hr : R = 1 → R1 = 1) (ht : R1 = 1 → AT M t t) : RI M t ex B n R1 M1 := by
  obtain ⟨h1, h2, h3, h4, h5, h6, h7, h8⟩ := h
  refine ⟨h1, h2, h3, h4, h5, hb, ht, fun x x0 x1 xe xs => ?_⟩
  rcases h8 x x0 x1 xe xs with h9 | h9
  · exact Or.inl h9
  · exact Or.inr fun b hb => ⟨(h9 b hb).1, fun he => hr ((h9 b hb).2 he)⟩
theorem RI_push {M : Mem} {t ex B n R b : Int} {M1 M2 : Mem} (w : WFD M) (h : RI M t ex B n R M1) (b0 : 0 ≤ b) (b1 : b < M 0 0) (hz : M1 26 b = 0) (hT : AT M t b) (hf : ∀ k : Int, k < 18 ∨ 27 < k → M2 k = M k)
    (e1 : M2 26 b = 1) (e2 : ∀ x, x ≠ b → M2 26 x = M1 26 x) (e3 : M2 27 n = b) (e4 : ∀ i : Int, 0 ≤ i → i < n → M2 27 i = M1 27 i) : RI M t ex B (n + 1) R M2 ∧ cntz (M2 26) (M 0 0).toNat + 1 = cntz (M1 26) (M 0 0).toNat := by
  obtain ⟨h1, h2, h3, h4, h5, h6, h7, h8⟩ := h
  have hn := w.n
  have hcz := cntz_upd (f := M1 26) (g := M2 26) (i := b) hz (by rw [e1]; decide) (fun j hj => e2 j hj) (M 0 0).toNat b0 (by omega)
  refine ⟨⟨hf, by omega, by omega, fun i i0 i1 => ?_, fun x x0 x1 xs => ?_, h6, h7, fun x x0 x1 xe xs => ?_⟩, hcz⟩
  · by_cases hi : i = n
    · rw [hi, e3]; exact ⟨b0, b1, Or.inr hT⟩
    · rw [e4 i i0 (by omega)]; exact h4 i i0 (by omega)
  · by_cases hx : x = b
    · rw [hx]; exact hT
    · rw [e2 x hx] at xs; exact h5 x x0 x1 xs
  · by_cases hx : x = b
    · exact Or.inl ⟨n, h2, by omega, by rw [e3, hx]⟩
    · rw [e2 x hx] at xs
      rcases h8 x x0 x1 xe xs with ⟨i, i0, i1, i2⟩ | h9
      · exact Or.inl ⟨i, i0, by omega, by rw [e4 i i0 i1]; exact i2⟩
      · refine Or.inr fun c hc => ⟨?_, (h9 c hc).2⟩
        by_cases hcb : c = b
        · rw [hcb]; exact e1
        · rw [e2 c hcb]; exact (h9 c hc).1
theorem RI_close {M : Mem} {t x0 B B1 n R : Int} {M1 : Mem} (h : RI M t x0 B n R M1) (hB : B ≤ B1) (hs : ∀ b ∈ LA M x0, M1 26 b = 1 ∧ (b = t → R = 1)) : RI M t (-1) B1 n R M1 := by
  obtain ⟨h1, h2, h3, h4, h5, h6, h7, h8⟩ := h
  refine ⟨h1, h2, by omega, h4, h5, h6, h7, fun x x0' x1 xe xs => ?_⟩
  by_cases hx : x = x0
  · rw [hx]; exact Or.inr hs
  · exact h8 x x0' x1 hx xs
theorem RI_end {M : Mem} {t B n R : Int} {M1 : Mem} (w : WFD M) (h : RI M t (-1) B n R M1) (hn : n ≤ 0) (ht : 0 ≤ t ∧ t < M 0 0) : R = 1 ↔ AT M t t := by
  obtain ⟨h1, h2, h3, h4, h5, h6, h7, h8⟩ := h
  refine ⟨h7, fun hr => ?_⟩
  have sc : ∀ x, 0 ≤ x → x < M 0 0 → (x = t ∨ M1 26 x = 1) → ∀ b ∈ LA M x, M1 26 b = 1 ∧ (b = t → R = 1) := by
    intro x x0 x1 xs
    rcases h8 x x0 x1 (by omega) xs with ⟨i, i0, i1, -⟩ | h9
    · omega
    · exact h9
  have key : ∀ x, AT M t x → (0 ≤ x ∧ x < M 0 0) ∧ M1 26 x = 1 ∧ (x = t → R = 1) := by
    intro x hx
    induction hx with
    | single e => exact ⟨LA_all w e.1 e.2.1 _ e.2.2, sc t ht.1 ht.2 (Or.inl rfl) _ e.2.2⟩
    | tail _ e ih => exact ⟨LA_all w e.1 e.2.1 _ e.2.2, sc _ ih.1.1 ih.1.2 (Or.inr ih.2.1) _ e.2.2⟩
  exact (key t hr).2.2 rfl
/-- the i-th of the first n types, by numbers, of which p holds -/
noncomputable def nthP (p : Int → Prop) (i : Int) : Nat → Int
  | 0 => -6
  | n + 1 => if 0 ≤ nthP p i n then nthP p i n else @ite Int (p n ∧ (cntP p n : Int) = i) (Classical.propDecidable _) n (-6)
noncomputable def roundS (M : Mem) (i : Int) : Int := nthP (fun t => AT M t t) i (M 0 0).toNat
