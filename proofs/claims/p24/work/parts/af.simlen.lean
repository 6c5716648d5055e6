/-! BOTH TOUCHES: how many a start starts ahead of its body -/
def LNs (M : Mem) (C : Nat) (s : St) : Prop := (∀ x : Int, s.1 x = 0 ∨ s.1 x = 1) ∧ s.2.length + cntz s.1 (M 0 0).toNat ≤ C
theorem po_len {M : Mem} (w : WFD M) : ∀ (h C : Nat) (f : Int) (s : St), 0 ≤ f → f < M 0 0 → LNs M C s → LNs M C (po M h f s) := by
  intro h
  induction h with
  | zero => intro C f s _ _ hs; exact hs
  | succ h ih =>
    intro C f s f0 f1 hs
    have hj : ∀ (D j : Nat) (s : St), (∀ (f : Int) (s : St), 0 ≤ f → f < M 0 0 → LNs M D s → LNs M D (po M h f s)) → j ≤ (M 4 f).toNat → LNs M D s → LNs M D (pof (po M h) M f j s) := by
      intro D j
      induction j with
      | zero => intro s _ _ hs; exact hs
      | succ j ihj =>
        intro s hi hj hs
        have hf := w.face f (M 4 f - 1 - j) f0 f1 (by omega) (by omega)
        exact ihj _ hi (by omega) (hi _ s hf.1 hf.2.1 hs)
    unfold po
    split
    · exact hs
    · rename_i hn
      have hz : s.1 f = 0 := (hs.1 f).resolve_right hn
      have hc := cntz_up (n := (M 0 0).toNat) hz f0 (by omega)
      have hup : LNs M (C - 1) (up1 s.1 f, s.2) := by
        refine ⟨fun x => ?_, ?_⟩
        · show up1 s.1 f x = 0 ∨ up1 s.1 f x = 1
          by_cases hx : x = f
          · rw [hx]; exact Or.inr (up1_s _ _)
          · rw [up1_n _ hx]; exact hs.1 x
        · have := hs.2
          show s.2.length + cntz (up1 s.1 f) (M 0 0).toNat ≤ C - 1
          omega
      have hC : 1 ≤ C := by have := hs.2; omega
      have h1 := hj (C - 1) (M 4 f).toNat (up1 s.1 f, s.2) (fun f s a b c => ih (C - 1) f s a b c) (Nat.le_refl _) hup
      unfold emitF
      split
      · refine ⟨h1.1, ?_⟩
        have := h1.2
        show ((pof (po M h) M f (M 4 f).toNat (up1 s.1 f, s.2)).2 ++ [f]).length + cntz (pof (po M h) M f (M 4 f).toNat (up1 s.1 f, s.2)).1 (M 0 0).toNat ≤ C
        rw [List.length_append, List.length_singleton]
        omega
      · exact ⟨h1.1, by have := h1.2; omega⟩
theorem LF_len {M : Mem} (w : WFD M) {t : Int} (t0 : 0 ≤ t) (t1 : t < M 0 0) : (LF M t).length ≤ 41 := by
  unfold LF
  split
  · exact Nat.zero_le _
  · have hj : ∀ (j : Nat) (s : St), j ≤ (M 4 t).toNat → LNs M 41 s → LNs M 41 (pof (PO M) M t j s) := by
      intro j
      induction j with
      | zero => intro s _ hs; exact hs
      | succ j ihj =>
        intro s hj hs
        have hf := w.face t (M 4 t - 1 - j) t0 t1 (by omega) (by omega)
        exact ihj _ (by omega) (po_len w 41 41 _ s hf.1 hf.2.1 hs)
    have h0 : LNs M 41 (fun _ => 0, if M 3 t < 0 then [] else [M 3 t]) := by
      refine ⟨fun _ => Or.inl rfl, ?_⟩
      have h1 := cntz_le (fun _ => (0 : Int)) (M 0 0).toNat
      have h2 : (if M 3 t < 0 then ([] : List Int) else [M 3 t]).length ≤ 1 := by split <;> simp
      have := w.n
      show (if M 3 t < 0 then ([] : List Int) else [M 3 t]).length + cntz (fun _ => (0 : Int)) (M 0 0).toNat ≤ 41
      omega
    have h := (hj _ _ (Nat.le_refl _) h0).2
    unfold LPs
    omega
