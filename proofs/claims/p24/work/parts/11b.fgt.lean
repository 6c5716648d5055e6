/-- a row of locals with some of them forgotten -/
def fgt : List AV → List AV → Prop
  | [], [] => True
  | v :: r, u :: q => (v = u ∨ v.1 = 9) ∧ fgt r q
  | _, _ => False
theorem fgt_at : ∀ (l1 l : List AV), fgt l1 l → ∀ (i : Nat) (v : AV), l1[i]? = some v → v.1 ≠ 9 → l[i]? = some v := by
  intro l1
  induction l1 with
  | nil => intro l _ i v h; simp at h
  | cons a r ih =>
    intro l h i v hv h9
    cases l with
    | nil => exact absurd h id
    | cons b q =>
      cases i with
      | zero =>
        simp at hv ⊢
        rcases h.1 with h1 | h1
        · rw [← h1]; exact hv
        · rw [hv] at h1; exact absurd h1 h9
      | succ j =>
        simp at hv ⊢
        exact ih q h.2 j v hv h9
theorem V_fgt {Γ : GC} {α0 : Sh} {ad0 : Ad} {Z : ZT} {R : Room} {own : String} {cc : ByteArray} {nL : Nat} {ret : Option FieldType} {nm : String} {pc : Nat} {st lv : List AV} {α : Sh} {μ : Mem} {cs sl : Nat} (lv1 : List AV) (h : fgt lv1 lv) (k : V Γ α0 ad0 Z R own cc nL ret nm pc st lv1 α μ cs sl) : V Γ α0 ad0 Z R own cc nL ret nm pc st lv α μ cs sl := by
  intro p e s m args below meth c ad H ls locs F hH hE hst hlv hl hS
  refine k p e s m args below meth c ad H ls locs F hH hE hst (fun v hv => ?_) ⟨hl.1, hl.2.1, fun q hq => ?_⟩ hS
  · by_cases h9 : v.1 = 9
    · obtain ⟨k, x⟩ := v
      cases h9
      trivial
    · obtain ⟨i, hi⟩ := List.mem_iff_getElem?.mp hv
      exact hlv v (List.mem_of_getElem? (fgt_at _ _ h i v hi h9))
  · obtain ⟨i, v, e1, e2, rfl⟩ := asc_of _ _ _ hq
    have h1 := asc_mem (ad := ad) lv 0 i v (fgt_at _ _ h i v e1 e2) e2
    exact hl.2.2 _ h1
theorem loop1 {A : Type} (G : A → Prop) (ms : A → Nat) (I : A → Prop) (step : ∀ a, I a → (∀ a1, I a1 → ms a1 < ms a → G a1) → G a) : ∀ a, I a → G a := loop_wf G ms I step
theorem loop2 {A B : Type} (G : A → B → Prop) (ms : A → B → Nat) (I : A → B → Prop) (step : ∀ a b, I a b → (∀ a1 b1, I a1 b1 → ms a1 b1 < ms a b → G a1 b1) → G a b) : ∀ a b, I a b → G a b := fun a b => loop_wf (fun s : A × B => G s.1 s.2) (fun s => ms s.1 s.2) (fun s => I s.1 s.2) (fun s h ih => step s.1 s.2 h (fun a1 b1 h1 h2 => ih (a1, b1) h1 h2)) (a, b)
theorem loop3 {A B D : Type} (G : A → B → D → Prop) (ms : A → B → D → Nat) (I : A → B → D → Prop) (step : ∀ a b c, I a b c → (∀ a1 b1 c1, I a1 b1 c1 → ms a1 b1 c1 < ms a b c → G a1 b1 c1) → G a b c) : ∀ a b c, I a b c → G a b c := fun a b c => loop_wf (fun s : A × B × D => G s.1 s.2.1 s.2.2) (fun s => ms s.1 s.2.1 s.2.2) (fun s => I s.1 s.2.1 s.2.2) (fun s h ih => step s.1 s.2.1 s.2.2 h (fun a1 b1 c1 h1 h2 => ih (a1, b1, c1) h1 h2)) (a, b, c)
theorem loop4 {A B D E : Type} (G : A → B → D → E → Prop) (ms : A → B → D → E → Nat) (I : A → B → D → E → Prop) (step : ∀ a b c e, I a b c e → (∀ a1 b1 c1 e1, I a1 b1 c1 e1 → ms a1 b1 c1 e1 < ms a b c e → G a1 b1 c1 e1) → G a b c e) : ∀ a b c e, I a b c e → G a b c e := fun a b c e => loop_wf (fun s : A × B × D × E => G s.1 s.2.1 s.2.2.1 s.2.2.2) (fun s => ms s.1 s.2.1 s.2.2.1 s.2.2.2) (fun s => I s.1 s.2.1 s.2.2.1 s.2.2.2) (fun s h ih => step s.1 s.2.1 s.2.2.1 s.2.2.2 h (fun a1 b1 c1 e1 h1 h2 => ih (a1, b1, c1, e1) h1 h2)) (a, b, c, e)
