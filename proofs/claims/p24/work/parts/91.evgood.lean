theorem slk_1 {B e : Int} {σ : Mem} (h : slk B (e + 1) σ) : slk B e σ := by unfold slk at h ⊢; omega
theorem GD.mono {B e : Int} {M σ : Mem} {q : Int × Mem} (h : GD B (e + 1) M σ q) : GD B e M σ q :=
  ⟨h.1, h.2.1, h.2.2.1, h.2.2.2.1, fun a => ⟨(h.2.2.2.2.1 a).1, slk_1 (h.2.2.2.2.1 a).2⟩, fun a b => slk_1 (h.2.2.2.2.2 a b)⟩
theorem GD_over {B e : Int} {M σ : Mem} (hi : INV B M σ) : GD B e M σ (23, σ) :=
  ⟨hi, Int.le_refl _, Int.le_refl _, Or.inr ⟨show (0 : Int) ≤ 23 by decide, show (23 : Int) ≤ 23 by decide⟩, fun a => absurd rfl a, fun _ (b : (23 : Int) ≤ 22) => absurd b (by decide)⟩
theorem GD_none {B e : Int} {M σ : Mem} (hi : INV B M σ) (h47 : σ 47 0 ≤ 40) (hs : slk B e σ) : GD B e M σ (-6, σ) :=
  ⟨hi, Int.le_refl _, Int.le_refl _, Or.inl rfl, fun _ => ⟨h47, hs⟩, no6⟩
theorem acE_gd {B e k t n v ob : Int} {M σ : Mem} {g : EvT} (w : WFD M) (hg : GOOD B M g) (hk : 1 ≤ k → k ≤ 6 → 0 ≤ t ∧ t < M 0 0) (h7 : k = 7 → 0 ≤ v ∧ v ≤ 22) (h0 : 0 ≤ ob) (he : 0 ≤ e) (hi : INV B M σ) (h47 : σ 47 0 ≤ 40) (hs : slk B (e + 1) σ) : GD B e M σ (acE M g k t n v ob σ) := by
  unfold acE
  split
  · rename_i k7
    exact arE_gd (h7 k7) hi h47 (slk_1 hs)
  · split
    · exact arE_gd ⟨by decide, by decide⟩ hi h47 (slk_1 hs)
    · rename_i k7 hr
      have hq : GD B (e + 1) M σ (if 0 ≤ STi M k t n then g true (STi M k t n) ob σ else (-6, σ)) := by
        split
        · rename_i hp
          rcases STi_rng w (k := k) (t := t) (n := n) hk with h | h
          · exact absurd hp (by omega)
          · exact hg true _ ob (e + 1) σ (fun _ => h) (fun a => absurd a (by decide)) h0 (by omega) hi h47 hs
        · exact GD_none hi h47 hs
      revert hq
      generalize (if 0 ≤ STi M k t n then g true (STi M k t n) ob σ else (-6, σ)) = q
      intro hq
      split
      · rename_i h6
        have h5 := hq.2.2.2.2.1 (by rw [h6]; decide)
        split
        · rename_i k3
          subst k3
          have ht := hk (by decide) (by decide)
          have hf : ¬ FM M n t < 0 := fun a => hr (by rw [RUi_3, if_pos a])
          rcases FM_rng (nm := n) w ht.2 with h | ⟨u, u0, u1, u2, u3, u4⟩
          · exact absurd (show FM M n t < 0 by omega) hf
          · have := w.cnt u u0 (by have := w.n; omega)
            have := w.n
            exact (hg false (FM M n t) ob e q.2 (fun a => absurd a (by decide)) (fun _ => by omega) h0 he hq.1 h5.1 (slk_1 h5.2)).trans hq.2.1 hq.2.2.1
        · exact (thE_gd hq.1 he h5.1 h5.2).trans hq.2.1 hq.2.2.1
      · exact hq.mono
theorem tkE_gd {B e b fc i : Int} {M σ : Mem} {q : Int × Mem} (he : 0 ≤ e) (h : GD B e M σ q) : GD B e M σ (tkE M b fc i q) := by
  unfold tkE
  split
  · exact h
  · rename_i hn
    split
    · obtain ⟨h1, h2, h3, h4, h5, h6⟩ := h
      have h6' := h6 (by omega) (by omega)
      have h5' := h5 (by omega)
      have ho := onT_inv (v := 1000 + q.1) h1 he h6'
      refine ⟨ho.1, ?_, ?_, Or.inl rfl, fun _ => ⟨?_, ho.2.1⟩, no6⟩
      · rw [Un_same ho.2.2]; exact h2
      · rw [Un_same ho.2.2]; show onT (1000 + q.1) q.2 32 0 + _ ≤ _; rw [onT_o (by decide) (by decide)]; exact h3
      · show onT (1000 + q.1) q.2 47 0 ≤ 40; rw [onT_o (by decide) (by decide)]; exact h5'.1
    · exact h
theorem act45_inv {B e : Int} {M σ : Mem} (hi : INV B M σ) (h : σ 45 0 < 1000) (hs : slk B e σ) : INV B M (mu σ 45 0 (σ 45 0 + 1)) ∧ slk B (e + 1) (mu σ 45 0 (σ 45 0 + 1)) ∧ ∀ k : Int, k ≠ 45 → mu σ 45 0 (σ 45 0 + 1) k = σ k := by
  have o : ∀ k : Int, k ≠ 45 → mu σ 45 0 (σ 45 0 + 1) k = σ k := fun k h => mu_f _ _ _ _ h
  obtain ⟨i1, i2, i3, i4, i5, i6, i7, i8⟩ := hi
  refine ⟨⟨by rw [o 28 (by decide)]; exact i1, by rw [Un_same (o 28 (by decide)), o 32 (by decide)]; exact i2, by rw [o 48 (by decide), o 32 (by decide)]; exact i3, by rw [mu_s]; omega, by rw [o 47 (by decide)]; exact i5, by rw [o 46 (by decide)]; exact i6, by rw [o 30 (by decide)]; exact i7, by rw [o 30 (by decide), o 47 (by decide), mu_s]; omega⟩, ?_, o⟩
  unfold slk at hs ⊢
  rw [o 30 (by decide), o 47 (by decide), mu_s]
  omega
theorem bdL_gd {B b ob : Int} {M : Mem} {g : EvT} (w : WFD M) (hg : GOOD B M g) (hb : 0 ≤ b ∧ b < 200) (h0 : 0 ≤ ob) : ∀ (k : Nat) (i fc e : Int) (σ : Mem), 0 ≤ i → i + k ≤ M 12 b → 0 ≤ e → INV B M σ → σ 47 0 ≤ 40 → slk B e σ → GD B e M σ (bdL M g b ob k i fc σ) := by
  intro k
  induction k with
  | zero => intro i fc e σ _ _ he hi h47 hs; exact GD_none hi h47 hs
  | succ k ih =>
    intro i fc e σ i0 i1 he hi h47 hs
    unfold bdL
    split
    · exact GD_over hi
    · rename_i hm
      have ha := act45_inv hi (by omega) hs
      have hu : Un M (mu σ 45 0 (σ 45 0 + 1)) = Un M σ := Un_same (ha.2.2 28 (by decide))
      have h47' : mu σ 45 0 (σ 45 0 + 1) 47 0 ≤ 40 := by rw [ha.2.2 47 (by decide)]; exact h47
      have hrc : mu σ 45 0 (σ 45 0 + 1) 32 0 = σ 32 0 := by rw [ha.2.2 32 (by decide)]
      split
      · exact (ih (i + 1) fc e _ (by omega) (by omega) he ha.1 h47' (slk_1 ha.2.1)).trans (by omega) (by omega)
      · have hact := w.act b i hb.1 hb.2 i0 (by omega)
        have hA : GD B e M (mu σ 45 0 (σ 45 0 + 1)) (tkE M b fc i (acE M g (M 13 (12 * b + i)) (M 14 (12 * b + i)) (M 15 (12 * b + i)) (M 16 (12 * b + i)) (ob + 1) (mu σ 45 0 (σ 45 0 + 1)))) :=
          tkE_gd he (acE_gd w hg (fun a c => hact.2.1 a c) (fun a => by have := hact.2.2.2.1 a; omega) (by omega) he ha.1 h47' ha.2.1)
        split
        · rename_i h6
          have h5 := hA.2.2.2.2.1 (by rw [h6]; decide)
          exact ((ih (i + 1) (i + 1) e _ (by omega) (by omega) he hA.1 h5.1 h5.2).trans hA.2.1 hA.2.2.1).trans (by omega) (by omega)
        · exact hA.trans (by omega) (by omega)
theorem mu46_inv {B v : Int} {M σ : Mem} (hi : INV B M σ) (hv : 0 ≤ v ∧ v ≤ 30) : INV B M (mu σ 46 0 v) ∧ ∀ k : Int, k ≠ 46 → mu σ 46 0 v k = σ k := by
  have o : ∀ k : Int, k ≠ 46 → mu σ 46 0 v k = σ k := fun k h => mu_f _ _ _ _ h
  obtain ⟨i1, i2, i3, i4, i5, i6, i7, i8⟩ := hi
  exact ⟨⟨by rw [o 28 (by decide)]; exact i1, by rw [Un_same (o 28 (by decide)), o 32 (by decide)]; exact i2, by rw [o 48 (by decide), o 32 (by decide)]; exact i3, by rw [o 45 (by decide)]; exact i4, by rw [o 47 (by decide)]; exact i5, by rw [mu_s]; exact hv, by rw [o 30 (by decide)]; exact i7, by rw [o 30 (by decide), o 47 (by decide), o 45 (by decide)]; exact i8⟩, o⟩
theorem bdE_gd {B e b ob : Int} {M σ : Mem} {g : EvT} (w : WFD M) (hg : GOOD B M g) (hb : 0 ≤ b ∧ b < 200) (h0 : 0 ≤ ob) (he : 0 ≤ e) (hi : INV B M σ) (h47 : σ 47 0 ≤ 40) (hs : slk B e σ) : GD B e M σ (bdE M g b ob σ) := by
  unfold bdE
  split
  · exact GD_over hi
  · have hv : 0 ≤ (if σ 46 0 < ob + 1 then ob + 1 else σ 46 0) ∧ (if σ 46 0 < ob + 1 then ob + 1 else σ 46 0) ≤ 30 := by
      have := hi.2.2.2.2.2.1
      split <;> omega
    have hm := mu46_inv hi hv
    have hz := (w.size b hb.1 hb.2).1
    refine (bdL_gd w hg hb h0 _ 0 0 e _ (by decide) (by omega) he hm.1 (by rw [hm.2 47 (by decide)]; exact h47) ?_).trans (by rw [Un_same (hm.2 28 (by decide))]; exact Int.le_refl _) (by rw [Un_same (hm.2 28 (by decide)), hm.2 32 (by decide)]; exact Int.le_refl _)
    unfold slk at hs ⊢
    rw [hm.2 30 (by decide), hm.2 45 (by decide), hm.2 47 (by decide)]
    exact hs
theorem stE_gd {B e t ob : Int} {M σ : Mem} {g : EvT} (w : WFD M) (hg : GOOD B M g) (ht : 0 ≤ t ∧ t < M 0 0) (h0 : 0 ≤ ob) (he : 0 ≤ e) (hi : INV B M σ) (h47 : σ 47 0 ≤ 40) (hs : slk B e σ) : GD B e M σ (stE M g t ob σ) := by
  unfold stE
  split
  · exact arE_gd ⟨by decide, by decide⟩ hi h47 hs
  · split
    · exact GD_none hi h47 hs
    · rename_i _ hz
      have hz : σ 28 t = 0 := by omega
      have hm := mu28_inv (t := t) hi (v := 1) ⟨by decide, by decide⟩
      have hu := Un_set (M := M) ht.1 ht.2 hz
      have hs1 : slk B e (mu σ 28 t 1) := by
        unfold slk at hs ⊢
        rw [hm.2 30 (by decide), hm.2 45 (by decide), hm.2 47 (by decide)]
        exact hs
      have hF := seqF_gd hg h0 (LF M t) e (mu σ 28 t 1) (LF_all w ht.1 ht.2) he hm.1 (by rw [hm.2 47 (by decide)]; exact h47) hs1
      have h32 : mu σ 28 t 1 32 0 = σ 32 0 := by rw [hm.2 32 (by decide)]
      revert hF
      generalize seqF g ob (LF M t) (mu σ 28 t 1) = q
      intro hF
      apply seE_gd
      apply sfE_gd he
      unfold sbE
      split
      · rename_i h6
        have h5 := hF.2.2.2.2.1 (by rw [h6]; decide)
        have h33 := hF.2.2.1
        have h22 := hF.2.1
        have hb := hi.2.1.2
        split
        · exact (GD_over hF.1).trans (by omega) (by omega)
        · have hr := rowP_inv (t := t) hF.1 (by omega)
          have c28 : rowP t q.2 28 = q.2 28 := funext fun i => rowP_o (by decide) (by decide) (by decide)
          have := w.n
          refine (hg false (5 * t) ob e (rowP t q.2) (fun a => absurd a (by decide)) (fun _ => by omega) h0 he hr ?_ ?_).trans ?_ ?_
          · rw [rowP_o (by decide) (by decide) (by decide)]; exact h5.1
          · have := h5.2
            unfold slk at this ⊢
            rw [rowP_o (by decide) (by decide) (by decide), rowP_o (by decide) (by decide) (by decide), rowP_o (by decide) (by decide) (by decide)]
            exact this
          · rw [Un_same c28]; omega
          · rw [Un_same c28, rowP_32]; omega
      · exact hF.trans (by omega) (by omega)
theorem ev_good {B : Int} {M : Mem} (w : WFD M) : ∀ n : Nat, GOOD B M (ev M n) := by
  intro n
  induction n with
  | zero => intro s x ob e σ _ _ _ _ hi _ _; exact GD_over hi
  | succ n ih =>
    intro s x ob e σ h1 h2 h0 he hi h47 hs
    cases s with
    | true => exact stE_gd w ih (h1 rfl) h0 he hi h47 hs
    | false => exact bdE_gd w ih (h2 rfl) h0 he hi h47 hs
