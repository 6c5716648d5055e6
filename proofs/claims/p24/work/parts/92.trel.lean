/-! THE CLASS'S TOUCH AT HAND: what its cells hold of σ (world W, Doing 150) -/
def WrT (M σ : Mem) (W : Int) (μ : Mem) : Prop :=
  (∀ t : Int, 0 ≤ t → t < 40 → μ (W + 1) t = σ 28 t) ∧
  (∀ t nm : Int, 0 ≤ t → t < M 0 0 → 0 ≤ nm → nm ≤ 9 → μ (W + 2) (10 * t + nm) = if 0 ≤ oF M t nm then σ 29 (6 * t + oF M t nm) else 0) ∧
  (μ W 3 = σ 30 0 ∧ ∀ i : Int, 0 ≤ i → i < σ 30 0 → i < 300 → μ (W + 3) i = σ 31 i) ∧
  μ W 5 = σ 32 0 ∧ ∀ i : Int, 0 ≤ i → i < σ 32 0 → μ (W + 4) i = σ 33 i
def DgT (σ : Mem) (W : Int) (α : Sh) (μ : Mem) : Prop := (α 150 = (4, 0) ∧ μ 150 0 = 110 ∧ μ 150 1 = W) ∧ μ 150 2 = σ 45 0 ∧ μ 150 3 = σ 46 0 ∧ μ 150 4 = σ 47 0 ∧ μ 150 5 = σ 48 0 ∧ μ 150 6 = σ 52 0
def TR (M σ : Mem) (W : Int) (α : Sh) (μ : Mem) : Prop := (200 ≤ W ∧ W ≤ 320) ∧ WoS W α μ ∧ WrT M σ W μ ∧ DgT σ W α μ
/-- what a touch writes; with the notes of the description's readers -/
def tw (W t i : Int) : Prop := (t = 150 ∧ 2 ≤ i) ∨ (t = W ∧ (i = 3 ∨ i = 5)) ∨ (W < t ∧ t < W + 5)
def TWF (W : Int) (μ μ1 : Mem) : Prop := ∀ t i : Int, ¬ tw W t i → μ1 t i = μ t i
def TF (W : Int) (μ μ1 : Mem) : Prop := ∀ t i : Int, ¬ scr t i → ¬ tw W t i → μ1 t i = μ t i
theorem TWF.rf {W : Int} {μ : Mem} : TWF W μ μ := fun _ _ _ => rfl
theorem TWF.trans {W : Int} {μ μ1 μ2 : Mem} (h : TWF W μ μ1) (h1 : TWF W μ1 μ2) : TWF W μ μ2 := fun t i a => (h1 t i a).trans (h t i a)
theorem TWF.put {W t i x : Int} {μ : Mem} (h : tw W t i) : TWF W μ (mu μ t i x) := fun u k a => mu_ne (fun q => a (by rw [q.1, q.2]; exact h))
theorem TF.rf {W : Int} {μ : Mem} : TF W μ μ := fun _ _ _ _ => rfl
theorem TF.trans {W : Int} {μ μ1 μ2 : Mem} (h : TF W μ μ1) (h1 : TF W μ1 μ2) : TF W μ μ2 := fun t i a b => (h1 t i a b).trans (h t i a b)
theorem TWF.tf {W : Int} {μ μ1 : Mem} (h : TWF W μ μ1) : TF W μ μ1 := fun t i _ b => h t i b
theorem SF.tf {W : Int} {μ μ1 : Mem} (h : SF μ μ1) : TF W μ μ1 := fun t i a _ => h t i a
theorem TWF.row {W t : Int} {μ μ1 : Mem} (h : TWF W μ μ1) (ht : ∀ i, ¬ tw W t i) : μ1 t = μ t := funext fun i => h t i (ht i)
theorem TWF.des {M : Mem} {W : Int} {α : Sh} {μ μ1 : Mem} (w : WFD M) (hW : 200 ≤ W ∧ W ≤ 320) (h : TWF W μ μ1) (D : DesR M α μ) : DesR M α μ1 :=
  DesR_16 w (fun _ _ _ => rfl) (fun t ht => ⟨rfl, h.row (fun i => by unfold tw; omega)⟩) D
/-- types that aren't untouched stay so, and keep their row of faces -/
def KP (M : Mem) (x : Int) (σ σ1 μ μ1 : Mem) : Prop := ∀ t : Int, 0 ≤ t → t < M 0 0 → t ≠ x → σ 28 t ≠ 0 → σ1 28 t ≠ 0 ∧ μ1 (tk t) 13 = μ (tk t) 13 ∧ ∀ i : Int, μ1 (tk t + 7) i = μ (tk t + 7) i
theorem KP.trans {M : Mem} {x : Int} {σ σ1 σ2 μ μ1 μ2 : Mem} (h : KP M x σ σ1 μ μ1) (h1 : KP M x σ1 σ2 μ1 μ2) : KP M x σ σ2 μ μ2 := fun t t0 t1 hx hz => by
  have a := h t t0 t1 hx hz
  have b := h1 t t0 t1 hx a.1
  exact ⟨b.1, b.2.1.trans a.2.1, fun i => (b.2.2 i).trans (a.2.2 i)⟩
theorem KP.weak {M : Mem} {x : Int} {σ σ1 μ μ1 : Mem} (h : KP M (-1) σ σ1 μ μ1) : KP M x σ σ1 μ μ1 := fun t t0 t1 _ hz => h t t0 t1 (by omega) hz
theorem KP.own {M : Mem} {x : Int} {σ σ1 μ μ1 : Mem} (h : KP M x σ σ1 μ μ1) (hx : σ 28 x = 0) : KP M (-1) σ σ1 μ μ1 := fun t t0 t1 _ hz => h t t0 t1 (fun q => hz (by rw [q]; exact hx)) hz
theorem KP.rf {M : Mem} {x : Int} {σ μ : Mem} : KP M x σ σ μ μ := fun _ _ _ _ hz => ⟨hz, rfl, fun _ => rfl⟩
theorem KP.twf {M : Mem} {x W : Int} {σ σ1 μ μ1 : Mem} (hW : 200 ≤ W ∧ W ≤ 320) (h : TWF W μ μ1) (hs : ∀ t : Int, σ 28 t ≠ 0 → σ1 28 t ≠ 0) : KP M x σ σ1 μ μ1 := fun t t0 _ _ hz =>
  ⟨hs t hz, h _ _ (by unfold tw tk; omega), fun i => h _ _ (by unfold tw tk; omega)⟩
theorem KP.sfm {M : Mem} {x : Int} {σ μ μ1 : Mem} (h : SFm μ μ1) : KP M x σ σ μ μ1 := fun t t0 _ _ hz =>
  ⟨hz, h _ _ (by unfold tk; omega), fun i => h _ _ (by unfold tk; omega)⟩
theorem KP.sf1 {M : Mem} {x : Int} {σ μ μ1 : Mem} (h : SF1 (tk x) μ μ1) : KP M x σ σ μ μ1 := fun t t0 _ hx hz =>
  ⟨hz, h _ _ (by unfold tk; omega), fun i => h _ _ (by unfold tk; omega)⟩
/-- the answer of a step of a touch -/
def TQ (M : Mem) (W : Int) (α : Sh) (x : Int) (σ μ : Mem) (q : Int × Mem) (r : Int) (α1 : Sh) (μ1 : Mem) : Prop := α1 = α ∧ TF W μ μ1 ∧ DesR M α μ1 ∧ TR M q.2 W α μ1 ∧ KP M x σ q.2 μ μ1 ∧ r = q.1
theorem TR.of {M σ σ1 : Mem} {W : Int} {α : Sh} {μ μ1 : Mem} (h : TR M σ W α μ) (hW : ∀ i : Int, i ≠ 3 → i ≠ 5 → μ1 W i = μ W i) (hD : μ1 150 0 = μ 150 0 ∧ μ1 150 1 = μ 150 1) (h1 : WrT M σ1 W μ1) (h2 : μ1 150 2 = σ1 45 0 ∧ μ1 150 3 = σ1 46 0 ∧ μ1 150 4 = σ1 47 0 ∧ μ1 150 5 = σ1 48 0 ∧ μ1 150 6 = σ1 52 0) : TR M σ1 W α μ1 := by
  obtain ⟨a, ⟨b1, b2, b3, b4, b5, b6⟩, c, ⟨d1, d2, d3⟩, d⟩ := h
  exact ⟨a, ⟨b1, by rw [hW 0 (by decide) (by decide)]; exact b2, by rw [hW 1 (by decide) (by decide)]; exact b3, by rw [hW 2 (by decide) (by decide)]; exact b4, by rw [hW 4 (by decide) (by decide)]; exact b5, by rw [hW 8 (by decide) (by decide)]; exact b6⟩, h1, ⟨d1, by rw [hD.1]; exact d2, by rw [hD.2]; exact d3⟩, h2⟩
theorem TR_SF {M σ : Mem} {W : Int} {α : Sh} {μ μ1 : Mem} (h : TR M σ W α μ) (f : SF μ μ1) : TR M σ W α μ1 := by
  have hW := h.1
  have r : ∀ t : Int, (t = 150 ∨ (W ≤ t ∧ t ≤ W + 5)) → μ1 t = μ t := fun t ht => f.row (fun i => by unfold scr; omega)
  refine h.of (fun i _ _ => by rw [r W (by omega)]) ⟨by rw [r 150 (by omega)], by rw [r 150 (by omega)]⟩ ?_ ?_
  · unfold WrT; rw [r W (by omega), r (W + 1) (by omega), r (W + 2) (by omega), r (W + 3) (by omega), r (W + 4) (by omega)]; exact h.2.2.1
  · rw [r 150 (by omega)]; exact h.2.2.2.2
theorem WrT_o {M σ σ1 : Mem} {W : Int} {μ μ1 : Mem} (h : WrT M σ W μ) (hm : ∀ t : Int, W ≤ t → t ≤ W + 4 → μ1 t = μ t) (hs : ∀ k : Int, 28 ≤ k → k ≤ 33 → σ1 k = σ k) : WrT M σ1 W μ1 := by
  unfold WrT
  rw [hm W (by omega) (by omega), hm (W + 1) (by omega) (by omega), hm (W + 2) (by omega) (by omega), hm (W + 3) (by omega) (by omega), hm (W + 4) (by omega) (by omega), hs 28 (by decide) (by decide), hs 29 (by decide) (by decide), hs 30 (by decide) (by decide), hs 31 (by decide) (by decide), hs 32 (by decide) (by decide), hs 33 (by decide) (by decide)]
  exact h
theorem TR_28 {M σ : Mem} {W t v : Int} {α : Sh} {μ : Mem} (h : TR M σ W α μ) : TR M (mu σ 28 t v) W α (mu μ (W + 1) t v) := by
  have hW := h.1
  obtain ⟨c1, c2, c3, c4⟩ := h.2.2.1
  have r : ∀ u k : Int, u ≠ W + 1 → mu μ (W + 1) t v u k = μ u k := fun u k a => mu_ne (fun q => a q.1)
  have s : ∀ u k : Int, u ≠ 28 → mu σ 28 t v u k = σ u k := fun u k a => mu_ne (fun q => a q.1)
  refine h.of (fun i _ _ => r _ _ (by omega)) ⟨r _ _ (by omega), r _ _ (by omega)⟩ ⟨fun u u0 u1 => ?_, fun u nm a b c d => ?_, ⟨?_, fun i a b c => ?_⟩, ?_, fun i a b => ?_⟩ ?_
  · by_cases hu : u = t
    · rw [hu, mu_s, mu_s]
    · rw [mu_i _ _ _ _ hu, mu_i _ _ _ _ hu]; exact c1 u u0 u1
  · rw [r _ _ (by omega), s _ _ (by decide)]; exact c2 u nm a b c d
  · rw [r _ _ (by omega), s _ _ (by decide)]; exact c3.1
  · rw [s _ _ (by decide)] at b; rw [r _ _ (by omega), s _ _ (by decide)]; exact c3.2 i a b c
  · rw [r _ _ (by omega), s _ _ (by decide)]; exact c4.1
  · rw [s _ _ (by decide)] at b; rw [r _ _ (by omega), s _ _ (by decide)]; exact c4.2 i a b
  · rw [r _ _ (by omega), r _ _ (by omega), r _ _ (by omega), r _ _ (by omega), r _ _ (by omega), s _ _ (by decide), s _ _ (by decide), s _ _ (by decide), s _ _ (by decide), s _ _ (by decide)]; exact h.2.2.2.2
theorem TR_29 {M σ : Mem} {W u nm p k v : Int} {α : Sh} {μ : Mem} (wd : WFD M) (h : TR M σ W α μ) (hp : p = 10 * u + nm) (hk : k = 6 * u + oF M u nm) (u0 : 0 ≤ u) (u1 : u < M 0 0) (n0 : 0 ≤ nm) (n1 : nm ≤ 9) (ho : 0 ≤ oF M u nm) : TR M (mu σ 29 k v) W α (mu μ (W + 2) p v) := by
  have hW := h.1
  have hn := wd.n
  obtain ⟨c1, c2, c3, c4⟩ := h.2.2.1
  have r : ∀ u k : Int, u ≠ W + 2 → mu μ (W + 2) p v u k = μ u k := fun u k a => mu_ne (fun q => a q.1)
  have s : ∀ u i : Int, u ≠ 29 → mu σ 29 k v u i = σ u i := fun u i a => mu_ne (fun q => a q.1)
  refine h.of (fun i _ _ => r _ _ (by omega)) ⟨r _ _ (by omega), r _ _ (by omega)⟩ ⟨fun u u0 u1 => ?_, fun t m a b c d => ?_, ⟨?_, fun i a b c => ?_⟩, ?_, fun i a b => ?_⟩ ?_
  · rw [r _ _ (by omega), s _ _ (by decide)]; exact c1 u u0 u1
  · have ht := (wd.cnt t a (by omega)).2.1
    have hu := (wd.cnt u u0 (by omega)).2.1
    have e1 := oF_rng M t m
    have e2 := oF_rng M u nm
    by_cases hh : t = u ∧ m = nm
    · rw [hh.1, hh.2, ← hp, mu_s, if_pos ho, ← hk, mu_s]
    · rw [mu_i _ _ _ _ (by omega), c2 t m a b c d]
      by_cases h0 : 0 ≤ oF M t m
      · rw [if_pos h0, if_pos h0, mu_i]
        intro hq
        rw [hk] at hq
        have ht' : t = u := by omega
        subst ht'
        have : oF M t m = oF M t nm := by omega
        rw [this] at e1
        exact hh ⟨rfl, by omega⟩
      · rw [if_neg h0, if_neg h0]
  · rw [r _ _ (by omega), s _ _ (by decide)]; exact c3.1
  · rw [s _ _ (by decide)] at b; rw [r _ _ (by omega), s _ _ (by decide)]; exact c3.2 i a b c
  · rw [r _ _ (by omega), s _ _ (by decide)]; exact c4.1
  · rw [s _ _ (by decide)] at b; rw [r _ _ (by omega), s _ _ (by decide)]; exact c4.2 i a b
  · rw [r _ _ (by omega), r _ _ (by omega), r _ _ (by omega), r _ _ (by omega), r _ _ (by omega), s _ _ (by decide), s _ _ (by decide), s _ _ (by decide), s _ _ (by decide), s _ _ (by decide)]; exact h.2.2.2.2
theorem TR_tape {M σ σ1 : Mem} {W : Int} {α : Sh} {μ μ1 : Mem} (h : TR M σ W α μ) (o : ∀ u k : Int, u ≠ W + 3 → ¬ (u = W ∧ k = 3) → μ1 u k = μ u k) (so : ∀ u k : Int, u ≠ 30 → u ≠ 31 → σ1 u k = σ u k) (h3 : μ1 W 3 = σ1 30 0) (h4 : ∀ i : Int, 0 ≤ i → i < σ1 30 0 → i < 300 → μ1 (W + 3) i = σ1 31 i) : TR M σ1 W α μ1 := by
  have hW := h.1
  obtain ⟨c1, c2, c3, c4⟩ := h.2.2.1
  refine h.of (fun i _ _ => o _ _ (by omega) (by omega)) ⟨o _ _ (by omega) (by omega), o _ _ (by omega) (by omega)⟩ ⟨fun u u0 u1 => ?_, fun u nm a b c d => ?_, ⟨h3, h4⟩, ?_, fun i a b => ?_⟩ ?_
  · rw [o _ _ (by omega) (by omega), so _ _ (by decide) (by decide)]; exact c1 u u0 u1
  · rw [o _ _ (by omega) (by omega), so _ _ (by decide) (by decide)]; exact c2 u nm a b c d
  · rw [o _ _ (by omega) (by omega), so _ _ (by decide) (by decide)]; exact c4.1
  · rw [so _ _ (by decide) (by decide)] at b; rw [o _ _ (by omega) (by omega), so _ _ (by decide) (by decide)]; exact c4.2 i a b
  · rw [o _ _ (by omega) (by omega), o _ _ (by omega) (by omega), o _ _ (by omega) (by omega), o _ _ (by omega) (by omega), o _ _ (by omega) (by omega), so _ _ (by decide) (by decide), so _ _ (by decide) (by decide), so _ _ (by decide) (by decide), so _ _ (by decide) (by decide), so _ _ (by decide) (by decide)]; exact h.2.2.2.2
theorem TR_row {M σ σ1 : Mem} {W : Int} {α : Sh} {μ μ1 : Mem} (h : TR M σ W α μ) (o : ∀ u k : Int, u ≠ W + 4 → ¬ (u = W ∧ k = 5) → μ1 u k = μ u k) (so : ∀ u k : Int, u ≠ 32 → u ≠ 33 → σ1 u k = σ u k) (h3 : μ1 W 5 = σ1 32 0) (h4 : ∀ i : Int, 0 ≤ i → i < σ1 32 0 → μ1 (W + 4) i = σ1 33 i) : TR M σ1 W α μ1 := by
  have hW := h.1
  obtain ⟨c1, c2, c3, c4⟩ := h.2.2.1
  refine h.of (fun i _ _ => o _ _ (by omega) (by omega)) ⟨o _ _ (by omega) (by omega), o _ _ (by omega) (by omega)⟩ ⟨fun u u0 u1 => ?_, fun u nm a b c d => ?_, ⟨?_, fun i a b c => ?_⟩, h3, h4⟩ ?_
  · rw [o _ _ (by omega) (by omega), so _ _ (by decide) (by decide)]; exact c1 u u0 u1
  · rw [o _ _ (by omega) (by omega), so _ _ (by decide) (by decide)]; exact c2 u nm a b c d
  · rw [o _ _ (by omega) (by omega), so _ _ (by decide) (by decide)]; exact c3.1
  · rw [so _ _ (by decide) (by decide)] at b; rw [o _ _ (by omega) (by omega), so _ _ (by decide) (by decide)]; exact c3.2 i a b c
  · rw [o _ _ (by omega) (by omega), o _ _ (by omega) (by omega), o _ _ (by omega) (by omega), o _ _ (by omega) (by omega), o _ _ (by omega) (by omega), so _ _ (by decide) (by decide), so _ _ (by decide) (by decide), so _ _ (by decide) (by decide), so _ _ (by decide) (by decide), so _ _ (by decide) (by decide)]; exact h.2.2.2.2
theorem TR_dg {M σ σ1 : Mem} {W : Int} {α : Sh} {μ μ1 : Mem} (h : TR M σ W α μ) (o : ∀ u k : Int, ¬ (u = 150 ∧ 2 ≤ k) → μ1 u k = μ u k) (so : ∀ k : Int, 28 ≤ k → k ≤ 33 → σ1 k = σ k) (h2 : μ1 150 2 = σ1 45 0 ∧ μ1 150 3 = σ1 46 0 ∧ μ1 150 4 = σ1 47 0 ∧ μ1 150 5 = σ1 48 0 ∧ μ1 150 6 = σ1 52 0) : TR M σ1 W α μ1 := by
  have hW := h.1
  exact h.of (fun i _ _ => o _ _ (by omega)) ⟨o _ _ (by omega), o _ _ (by omega)⟩ (WrT_o h.2.2.1 (fun t _ _ => funext fun k => o _ _ (by omega)) so) h2
theorem TR_45 {M σ : Mem} {W v : Int} {α : Sh} {μ : Mem} (h : TR M σ W α μ) : TR M (mu σ 45 0 v) W α (mu μ 150 2 v) := by
  have d := h.2.2.2.2
  refine TR_dg h (fun u k a => mu_ne (by omega)) (fun k a b => mu_f _ _ _ _ (by omega)) ⟨by rw [mu_s, mu_s], ?_, ?_, ?_, ?_⟩ <;> rw [mu_ne (by decide), mu_ne (by decide)]
  · exact d.2.1
  · exact d.2.2.1
  · exact d.2.2.2.1
  · exact d.2.2.2.2
theorem TR_46 {M σ : Mem} {W v : Int} {α : Sh} {μ : Mem} (h : TR M σ W α μ) : TR M (mu σ 46 0 v) W α (mu μ 150 3 v) := by
  have d := h.2.2.2.2
  refine TR_dg h (fun u k a => mu_ne (by omega)) (fun k a b => mu_f _ _ _ _ (by omega)) ⟨?_, by rw [mu_s, mu_s], ?_, ?_, ?_⟩ <;> rw [mu_ne (by decide), mu_ne (by decide)]
  · exact d.1
  · exact d.2.2.1
  · exact d.2.2.2.1
  · exact d.2.2.2.2
theorem TR_48 {M σ : Mem} {W v : Int} {α : Sh} {μ : Mem} (h : TR M σ W α μ) : TR M (mu σ 48 0 v) W α (mu μ 150 5 v) := by
  have d := h.2.2.2.2
  refine TR_dg h (fun u k a => mu_ne (by omega)) (fun k a b => mu_f _ _ _ _ (by omega)) ⟨?_, ?_, ?_, by rw [mu_s, mu_s], ?_⟩ <;> rw [mu_ne (by decide), mu_ne (by decide)]
  · exact d.1
  · exact d.2.1
  · exact d.2.2.1
  · exact d.2.2.2.2
theorem TR_ar {M σ : Mem} {W v x : Int} {α : Sh} {μ : Mem} (h : TR M σ W α μ) : TR M (mu (mu σ 47 0 v) 52 0 x) W α (mu (mu μ 150 4 v) 150 6 x) := by
  have d := h.2.2.2.2
  refine TR_dg h (fun u k a => by rw [mu_ne (by omega), mu_ne (by omega)]) (fun k a b => by rw [mu_f _ _ _ _ (by omega), mu_f _ _ _ _ (by omega)]) ⟨?_, ?_, by rw [mu_ne (by decide), mu_s, mu_ne (by decide), mu_s], ?_, by rw [mu_s, mu_s]⟩ <;> rw [mu_ne (by decide), mu_ne (by decide), mu_ne (by decide), mu_ne (by decide)]
  · exact d.1
  · exact d.2.1
  · exact d.2.2.2.1
/-- a body's tokens -/
def bodT (M : Mem) (b B A : Int) : Prop := ∃ u : Int, 0 ≤ u ∧ u < M 0 0 ∧ ((b = 5 * u ∧ B = tk u + 5 ∧ A = tk u + 100) ∨ ∃ nm : Int, 0 ≤ nm ∧ nm ≤ 9 ∧ 0 ≤ oM M u nm ∧ b = 5 * u + 1 + oM M u nm ∧ B = tk u + (20 + 2 * nm) ∧ A = tk u + (200 + 20 * nm))
theorem bodT.at {M : Mem} {b B A : Int} {α : Sh} {μ : Mem} (h : bodT M b B A) (D : DesR M α μ) : BodR M b B A α μ := by
  obtain ⟨u, u0, u1, ⟨rfl, rfl, rfl⟩ | ⟨nm, n0, n1, ho, rfl, rfl, rfl⟩⟩ := h
  · exact (D.2.2.1 u u0 u1).2.2.2.2.2.2
  · exact (((D.2.2.1 u u0 u1).2.2.2.2.2.1 nm n0 n1).2 ho).2
theorem bodT.rng {M : Mem} {b B A : Int} (w : WFD M) (h : bodT M b B A) : (0 ≤ b ∧ b < 200) ∧ (1000 ≤ A ∧ 100 ≤ A % 1000 ∧ A % 1000 < 400) ∧ 1000 ≤ B := by
  obtain ⟨u, u0, u1, ⟨rfl, rfl, rfl⟩ | ⟨nm, n0, n1, ho, rfl, rfl, rfl⟩⟩ := h
  · have := w.n
    unfold tk
    omega
  · have := w.n
    have h1 := (w.cnt u u0 (by omega)).2.2
    have h2 := oM_rng M u nm
    unfold tk
    omega
/-- an action's token -/
def okA (a : Int) : Prop := a = 151 ∨ (1000 ≤ a ∧ 100 ≤ a % 1000)
theorem AcR_TF {W a k t n v : Int} {α : Sh} {μ μ1 : Mem} (hW : 200 ≤ W ∧ W ≤ 320) (ha : okA a) (h : AcR α μ a k t n v) (f : TF W μ μ1) : AcR α μ1 a k t n v := by
  have r : ∀ i, μ1 a i = μ a i := fun i => f a i (by unfold scr; unfold okA at ha; omega) (by unfold tw; unfold okA at ha; omega)
  unfold AcR
  rw [r 0, r 1, r 2, r 3]
  exact h
