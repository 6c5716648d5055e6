/-! BOTH TOUCHES: the relation is kept -/
theorem TchF.at {W : Int} {μ μ1 : Mem} (f : TchF W μ μ1) {u i : Int} (h1 : u < 112 ∨ (115 ≤ u ∧ u < 150) ∨ (200 ≤ u ∧ u < 320)) (h2 : ¬ (u = 110 ∧ (i = 4 ∨ i = 5))) (h3 : ¬ (W ≤ u ∧ u ≤ W + 5)) : μ1 u i = μ u i := by
  refine f u i (fun h => ?_) (by omega) (by omega) (by omega) (by omega) (by omega) (by omega)
  unfold scr at h
  omega
theorem WrC_of {M M1 τ : Mem} {x W : Int} {μ1 : Mem} (w : WFD M) (T : TOK M x τ M1) (h32 : τ 32 0 ≤ 40) (h : WrT M τ W μ1) : WrC M1 x W μ1 := by
  obtain ⟨sd, -, ⟨v1, v2, ⟨v3, v4⟩, v5, v6⟩, -⟩ := T
  obtain ⟨a, b, ⟨c, d⟩, e, f⟩ := h
  have hn := w.n
  have eo : ∀ t nm, oF M1 t nm = oF M t nm := fun t nm => by unfold oF; rw [sd 6 (by decide) (by decide), sd 7 (by decide) (by decide)]
  refine ⟨fun t t0 t1 => ?_, fun t nm t0 t1 n0 n1 => ?_, ⟨?_, fun i i0 i1 i2 => ?_⟩, ?_, fun i i0 i1 => ?_⟩
  · rw [v1 t t0 t1]; exact a t t0 t1
  · rw [sd 0 (by decide) (by decide)] at t1
    have hr := oF_rng M t nm
    have hc := (w.cnt t t0 (by omega)).2.1
    rw [eo, b t nm t0 t1 n0 n1]
    by_cases q : 0 ≤ oF M t nm
    · rw [if_pos q, if_pos q, v2 _ (by omega) (by omega)]
    · rw [if_neg q, if_neg q]
  · rw [v3]; exact c
  · rw [v3] at i1; rw [v4 i i0 i1 i2]; exact d i i0 i1 i2
  · rw [v5]; exact e
  · rw [v5] at i1; rw [v6 i i0 i1]; exact f i i0 i1
theorem WosR_touch {M M1 τ : Mem} {x : Int} {α : Sh} {μ μ1 : Mem} (w : WFD M) (wt : WFT M) (Wo : WosR M α μ) (hx : 0 ≤ x ∧ x < M 17 0) (T : TOK M x τ M1) (h32 : τ 32 0 ≤ 40) (hr : WrT M τ (200 + 10 * x) μ1) (ha : WrA M1 x (200 + 10 * x) μ1) (f : TchF (200 + 10 * x) μ μ1) : WosR M1 α μ1 := by
  have hw12 := w.w
  obtain ⟨h1, h2, hw, g1, g2, g3, g4, g5⟩ := Wo
  have e17 : M1 17 0 = M 17 0 := by rw [T.1 17 (by decide) (by decide)]
  have hfr : ∀ b y : Int, b = 200 + 10 * y → 0 ≤ y → y ≤ 12 → ∀ i : Int, i ≠ 3 → i ≠ 5 → i ≠ 6 → i ≠ 7 → μ1 b i = μ b i := fun b y hb y0 y12 i a c d e => by
    refine f b i (fun h => ?_) (by omega) (by omega) (by omega) (by omega) (by omega) (by omega)
    unfold scr at h
    omega
  refine ⟨WoS_p (fun _ _ _ => rfl) (hfr 320 12 rfl (by decide) (by decide)) h1, h2, hw, by rw [e17]; exact g1, g2, fun y y0 y1 => ⟨?_, WoS_p (fun _ _ _ => rfl) (hfr _ y rfl y0 (by omega)) (g3 y y0 y1).2⟩, fun y y0 y1 => ⟨?_, (g4 y y0 y1).2⟩, fun y y0 y1 => ?_⟩
  · rw [f.at (by omega) (by omega) (by omega)]; exact (g3 y y0 y1).1
  · rw [f.at (by omega) (by omega) (by omega)]; exact (g4 y y0 y1).1
  · rw [e17] at y1
    by_cases hy : y = x
    · subst hy
      exact ⟨WrC_of w T h32 hr, ha⟩
    · have hm : ∀ t, 200 + 10 * y ≤ t → t < 200 + 10 * y + 10 → μ1 t = μ t := fun t a b => funext fun i => f.at (by omega) (by omega) (by omega)
      obtain ⟨o1, o2, o3, o4, o5, o6, o7⟩ := T.2.1 y y0 (by omega) hy
      have sd := T.1
      have h40 := (wt y y0 y1).2.1
      have hu := Un_0 M (vw M y)
      exact ⟨WrC_c hm (by rw [sd 0 (by decide) (by decide)]) (fun t nm _ _ => by unfold oF; rw [sd 6 (by decide) (by decide), sd 7 (by decide) (by decide)]) (fun t a b => (o1 t a b).1) o2 o3.1 o4 o3.2 (fun t a b => (o1 t a b).2) w (by omega) (g5 y y0 y1).1, WrA_c hm o5 o6 o7 (g5 y y0 y1).2⟩
theorem WrA_acc {M1 : Mem} {x W : Int} {q : Int × Mem} {μ1 : Mem} (h : accM M1 x q) (h1 : accR q W μ1) : WrA M1 x W μ1 := by
  obtain ⟨a1, a2, a3, a4, a5, a6⟩ := h
  obtain ⟨⟨b1, b2⟩, b3, b4, b5, b6⟩ := h1
  exact ⟨b1.trans a1.symm, b2.trans a2.symm, b3.trans a3.symm, b4.trans a4.symm, by omega, b6.trans a6.symm⟩
theorem WrA_kep {M M1 : Mem} {x W : Int} {μ μ1 : Mem} (h : kepM M M1 x) (h1 : kepR W μ μ1) (h2 : WrA M x W μ) : WrA M1 x W μ1 := by
  obtain ⟨a1, a2, a3⟩ := h
  obtain ⟨b1, b2, b3⟩ := h1
  have e0 := a3 0 (by decide) (by decide)
  rw [Int.add_zero] at e0
  unfold WrA at h2 ⊢
  rw [b1, b2, b3, b3, b3, b3, a1, a2, e0, a3 1 (by decide) (by decide), a3 2 (by decide) (by decide), a3 3 (by decide) (by decide)]
  exact h2
/-- what the reference's memory keeps -/
def LVL (Bd : Int) (M : Mem) : Prop := WFD M ∧ WFW M ∧ WFT M ∧ ∀ y : Int, 0 ≤ y → y < M 17 0 → M 30 y ≤ Bd
theorem Un_vw {M M1 τ : Mem} {x : Int} (w : WFD M) (sd : SD M M1) (h : ∀ t : Int, 0 ≤ t → t < 40 → M1 28 (40 * x + t) = τ 28 t) : Un M1 (vw M1 x) = Un M τ := by
  have hn := w.n
  unfold Un
  rw [sd 0 (by decide) (by decide)]
  congr 1
  exact cntz_congr _ (fun i a b => h i a (by omega))
theorem LVL_touch {M M1 τ : Mem} {x Bd : Int} (L : LVL Bd M) (hx : 0 ≤ x ∧ x < M 17 0) (T : TOK M x τ M1) (t28 : ∀ t : Int, 0 ≤ t → t < M 0 0 → 0 ≤ τ 28 t ∧ τ 28 t ≤ 3) (t32 : 0 ≤ τ 32 0 ∧ τ 32 0 + Un M τ ≤ 40) (t30 : 0 ≤ τ 30 0 ∧ τ 30 0 ≤ M 30 x + 1041) : LVL (Bd + 1041) M1 := by
  obtain ⟨w, ww, wt, hb⟩ := L
  obtain ⟨sd, ot, ⟨v1, v2, v3, v4⟩, z1, z2⟩ := T
  have hw12 := w.w
  have hn := w.n
  have e17 : M1 17 0 = M 17 0 := by rw [sd 17 (by decide) (by decide)]
  have e0 : M1 0 0 = M 0 0 := by rw [sd 0 (by decide) (by decide)]
  have hu := Un_0 M τ
  refine ⟨SD_WFD sd w, fun y y0 y1 => ?_, fun y y0 y1 => ?_, fun y y0 y1 => ?_⟩
  · rcases (show y = x ∨ y = 12 ∨ (y ≤ 11 ∧ y ≠ x) by omega) with q | q | ⟨q, q1⟩
    · rw [q, v3.1, v4.1]; omega
    · rw [q, z1, z2]; exact ww x hx.1 (by omega)
    · have := (ot y y0 q q1).2.2.1
      rw [this.1, this.2]; exact ww y y0 y1
  · rw [e17] at y1
    by_cases q : y = x
    · subst q
      rw [e0, Un_vw w sd v1, v3.1, v4.1]
      exact ⟨fun t t0 t1 => by rw [v1 t t0 (by omega)]; exact t28 t t0 t1, t32, t30.1⟩
    · obtain ⟨o1, o2, o3, -⟩ := ot y y0 (by omega) q
      have hy := wt y y0 y1
      rw [e0, Un_vw (τ := vw M y) w sd (fun t a b => (o1 t a b).1), o3.1, o3.2]
      exact ⟨fun t t0 t1 => by rw [(o1 t t0 (by omega)).1]; exact hy.1 t t0 t1, hy.2⟩
  · rw [e17] at y1
    by_cases q : y = x
    · subst q
      have := hb y y0 y1
      rw [v3.1]; omega
    · have := (ot y y0 (by omega) q).2.2.1.1
      have := hb y y0 y1
      omega
/-- the numbers of a touch -/
theorem tE_num {M : Mem} {x k t nm v : Int} (w : WFD M) (wt : WFT M) (hx : 0 ≤ x ∧ x < M 17 0) (hB : M 30 x ≤ 2000000000) (hk : 1 ≤ k ∧ k ≤ 6) (ht : 0 ≤ t ∧ t < M 0 0) :
    GD (M 30 x) 0 M (beg (vw M x)) (tE M k t nm v (vw M x)) ∧ INV (M 30 x) M (beg (vw M x)) ∧ INV (M 30 x) M (mu (beg (vw M x)) 45 0 0) ∧ slk (M 30 x) 1 (beg (vw M x)) := by
  obtain ⟨p, s⟩ := beg_PR w wt hx.1 hx.2 hB
  obtain ⟨-, -, -, hi, h47, -⟩ := id p
  refine ⟨acE_gd w (ev_good w 100) (fun _ _ => ht) (fun q => by omega) (by decide) (by decide) hi h47 s, hi, ?_, s⟩
  have o : ∀ u : Int, u ≠ 45 → mu (beg (vw M x)) 45 0 0 u = beg (vw M x) u := fun u h => mu_f _ _ _ _ h
  have e30 : beg (vw M x) 30 0 = M 30 x := by
    unfold beg
    rw [mu_ne (by omega), mu_ne (by omega), mu_ne (by omega), mu_ne (by omega), mu_ne (by omega)]
    rfl
  have e47 : beg (vw M x) 47 0 = 0 := rfl
  obtain ⟨i1, i2, i3, i4, i5, i6, i7, i8⟩ := hi
  refine ⟨by rw [o 28 (by decide)]; exact i1, ?_, ?_, by rw [mu_s]; decide, ?_, ?_, ?_, ?_⟩
  · rw [Un_same (o 28 (by decide)), o 32 (by decide)]; exact i2
  · rw [o 48 (by decide), o 32 (by decide)]; exact i3
  · rw [o 47 (by decide)]; exact i5
  · rw [o 46 (by decide)]; exact i6
  · rw [o 30 (by decide)]; exact i7
  · rw [o 30 (by decide), mu_s, o 47 (by decide), e30, e47]; omega
theorem VWa_cp {M : Mem} {x : Int} (hx : 0 ≤ x ∧ x ≤ 11) (h32 : M 32 x ≤ 40) : VWa (copyM M x 12) x (vw M x) := by
  refine ⟨fun t a b => ?_, fun p a b => ?_, ⟨?_, fun i a b c => ?_⟩, ?_, fun i a b => ?_⟩
  · rw [copyM_y _ (by omega) (by omega) (by omega) (by omega) (by omega)]; rfl
  · rw [copyM_y _ (by omega) (by omega) (by omega) (by omega) (by omega)]; rfl
  · rw [copyM_y _ (by omega) (by omega) (by omega) (by omega) (by omega)]; rfl
  · rw [copyM_y _ (by omega) (by omega) (by omega) (by omega) (by omega)]; rfl
  · rw [copyM_y _ (by omega) (by omega) (by omega) (by omega) (by omega)]; rfl
  · have hb : i < M 32 x := b
    rw [copyM_y _ (by omega) (by omega) (by omega) (by omega) (by omega)]; rfl
/-- the reference's machine comes to the touch's end -/
theorem go_TND {M : Mem} {x k t nm v : Int} (w : WFD M) (wt : WFT M) (hB : M 30 x ≤ 2000000000) (hr : refR M x k t nm = 0) (G : Mem → Prop) (hM : Mach (TND (goM (copyM M x 12) x k t nm v) x (tE M k t nm v (vw M x))) G) : G (goM (copyM M x 12) x k t nm v) := by
  obtain ⟨hx, ht, hk, hn⟩ := refR_0 hr
  have hw := w.w
  have sd : SD M (copyM M x 12) := fun u a b => copyM_f _ (by omega)
  obtain ⟨-, i1, i2, s1⟩ := tE_num (nm := nm) (v := v) w wt hx hB hk ht
  have h0 := (wt x hx.1 hx.2)
  have hu := Un_0 M (vw M x)
  have eU : ∀ σ : Mem, Un (copyM M x 12) σ = Un M σ := fun σ => by unfold Un; rw [sd 0 (by decide) (by decide)]
  have eI : ∀ σ : Mem, INV (M 30 x) M σ → INV (M 30 x) (copyM M x 12) σ := fun σ h => by unfold INV at h ⊢; rw [eU, sd 0 (by decide) (by decide)]; exact h
  have eT : tE (copyM M x 12) k t nm v (vw M x) = tE M k t nm v (vw M x) := by unfold tE; rw [ev_sd sd, acE_sd sd]
  refine touch_ok (σ := vw M x) (VWa_cp ⟨hx.1, by omega⟩ (by omega)) (SD_WFD sd w) ⟨hx.1, by omega⟩ ⟨h0.2.2, hB⟩ (eI _ i2) (eI _ i1) s1 hk (by rw [sd 0 (by decide) (by decide)]; exact ht) hM (fun M1 h => ?_)
  rw [eT] at h
  exact h
theorem BenR_touch {M M1 : Mem} {W : Int} {α : Sh} {μ μ1 : Mem} (h : BenR M α μ) (sd : SD M M1) (hW : 200 ≤ W) (f : TchF W μ μ1) : BenR M1 α μ1 := by
  have e := BenR_sf h (μ1 := μ1) (fun i => f.at (by omega) (by omega) (by omega))
  exact ⟨e.1, by rw [sd 17 (by decide) (by decide)]; exact e.2⟩
