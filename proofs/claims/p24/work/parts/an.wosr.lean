/-! BOTH TOUCHES: what stands behind them -/
theorem copyM_b28 (M : Mem) {a b t : Int} (h0 : 0 ≤ t) (h1 : t < 40) : copyM M a b 28 (40 * b + t) = M 28 (40 * a + t) := by
  unfold copyM
  rw [mu_ne (by omega), mu_ne (by omega), cpM_f _ (by decide), cpM_f _ (by decide), cpM_f _ (by decide)]
  unfold cpM
  rw [if_pos ⟨rfl, by omega, by omega⟩, show 40 * a + (40 * b + t - 40 * b) = 40 * a + t by omega]
theorem copyM_b33 (M : Mem) {a b t : Int} (h0 : 0 ≤ t) (h1 : t < 40) : copyM M a b 33 (40 * b + t) = M 33 (40 * a + t) := by
  unfold copyM
  rw [mu_ne (by omega), mu_ne (by omega), cpM_f _ (by decide), cpM_f _ (by decide)]
  conv => lhs; unfold cpM
  rw [if_pos ⟨rfl, by omega, by omega⟩, show 40 * a + (40 * b + t - 40 * b) = 40 * a + t by omega, if_neg (by omega)]
theorem copyM_b29 (M : Mem) {a b t : Int} (h0 : 0 ≤ t) (h1 : t < 240) : copyM M a b 29 (240 * b + t) = M 29 (240 * a + t) := by
  unfold copyM
  rw [mu_ne (by omega), mu_ne (by omega), cpM_f _ (by decide)]
  conv => lhs; unfold cpM
  rw [if_pos ⟨rfl, by omega, by omega⟩, show 240 * a + (240 * b + t - 240 * b) = 240 * a + t by omega, if_neg (by omega), if_neg (by omega)]
theorem copyM_b31 (M : Mem) {a b t : Int} (h0 : 0 ≤ t) (h1 : t < 300) : copyM M a b 31 (300 * b + t) = M 31 (300 * a + t) := by
  unfold copyM
  rw [mu_ne (by omega), mu_ne (by omega)]
  conv => lhs; unfold cpM
  rw [if_pos ⟨rfl, by omega, by omega⟩, show 300 * a + (300 * b + t - 300 * b) = 300 * a + t by omega, if_neg (by omega), if_neg (by omega), if_neg (by omega)]
theorem copyM_b30 (M : Mem) {a b : Int} : copyM M a b 30 b = M 30 a := by
  unfold copyM
  rw [mu_ne (by omega), mu_s]
theorem copyM_b32 (M : Mem) {a b : Int} : copyM M a b 32 b = M 32 a := by
  unfold copyM
  rw [mu_s]
/-- a place of another world -/
theorem copyM_y (M : Mem) {a b k i : Int} (h28 : k = 28 → i < 40 * b ∨ 40 * b + 40 ≤ i) (h33 : k = 33 → i < 40 * b ∨ 40 * b + 40 ≤ i) (h29 : k = 29 → i < 240 * b ∨ 240 * b + 240 ≤ i) (h31 : k = 31 → i < 300 * b ∨ 300 * b + 300 ≤ i) (h30 : k = 30 ∨ k = 32 → i ≠ b) : copyM M a b k i = M k i := by
  unfold copyM
  rw [mu_ne (by omega), mu_ne (by omega), cpM_o _ (by omega), cpM_o _ (by omega), cpM_o _ (by omega), cpM_o _ (by omega)]
/-- the other worlds are the same -/
def OTW (M M1 : Mem) (x : Int) : Prop := ∀ y : Int, 0 ≤ y → y ≤ 11 → y ≠ x → (∀ t : Int, 0 ≤ t → t < 40 → M1 28 (40 * y + t) = M 28 (40 * y + t) ∧ M1 33 (40 * y + t) = M 33 (40 * y + t)) ∧ (∀ p : Int, 0 ≤ p → p < 240 → M1 29 (240 * y + p) = M 29 (240 * y + p)) ∧ (M1 30 y = M 30 y ∧ M1 32 y = M 32 y) ∧ (∀ i : Int, 0 ≤ i → i < 300 → M1 31 (300 * y + i) = M 31 (300 * y + i)) ∧ (M1 34 y = M 34 y ∧ M1 35 y = M 35 y ∧ ∀ j : Int, 0 ≤ j → j < 4 → M1 36 (4 * y + j) = M 36 (4 * y + j))
def TOK (M : Mem) (x : Int) (τ M1 : Mem) : Prop := SD M M1 ∧ OTW M M1 x ∧ VWa M1 x τ ∧ (M1 30 12 = M 30 x ∧ M1 32 12 = M 32 x)
def accM (M1 : Mem) (x : Int) (q : Int × Mem) : Prop := M1 34 x = (if q.1 = -6 ∨ q.1 = 23 then -6 else q.1) ∧ M1 35 x = (if q.1 = -6 ∨ q.1 = 23 then -6 else q.2 52 0) ∧ M1 36 (4 * x) = q.2 45 0 ∧ M1 36 (4 * x + 1) = q.2 46 0 ∧ (M1 36 (4 * x + 2) = q.2 47 0 ∨ (M1 36 (4 * x + 2) = 40 ∧ q.2 47 0 = 41)) ∧ M1 36 (4 * x + 3) = q.2 48 0
def kepM (M M1 : Mem) (x : Int) : Prop := M1 34 x = M 34 x ∧ M1 35 x = M 35 x ∧ ∀ j : Int, 0 ≤ j → j < 4 → M1 36 (4 * x + j) = M 36 (4 * x + j)
/-- KS against the memory ahead of the touch -/
theorem KS_be {M Mg : Mem} {x k t n v : Int} (hx : 0 ≤ x ∧ x ≤ 11) (h : KS (goM (copyM M x 12) x k t n v) x Mg) : SD M Mg ∧ OTW M Mg x ∧ kepM M Mg x ∧
    ((∀ t : Int, 0 ≤ t → t < 40 → Mg 28 (40 * 12 + t) = M 28 (40 * x + t) ∧ Mg 33 (40 * 12 + t) = M 33 (40 * x + t)) ∧ (∀ p : Int, 0 ≤ p → p < 240 → Mg 29 (240 * 12 + p) = M 29 (240 * x + p)) ∧ (∀ i : Int, 0 ≤ i → i < 300 → Mg 31 (300 * 12 + i) = M 31 (300 * x + i)) ∧ Mg 30 12 = M 30 x ∧ Mg 32 12 = M 32 x) := by
  obtain ⟨k1, k2, k3, k4, k5, k6, k7, k8⟩ := h
  have g : ∀ u i : Int, u < 37 → goM (copyM M x 12) x k t n v u i = copyM M x 12 u i := fun u i hu => by rw [goM_o (Or.inl hu)]
  refine ⟨fun u a b => ?_, fun y y0 y1 hy => ⟨fun t a b => ⟨?_, ?_⟩, fun p a b => ?_, ⟨?_, ?_⟩, fun i a b => ?_, ?_, ?_, fun j a b => ?_⟩, ⟨?_, ?_, fun j a b => ?_⟩, fun t a b => ⟨?_, ?_⟩, fun p a b => ?_, fun i a b => ?_, ?_, ?_⟩
  · rw [k1 u a b, goM_o (Or.inl (by omega)), copyM_f _ (by omega)]
  · rw [(k5 _ (by omega)).1, g _ _ (by decide), copyM_y _ (by omega) (by omega) (by omega) (by omega) (by omega)]
  · rw [(k5 _ (by omega)).2, g _ _ (by decide), copyM_y _ (by omega) (by omega) (by omega) (by omega) (by omega)]
  · rw [k6 _ (by omega), g _ _ (by decide), copyM_y _ (by omega) (by omega) (by omega) (by omega) (by omega)]
  · rw [(k7 y hy).1, g _ _ (by decide), copyM_y _ (by omega) (by omega) (by omega) (by omega) (by omega)]
  · rw [(k7 y hy).2, g _ _ (by decide), copyM_y _ (by omega) (by omega) (by omega) (by omega) (by omega)]
  · rw [k8 _ (by omega), g _ _ (by decide), copyM_y _ (by omega) (by omega) (by omega) (by omega) (by omega)]
  · rw [k2 34 (by decide) (by decide), g _ _ (by decide), copyM_f _ (by decide)]
  · rw [k2 35 (by decide) (by decide), g _ _ (by decide), copyM_f _ (by decide)]
  · rw [k2 36 (by decide) (by decide), g _ _ (by decide), copyM_f _ (by decide)]
  · rw [k2 34 (by decide) (by decide), g _ _ (by decide), copyM_f _ (by decide)]
  · rw [k2 35 (by decide) (by decide), g _ _ (by decide), copyM_f _ (by decide)]
  · rw [k2 36 (by decide) (by decide), g _ _ (by decide), copyM_f _ (by decide)]
  · rw [(k5 _ (by omega)).1, g _ _ (by decide), copyM_b28 _ a b]
  · rw [(k5 _ (by omega)).2, g _ _ (by decide), copyM_b33 _ a b]
  · rw [k6 _ (by omega), g _ _ (by decide), copyM_b29 _ a b]
  · rw [k8 _ (by omega), g _ _ (by decide), copyM_b31 _ a b]
  · rw [(k7 12 (by omega)).1, g _ _ (by decide), copyM_b30]
  · rw [(k7 12 (by omega)).2, g _ _ (by decide), copyM_b32]
theorem OTW.trans {M M1 M2 : Mem} {x : Int} (h : OTW M M1 x) (h1 : OTW M1 M2 x) : OTW M M2 x := fun y y0 y1 hy => by
  obtain ⟨a1, a2, a3, a4, a5, a6, a7⟩ := h y y0 y1 hy
  obtain ⟨b1, b2, b3, b4, b5, b6, b7⟩ := h1 y y0 y1 hy
  exact ⟨fun t p q => ⟨(b1 t p q).1.trans (a1 t p q).1, (b1 t p q).2.trans (a1 t p q).2⟩, fun t p q => (b2 t p q).trans (a2 t p q), ⟨b3.1.trans a3.1, b3.2.trans a3.2⟩, fun t p q => (b4 t p q).trans (a4 t p q), b5.trans a5, b6.trans a6, fun t p q => (b7 t p q).trans (a7 t p q)⟩
/-- put back from the world aside -/
theorem back_ok {M Mg : Mem} {x k t n v : Int} (hx : 0 ≤ x ∧ x ≤ 11) (h32 : M 32 x ≤ 40) (h : KS (goM (copyM M x 12) x k t n v) x Mg) : TOK M x (vw M x) (copyM Mg 12 x) ∧ kepM M (copyM Mg 12 x) x := by
  obtain ⟨sd, ot, kp, z1, z2, z3, z4, z5⟩ := KS_be hx h
  refine ⟨⟨fun u a b => ?_, ot.trans (fun y y0 y1 hy => ⟨fun t a b => ⟨?_, ?_⟩, fun p a b => ?_, ⟨?_, ?_⟩, fun i a b => ?_, ?_, ?_, fun j a b => ?_⟩), ⟨fun t a b => ?_, fun p a b => ?_, ⟨?_, fun i a b c => ?_⟩, ?_, fun i a b => ?_⟩, ?_, ?_⟩, ?_, ?_, fun j a b => ?_⟩
  · rw [copyM_f _ (by omega)]; exact sd u a b
  · exact copyM_y _ (by omega) (by omega) (by omega) (by omega) (by omega)
  · exact copyM_y _ (by omega) (by omega) (by omega) (by omega) (by omega)
  · exact copyM_y _ (by omega) (by omega) (by omega) (by omega) (by omega)
  · exact copyM_y _ (by omega) (by omega) (by omega) (by omega) (by omega)
  · exact copyM_y _ (by omega) (by omega) (by omega) (by omega) (by omega)
  · exact copyM_y _ (by omega) (by omega) (by omega) (by omega) (by omega)
  · rw [copyM_f _ (by decide)]
  · rw [copyM_f _ (by decide)]
  · rw [copyM_f _ (by decide)]
  · rw [copyM_b28 _ a b, (z1 t a b).1]; rfl
  · rw [copyM_b29 _ a b, z2 p a b]; rfl
  · rw [copyM_b30, z4]; rfl
  · rw [copyM_b31 _ a c, z3 i a c]; rfl
  · rw [copyM_b32, z5]; rfl
  · have hb : i < M 32 x := b
    rw [copyM_b33 _ a (by omega), (z1 i a (by omega)).2]; rfl
  · rw [copyM_y _ (by omega) (by omega) (by omega) (by omega) (by omega)]; exact z4
  · rw [copyM_y _ (by omega) (by omega) (by omega) (by omega) (by omega)]; exact z5
  · rw [copyM_f _ (by decide)]; exact kp.1
  · rw [copyM_f _ (by decide)]; exact kp.2.1
  · rw [copyM_f _ (by decide)]; exact kp.2.2 j a b
theorem cmM_ok {M0 Mg : Mem} {x : Int} {q : Int × Mem} (h : TND M0 x q Mg) : cmM Mg = cmR q.1 := by
  unfold cmM cmR
  rcases h with ⟨a, b, -, c⟩ | h
  · rw [if_neg (by omega)]
    rcases c with ⟨c, d⟩ | ⟨c, d, e, -⟩
    · rw [if_pos d, if_pos c]
    · rw [if_neg (show ¬ Mg 50 0 = 0 by omega), if_neg (show ¬ q.1 = -6 by omega), e]
      (repeat' split) <;> first | rfl | omega
  · have h1 := h.2.1
    rw [if_pos (by omega), h.1]
    rfl
/-- a change of the accounts of x alone -/
theorem TOK_acc {M Mc M1 τ : Mem} {x : Int} (h : TOK M x τ Mc) (hm : ∀ u i : Int, ¬ ((u = 34 ∨ u = 35) ∧ i = x) → ¬ (u = 36 ∧ 4 * x ≤ i ∧ i < 4 * x + 4) → M1 u i = Mc u i) : TOK M x τ M1 := by
  obtain ⟨a, b, c, d⟩ := h
  have e : ∀ u : Int, u ≠ 34 → u ≠ 35 → u ≠ 36 → M1 u = Mc u := fun u h1 h2 h3 => funext fun i => hm u i (by omega) (by omega)
  refine ⟨fun u p q => by rw [e u (by omega) (by omega) (by omega)]; exact a u p q, b.trans (fun y y0 y1 hy => ⟨fun t _ _ => ⟨hm _ _ (by omega) (by omega), hm _ _ (by omega) (by omega)⟩, fun _ _ _ => hm _ _ (by omega) (by omega), ⟨hm _ _ (by omega) (by omega), hm _ _ (by omega) (by omega)⟩, fun _ _ _ => hm _ _ (by omega) (by omega), hm _ _ (by omega) (by omega), hm _ _ (by omega) (by omega), fun _ _ _ => hm _ _ (by omega) (by omega)⟩), ?_, ?_⟩
  · unfold VWa
    rw [e 28 (by decide) (by decide) (by decide), e 29 (by decide) (by decide) (by decide), e 30 (by decide) (by decide) (by decide), e 31 (by decide) (by decide) (by decide), e 32 (by decide) (by decide) (by decide), e 33 (by decide) (by decide) (by decide)]
    exact c
  · rw [e 30 (by decide) (by decide) (by decide), e 32 (by decide) (by decide) (by decide)]; exact d
theorem tch_ok {M Mg : Mem} {x k t n v : Int} {q : Int × Mem} (hx : 0 ≤ x ∧ x ≤ 11) (h32 : M 32 x ≤ 40) (h52 : P52 q) (q23 : q.1 ≤ 23) (h : TND (goM (copyM M x 12) x k t n v) x q Mg) : TOK M x (if q.1 = 23 then vw M x else q.2) (tchM x Mg) ∧ accM (tchM x Mg) x q := by
  have hc := cmM_ok h
  have fr : ∀ u i : Int, ¬ ((u = 34 ∨ u = 35) ∧ i = x) → ¬ (u = 36 ∧ 4 * x ≤ i ∧ i < 4 * x + 4) → tchM x Mg u i = (if cmM Mg = 5 then copyM Mg 12 x else Mg) u i := fun u i h1 h2 => by
    unfold tchM
    rw [mu_ne (by omega), mu_ne (by omega), mu_ne (by omega), mu_ne (by omega), mu_ne (by omega), mu_ne (by omega)]
  have v34 : tchM x Mg 34 x = if cmM Mg = 0 ∨ cmM Mg = 5 then -6 else Mg 51 0 := by
    unfold tchM
    rw [mu_ne (by omega), mu_ne (by omega), mu_ne (by omega), mu_ne (by omega), mu_ne (by omega), mu_s]
  have v35 : tchM x Mg 35 x = if cmM Mg = 1 ∨ cmM Mg = 2 then Mg 52 0 else -6 := by
    unfold tchM
    rw [mu_ne (by omega), mu_ne (by omega), mu_ne (by omega), mu_ne (by omega), mu_s]
  have v360 : tchM x Mg 36 (4 * x) = Mg 45 0 := by
    unfold tchM
    rw [mu_ne (by omega), mu_ne (by omega), mu_ne (by omega), mu_s]
  have v361 : tchM x Mg 36 (4 * x + 1) = Mg 46 0 := by
    unfold tchM
    rw [mu_ne (by omega), mu_ne (by omega), mu_s]
  have v362 : tchM x Mg 36 (4 * x + 2) = Mg 47 0 := by
    unfold tchM
    rw [mu_ne (by omega), mu_s]
  have v363 : tchM x Mg 36 (4 * x + 3) = Mg 48 0 := by
    unfold tchM
    rw [mu_s]
  unfold accM
  rw [v34, v35, v360, v361, v362, v363, hc]
  rcases h with ⟨a, b, c, d⟩ | h
  · rw [if_neg a]
    have hc5 : cmR q.1 ≠ 5 := by
      unfold cmR
      (repeat' split) <;> omega
    obtain ⟨r0, r1, r2, r3, r4, c45, c46, c47, c48⟩ := c
    obtain ⟨sd, ot, kp, z1, z2, z3, z4, z5⟩ := KS_be hx r0
    rw [hc, if_neg hc5] at fr
    refine ⟨TOK_acc ⟨sd, ot, ⟨r1, r2, r3, r4⟩, z4, z5⟩ fr, ?_, ?_, c45, c46, Or.inl c47, c48⟩
    · rcases d with ⟨d, -⟩ | ⟨d, -, e, -⟩
      · have : cmR q.1 = 0 := by unfold cmR; rw [if_pos d]
        rw [if_pos (Or.inl this), if_pos (Or.inl d)]
      · have : cmR q.1 ≠ 0 := by
          unfold cmR
          (repeat' split) <;> omega
        rw [if_neg (by omega), if_neg (by omega), e]
    · rcases d with ⟨d, -⟩ | ⟨d, -, -, e⟩
      · have : cmR q.1 = 0 := by unfold cmR; rw [if_pos d]
        rw [if_neg (by omega), if_pos (Or.inl d)]
      · rw [if_neg (show ¬ (q.1 = -6 ∨ q.1 = 23) by omega)]
        by_cases h12 : q.1 = 20 ∨ q.1 = 21
        · have : cmR q.1 = 1 ∨ cmR q.1 = 2 := by
            rcases h12 with h1 | h1
            · left; rw [h1]; rfl
            · right; rw [h1]; rfl
          rw [if_pos this, e]
        · have : ¬ (cmR q.1 = 1 ∨ cmR q.1 = 2) := by
            unfold cmR
            (repeat' split) <;> omega
          rw [if_neg this]
          exact (h52 d (by omega) (by omega)).symm
  · obtain ⟨o1, o2, o3, o4, o5, o6, o7⟩ := h
    have hc5 : cmR q.1 = 5 := by rw [o1]; rfl
    rw [hc, if_pos hc5] at fr
    rw [if_pos o1]
    exact ⟨TOK_acc (back_ok hx h32 o3).1 fr, by rw [if_pos (Or.inr hc5), if_pos (Or.inr o1)], by rw [if_neg (by omega), if_pos (Or.inr o1)], o4, o5, o6, o7⟩
