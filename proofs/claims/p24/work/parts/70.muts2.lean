/-! WHAT THE DESCRIPTION'S CALLS MAKE KEEPS WHAT ALWAYS HOLDS -/
theorem RT_b {M : Mem} {a b : Int} (w : WFD M) (h : RT M a b) : 0 ≤ b ∧ b < M 0 0 := by
  cases h with
  | single e => exact WFD_edge w e
  | tail _ e => exact WFD_edge w e
theorem RT_a {M : Mem} {a b : Int} (h : RT M a b) : 0 ≤ a ∧ a < M 0 0 := by
  obtain ⟨c, e, -⟩ := RT.head h
  exact ⟨e.1, e.2.1⟩
theorem RT_mono {M M1 : Mem} (h : ∀ a b, edge M a b → edge M1 a b) {a b : Int} (hr : RT M a b) : RT M1 a b := by
  induction hr with
  | single e => exact .single (h _ _ e)
  | tail _ e ih => exact .tail ih (h _ _ e)
theorem WFD.un {M : Mem} (w : WFD M) (t : Int) (h0 : M 0 0 ≤ t) (h1 : t < 40) : M 4 t = 0 ∧ M 6 t = 0 ∧ M 10 t = 0 ∧ M 12 (5 * t) = 0 := w.2.2.2.2.2.2.2.2.2.2.1 t h0 h1
theorem WFD.um {M : Mem} (w : WFD M) (t m : Int) (h0 : 0 ≤ t) (h1 : t < 40) (h2 : M 10 t ≤ m) (h3 : m < 4) : M 12 (5 * t + 1 + m) = 0 := w.2.2.2.2.2.2.2.2.2.2.2.1 t m h0 h1 h2 h3
theorem WFD.fab {M : Mem} (w : WFD M) (t : Int) (h0 : 0 ≤ t) (h1 : t < M 0 0) (h2 : M 1 t = 1) : M 3 t = -1 := w.2.2.2.2.2.2.2.2.2.2.2.2.1 t h0 h1 h2
theorem WFD.fdis {M : Mem} (w : WFD M) (t k l : Int) (h0 : 0 ≤ t) (h1 : t < M 0 0) (h2 : 0 ≤ k) (h3 : k < M 6 t) (h4 : 0 ≤ l) (h5 : l < M 6 t) (h6 : M 7 (6 * t + k) = M 7 (6 * t + l)) : k = l := w.2.2.2.2.2.1 t k l h0 h1 h2 h3 h4 h5 h6
theorem WFD.mname {M : Mem} (w : WFD M) (t k : Int) (h0 : 0 ≤ t) (h1 : t < M 0 0) (h2 : 0 ≤ k) (h3 : k < M 10 t) : 0 ≤ M 11 (4 * t + k) ∧ M 11 (4 * t + k) ≤ 9 := w.2.2.2.2.2.2.1 t k h0 h1 h2 h3
theorem WFD.mdis {M : Mem} (w : WFD M) (t k l : Int) (h0 : 0 ≤ t) (h1 : t < M 0 0) (h2 : 0 ≤ k) (h3 : k < M 10 t) (h4 : 0 ≤ l) (h5 : l < M 10 t) (h6 : M 11 (4 * t + k) = M 11 (4 * t + l)) : k = l := w.2.2.2.2.2.2.2.1 t k l h0 h1 h2 h3 h4 h5 h6
-- a new type
theorem mk_o {M : Mem} {a b up k : Int} (h0 : k ≠ 0) (h1 : k ≠ 1) (h2 : k ≠ 2) (h3 : k ≠ 3) : mkM M a b up k = M k := by
  unfold mkM
  rw [mu_f _ _ _ _ h0, mu_f _ _ _ _ h3, mu_f _ _ _ _ h2, mu_f _ _ _ _ h1]
theorem mk_0 {M : Mem} {a b up : Int} : mkM M a b up 0 0 = M 0 0 + 1 := mu_s _ _ _ _
theorem mk_1 {M : Mem} {a b up t : Int} : mkM M a b up 1 t = if t = M 0 0 then a else M 1 t := by
  unfold mkM
  rw [mu_t _ _ _ _ (by decide), mu_t _ _ _ _ (by decide), mu_t _ _ _ _ (by decide)]
  by_cases h : t = M 0 0
  · rw [if_pos h, h, mu_s]
  · rw [if_neg h, mu_i _ _ _ _ h]
theorem mk_2 {M : Mem} {a b up t : Int} : mkM M a b up 2 t = if t = M 0 0 then b else M 2 t := by
  unfold mkM
  rw [mu_t _ _ _ _ (by decide), mu_t _ _ _ _ (by decide)]
  by_cases h : t = M 0 0
  · rw [if_pos h, h, mu_s]
  · rw [if_neg h, mu_i _ _ _ _ h, mu_t _ _ _ _ (by decide)]
theorem mk_3 {M : Mem} {a b up t : Int} : mkM M a b up 3 t = if t = M 0 0 then up else M 3 t := by
  unfold mkM
  rw [mu_t _ _ _ _ (by decide)]
  by_cases h : t = M 0 0
  · rw [if_pos h, h, mu_s]
  · rw [if_neg h, mu_i _ _ _ _ h, mu_t _ _ _ _ (by decide), mu_t _ _ _ _ (by decide)]
theorem mk_edge {M : Mem} {a b up x y : Int} (w : WFD M) (hn : M 0 0 < 40) : edge (mkM M a b up) x y ↔ edge M x y ∨ (x = M 0 0 ∧ y = up ∧ 0 ≤ up) := by
  have h0 := w.n
  have hu := w.un (M 0 0) (Int.le_refl _) hn
  unfold edge
  rw [mk_0, mk_3, mk_o (k := 4) (by decide) (by decide) (by decide) (by decide), mk_o (k := 5) (by decide) (by decide) (by decide) (by decide)]
  constructor
  · rintro ⟨x0, x1, h⟩
    by_cases hx : x = M 0 0
    · rw [if_pos hx] at h
      rcases h with ⟨h, h2⟩ | ⟨k, k0, k1, -⟩
      · exact Or.inr ⟨hx, h, by omega⟩
      · rw [hx, hu.1] at k1; omega
    · rw [if_neg hx] at h
      exact Or.inl ⟨x0, by omega, h⟩
  · rintro (⟨x0, x1, h⟩ | ⟨hx, hy, h⟩)
    · rw [if_neg (by omega)]
      exact ⟨x0, by omega, h⟩
    · rw [if_pos hx]
      exact ⟨by omega, by omega, Or.inl ⟨hy, by omega⟩⟩
theorem mk_RT {M : Mem} {a b up x y : Int} (w : WFD M) (hn : M 0 0 < 40) (hx : x ≠ M 0 0) : RT (mkM M a b up) x y ↔ RT M x y := by
  constructor
  · intro h
    induction h with
    | single e => exact .single (((mk_edge w hn).mp e).resolve_right (fun q => hx q.1))
    | tail _ e ih => exact .tail ih (((mk_edge w hn).mp e).resolve_right (fun q => by have := RT_b w ih; omega))
  · exact RT_mono (fun _ _ e => (mk_edge w hn).mpr (Or.inl e))
theorem mk_RTn {M : Mem} {a b up y : Int} (w : WFD M) (hn : M 0 0 < 40) (hu : up < M 0 0) : RT (mkM M a b up) (M 0 0) y ↔ 0 ≤ up ∧ RS M up y := by
  constructor
  · intro h
    obtain ⟨c, e, h1⟩ := RT.head h
    rcases (mk_edge w hn).mp e with e | ⟨-, rfl, h2⟩
    · have := e.2.1; omega
    · refine ⟨h2, ?_⟩
      rcases h1 with h1 | h1
      · exact Or.inl h1
      · exact Or.inr ((mk_RT w hn (by omega)).mp h1)
  · rintro ⟨h0, h1⟩
    have e : edge (mkM M a b up) (M 0 0) up := (mk_edge w hn).mpr (Or.inr ⟨rfl, rfl, h0⟩)
    rcases h1 with h1 | h1
    · rw [← h1]; exact .single e
    · exact Relation.TransGen.trans (.single e) ((mk_RT w hn (by omega)).mpr h1)
theorem WFD_mk {M : Mem} {a b up : Int} (w : WFD M) (hn : M 0 0 < 40) (hup : -1 ≤ up ∧ up < M 0 0) (hf : a = 1 → up = -1) (hc : 0 ≤ up → M 1 up ≠ 1) : WFD (mkM M a b up) := by
  have h0 := w.n
  have o : ∀ k : Int, k ≠ 0 → k ≠ 1 → k ≠ 2 → k ≠ 3 → mkM M a b up k = M k := fun k h0 h1 h2 h3 => mk_o h0 h1 h2 h3
  have ha : ∀ x, ¬ RT (mkM M a b up) x x := by
    intro x hx
    by_cases h : x = M 0 0
    · rw [h, mk_RTn w hn hup.2] at hx
      rcases hx.2 with q | q
      · omega
      · have := RT_b w q; omega
    · exact w.acyc x ((mk_RT w hn h).mp hx)
  unfold WFD ACT
  rw [mk_0, o 4 (by decide) (by decide) (by decide) (by decide), o 5 (by decide) (by decide) (by decide) (by decide), o 6 (by decide) (by decide) (by decide) (by decide), o 7 (by decide) (by decide) (by decide) (by decide), o 10 (by decide) (by decide) (by decide) (by decide), o 11 (by decide) (by decide) (by decide) (by decide), o 12 (by decide) (by decide) (by decide) (by decide), o 13 (by decide) (by decide) (by decide) (by decide), o 14 (by decide) (by decide) (by decide) (by decide), o 15 (by decide) (by decide) (by decide) (by decide), o 16 (by decide) (by decide) (by decide) (by decide), o 17 (by decide) (by decide) (by decide) (by decide)]
  have hu := w.un (M 0 0) (Int.le_refl _) hn
  have hx : ∀ t : Int, t < M 0 0 + 1 → t = M 0 0 ∨ t < M 0 0 := fun t h => by omega
  refine ⟨by omega, fun t t0 t1 => w.cnt t t0 t1, fun t t0 t1 => ?_, fun t k t0 t1 k0 k1 => ?_, fun t k t0 t1 k0 k1 => ?_, fun t k l t0 t1 k0 k1 l0 l1 hh => ?_, fun t k t0 t1 k0 k1 => ?_, fun t k l t0 t1 k0 k1 l0 l1 hh => ?_, w.size, fun b j b0 b1 j0 j1 => ?_, fun t t0 t1 => w.un t (by omega) t1, w.um, fun t t0 t1 h1 => ?_, w.w, ha⟩
  · rw [mk_3]
    rcases hx t t1 with h | h
    · rw [if_pos h]; omega
    · rw [if_neg (by omega)]; exact w.above t t0 h
  · rcases hx t t1 with h | h
    · rw [h, hu.1] at k1; omega
    · have := w.face t k t0 h k0 k1
      rw [mk_1, if_neg (by omega)]
      exact ⟨this.1, by omega, this.2.2⟩
  · rcases hx t t1 with h | h
    · rw [h, hu.2.1] at k1; omega
    · exact w.fname t k t0 h k0 k1
  · rcases hx t t1 with h | h
    · rw [h, hu.2.1] at k1; omega
    · exact w.fdis t k l t0 h k0 k1 l0 l1 hh
  · rcases hx t t1 with h | h
    · rw [h, hu.2.2.1] at k1; omega
    · exact w.mname t k t0 h k0 k1
  · rcases hx t t1 with h | h
    · rw [h, hu.2.2.1] at k1; omega
    · exact w.mdis t k l t0 h k0 k1 l0 l1 hh
  · have := w.act b j b0 b1 j0 j1
    unfold ACT at this
    exact ⟨this.1, fun q1 q2 => by have := this.2.1 q1 q2; omega, this.2.2⟩
  · rw [mk_3]
    rw [mk_1] at h1
    rcases hx t t1 with h | h
    · rw [if_pos h]; rw [if_pos h] at h1; exact hf h1
    · rw [if_neg (by omega)]; rw [if_neg (by omega)] at h1; exact w.fab t t0 h h1
-- what is found stays, where the own ones and the ways stay
theorem FC_same {g g1 : Int → Int} {M M1 : Mem} {t : Int} (h3 : M1 3 t = M 3 t) (h4 : M1 4 t = M 4 t) (h5 : ∀ k : Int, 0 ≤ k → k < M 4 t → M1 5 (4 * t + k) = M 5 (4 * t + k)) (ha : 0 ≤ M 3 t → g1 (M 3 t) = g (M 3 t)) (hf : ∀ k : Int, 0 ≤ k → k < M 4 t → g1 (M 5 (4 * t + k)) = g (M 5 (4 * t + k))) : ∀ j : Nat, j ≤ (M 4 t).toNat → FC g1 M1 t j = FC g M t j := by
  intro j
  induction j with
  | zero =>
    intro _
    unfold FC
    rw [h3]
    split
    · rfl
    · exact ha (by omega)
  | succ j ih =>
    intro hj
    unfold FC
    rw [ih (by omega), h4, h5 (M 4 t - 1 - j) (by omega) (by omega), hf (M 4 t - 1 - j) (by omega) (by omega)]
theorem FF_same {M M1 : Mem} {nm : Int} (w : WFD M) (w1 : WFD M1) (hn : M 0 0 ≤ M1 0 0) (hp : ∀ t : Int, 0 ≤ t → t < M 0 0 → pF M1 t nm = pF M t nm) (h3 : ∀ t : Int, 0 ≤ t → t < M 0 0 → M1 3 t = M 3 t ∧ M1 4 t = M 4 t ∧ ∀ k : Int, 0 ≤ k → k < M 4 t → M1 5 (4 * t + k) = M 5 (4 * t + k)) : ∀ (n : Nat) (t : Int), rk M t ≤ n → 0 ≤ t → t < M 0 0 → FF M1 nm t = FF M nm t := by
  intro n
  induction n with
  | zero =>
    intro t hr t0 t1
    have hh := h3 t t0 t1
    rw [FF_eq w1 nm t0 (by omega), FF_eq w nm t0 t1, hp t t0 t1, hh.2.1]
    rw [FC_same hh.1 hh.2.1 hh.2.2 (fun q => by have := rk_edge w (a := t) (b := M 3 t) ⟨t0, t1, Or.inl ⟨rfl, q⟩⟩; omega) (fun k k0 k1 => by have := rk_edge w (a := t) (b := M 5 (4 * t + k)) ⟨t0, t1, Or.inr ⟨k, k0, k1, rfl⟩⟩; omega) _ (Nat.le_refl _)]
  | succ n ih =>
    intro t hr t0 t1
    have hh := h3 t t0 t1
    rw [FF_eq w1 nm t0 (by omega), FF_eq w nm t0 t1, hp t t0 t1, hh.2.1]
    rw [FC_same hh.1 hh.2.1 hh.2.2 (fun q => by
      have e : edge M t (M 3 t) := ⟨t0, t1, Or.inl ⟨rfl, q⟩⟩
      have := rk_edge w e
      have := WFD_edge w e
      exact ih _ (by omega) (by omega) (by omega)) (fun k k0 k1 => by
      have e : edge M t (M 5 (4 * t + k)) := ⟨t0, t1, Or.inr ⟨k, k0, k1, rfl⟩⟩
      have := rk_edge w e
      have := WFD_edge w e
      exact ih _ (by omega) (by omega) (by omega)) _ (Nat.le_refl _)]
theorem FO_same {M M1 : Mem} {nm t : Int} (h : FF M1 nm t = FF M nm t) : FO M1 t nm = FO M t nm := by
  unfold FO
  rw [h]
theorem FF_mk {M : Mem} {a b up nm t : Int} (w : WFD M) (w1 : WFD (mkM M a b up)) (t0 : 0 ≤ t) (t1 : t < M 0 0) : FF (mkM M a b up) nm t = FF M nm t := by
  refine FF_same w w1 (by rw [mk_0]; omega) (fun u u0 u1 => pF_congr (mk_o (by decide) (by decide) (by decide) (by decide)) (mk_o (by decide) (by decide) (by decide) (by decide)) u nm) (fun u u0 u1 => ⟨by rw [mk_3, if_neg (by omega)], by rw [mk_o (by decide) (by decide) (by decide) (by decide)], fun k _ _ => by rw [mk_o (by decide) (by decide) (by decide) (by decide)]⟩) _ t (Nat.le_refl _) t0 t1
-- a type is UNDER a face, too
def undX (M : Mem) (t f : Int) : Mem := mu (mu M 5 (4 * t + M 4 t) f) 4 t (M 4 t + 1)
theorem un_o {M : Mem} {t f k : Int} (h4 : k ≠ 4) (h5 : k ≠ 5) : undX M t f k = M k := by
  unfold undX
  rw [mu_f _ _ _ _ h4, mu_f _ _ _ _ h5]
theorem un_4 {M : Mem} {t f x : Int} : undX M t f 4 x = if x = t then M 4 t + 1 else M 4 x := by
  unfold undX
  by_cases h : x = t
  · rw [if_pos h, h, mu_s]
  · rw [if_neg h, mu_i _ _ _ _ h, mu_t _ _ _ _ (by decide)]
theorem un_5 {M : Mem} {t f x : Int} : undX M t f 5 x = if x = 4 * t + M 4 t then f else M 5 x := by
  unfold undX
  rw [mu_t _ _ _ _ (by decide)]
  by_cases h : x = 4 * t + M 4 t
  · rw [if_pos h, h, mu_s]
  · rw [if_neg h, mu_i _ _ _ _ h]
theorem un_edge {M : Mem} {t f x y : Int} (w : WFD M) (t0 : 0 ≤ t) (t1 : t < M 0 0) (hc : M 4 t < 4) : edge (undX M t f) x y ↔ edge M x y ∨ (x = t ∧ y = f) := by
  have hn := w.n
  have hct := (w.cnt t t0 (by omega)).1
  unfold edge
  rw [un_o (k := 0) (by decide) (by decide), un_o (k := 3) (by decide) (by decide)]
  constructor
  · rintro ⟨x0, x1, h | ⟨k, k0, k1, h⟩⟩
    · exact Or.inl ⟨x0, x1, Or.inl h⟩
    · rw [un_4] at k1
      rw [un_5] at h
      have hcx := (w.cnt x x0 (by omega)).1
      by_cases hx : x = t
      · subst hx
        rw [if_pos rfl] at k1
        by_cases hk : k = M 4 x
        · rw [if_pos (by omega)] at h; exact Or.inr ⟨rfl, h⟩
        · rw [if_neg (by omega)] at h; exact Or.inl ⟨x0, x1, Or.inr ⟨k, k0, by omega, h⟩⟩
      · rw [if_neg hx] at k1
        rw [if_neg (by omega)] at h
        exact Or.inl ⟨x0, x1, Or.inr ⟨k, k0, k1, h⟩⟩
  · rintro (⟨x0, x1, h | ⟨k, k0, k1, h⟩⟩ | ⟨rfl, rfl⟩)
    · exact ⟨x0, x1, Or.inl h⟩
    · have hcx := (w.cnt x x0 (by omega)).1
      refine ⟨x0, x1, Or.inr ⟨k, k0, ?_, ?_⟩⟩
      · rw [un_4]; split
        · rename_i q; rw [q] at k1; omega
        · exact k1
      · rw [un_5, if_neg]
        · exact h
        · intro q
          by_cases hx : x = t
          · subst hx; omega
          · omega
    · exact ⟨t0, t1, Or.inr ⟨M 4 x, hct.1, by rw [un_4, if_pos rfl]; omega, by rw [un_5, if_pos rfl]⟩⟩
theorem un_RT {M : Mem} {t f x y : Int} (w : WFD M) (t0 : 0 ≤ t) (t1 : t < M 0 0) (hc : M 4 t < 4) : RT (undX M t f) x y ↔ RT M x y ∨ (RS M x t ∧ RS M f y) := by
  constructor
  · intro h
    induction h with
    | single e =>
      rcases (un_edge w t0 t1 hc).mp e with e | ⟨h1, h2⟩
      · exact Or.inl (.single e)
      · exact Or.inr ⟨Or.inl h1, Or.inl h2.symm⟩
    | tail _ e ih =>
      rcases (un_edge w t0 t1 hc).mp e with e | ⟨h1, h2⟩
      · rcases ih with ih | ih
        · exact Or.inl (.tail ih e)
        · exact Or.inr ⟨ih.1, ih.2.tail e⟩
      · rcases ih with ih | ih
        · exact Or.inr ⟨Or.inr (h1 ▸ ih), Or.inl h2.symm⟩
        · exact Or.inr ⟨ih.1, Or.inl h2.symm⟩
  · have hm : ∀ a b, edge M a b → edge (undX M t f) a b := fun a b e => (un_edge w t0 t1 hc).mpr (Or.inl e)
    have he : edge (undX M t f) t f := (un_edge w t0 t1 hc).mpr (Or.inr ⟨rfl, rfl⟩)
    rintro (h | ⟨h1, h2⟩)
    · exact RT_mono hm h
    · have g : RT (undX M t f) x f := by
        rcases h1 with h1 | h1
        · rw [h1]; exact .single he
        · exact .tail (RT_mono hm h1) he
      rcases h2 with h2 | h2
      · rw [← h2]; exact g
      · exact g.trans (RT_mono hm h2)
theorem WFD_un {M : Mem} {t f : Int} (w : WFD M) (t0 : 0 ≤ t) (t1 : t < M 0 0) (hc : M 4 t < 4) (f0 : 0 ≤ f) (f1 : f < M 0 0) (hf : M 1 f = 1) (hr : ¬ RS M f t) : WFD (undX M t f) := by
  have hn := w.n
  have hct := (w.cnt t t0 (by omega)).1
  have o : ∀ k : Int, k ≠ 4 → k ≠ 5 → undX M t f k = M k := fun k h0 h1 => un_o h0 h1
  have ha : ∀ x, ¬ RT (undX M t f) x x := by
    intro x hx
    rcases (un_RT w t0 t1 hc).mp hx with h | ⟨h1, h2⟩
    · exact w.acyc x h
    · exact hr (h2.trans h1)
  unfold WFD ACT
  rw [o 0 (by decide) (by decide), o 1 (by decide) (by decide), o 3 (by decide) (by decide), o 6 (by decide) (by decide), o 7 (by decide) (by decide), o 10 (by decide) (by decide), o 11 (by decide) (by decide), o 12 (by decide) (by decide), o 13 (by decide) (by decide), o 14 (by decide) (by decide), o 15 (by decide) (by decide), o 16 (by decide) (by decide), o 17 (by decide) (by decide)]
  refine ⟨w.n, fun x x0 x1 => ?_, w.above, fun x k x0 x1 k0 k1 => ?_, w.fname, w.fdis, w.mname, w.mdis, w.size, w.act, fun x x0 x1 => ?_, w.um, w.fab, w.w, ha⟩
  · have := w.cnt x x0 x1
    rw [un_4]
    refine ⟨?_, this.2⟩
    split
    · omega
    · exact this.1
  · rw [un_4] at k1
    have hcx := (w.cnt x x0 (by omega)).1
    rw [un_5]
    by_cases hx : x = t
    · subst hx
      rw [if_pos rfl] at k1
      by_cases hk : k = M 4 x
      · rw [if_pos (by omega)]; exact ⟨f0, f1, hf⟩
      · rw [if_neg (by omega)]; exact w.face x k x0 x1 k0 (by omega)
    · rw [if_neg hx] at k1
      rw [if_neg (by omega)]
      exact w.face x k x0 x1 k0 k1
  · rw [un_4, if_neg (by omega)]
    exact w.un x x0 x1
