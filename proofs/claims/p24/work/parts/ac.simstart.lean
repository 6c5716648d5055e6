/-- a start: spoiled, nothing, or a frame more -/
theorem start_3 {M0 M σ Mb : Mem} {x f ob t : Int} (h : RSg M0 x M σ) (t0 : 0 ≤ t) (t1 : t < 40) (h38 : M 38 0 = f) (h44 : M 44 0 = ob) (h49 : M 49 0 = 0) (hb : BLW f Mb M) (h47 : σ 47 0 ≤ 40) (h3 : σ 28 t = 3) : ENDq M0 x f ob Mb (arE 21 t σ) (startM t M) := by
  have e : startM t M = failM 21 t M := by
    unfold startM
    rw [h.1.2.2.2.1, if_pos ((h.2.1 t t0 t1).trans h3)]
  rw [e]
  exact END_fail h h38 h44 h49 hb h47 ⟨by decide, by decide⟩
theorem start_n {M0 M σ : Mem} {x t : Int} (h : RSg M0 x M σ) (t0 : 0 ≤ t) (t1 : t < 40) (h3 : σ 28 t ≠ 3) (h0 : σ 28 t ≠ 0) : startM t M = M := by
  unfold startM
  rw [h.1.2.2.2.1, h.2.1 t t0 t1, if_neg h3, if_neg h0]
theorem start_ok {M0 M σ : Mem} {x f t : Int} (h : RSg M0 x M σ) (t0 : 0 ≤ t) (t1 : t < 40) (h38 : M 38 0 = f) (hz : σ 28 t = 0) :
    RSg M0 x (startM t M) (mu σ 28 t 1) ∧ BLW f M (startM t M) ∧ (startM t M 39 f = 1 ∧ startM t M 40 f = t ∧ startM t M 41 f = 0) ∧
    startM t M 38 0 = f + 1 ∧ startM t M 44 0 = M 44 0 ∧ startM t M 49 0 = M 49 0 ∧ startM t M 50 0 = M 50 0 := by
  have e : startM t M = mu (mu (mu (mu (mu M 28 (40 * x + t) 1) 39 f 1) 40 f t) 41 f 0) 38 0 (f + 1) := by
    have hs := h.2.1 t t0 t1
    unfold startM
    rw [h.1.2.2.2.1, hs, hz, if_neg (by decide), if_pos rfl, h38]
  rw [e]
  refine ⟨RSg_c (RSg_28 h rfl t0 t1) (fun k hk => ?_), fun j hj => ⟨?_, ?_, ?_, ?_, ?_, ?_⟩, ⟨?_, ?_, ?_⟩, ?_, ?_, ?_, ?_⟩
  · rw [mu_f _ _ _ _ (by omega), mu_f _ _ _ _ (by omega), mu_f _ _ _ _ (by omega), mu_f _ _ _ _ (by omega)]
  all_goals simp only [mu, if_true, if_false, and_true, true_and, and_false, false_and]
  all_goals first | rfl | (simp; done) | (simp; omega)
