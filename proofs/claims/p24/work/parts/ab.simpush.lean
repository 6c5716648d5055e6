/-- a body's frame is pushed -/
theorem push_ok {M0 M σ : Mem} {x f ob b : Int} (h : RSg M0 x M σ) (h38 : M 38 0 = f) (h44 : M 44 0 = ob) (hob : ¬ 30 ≤ ob) (hob0 : ob ≤ 30) :
    RSg M0 x (pushM b M) (mu σ 46 0 (if σ 46 0 < ob + 1 then ob + 1 else σ 46 0)) ∧ BLW f M (pushM b M) ∧
    (pushM b M 39 f = 0 ∧ pushM b M 40 f = b ∧ pushM b M 41 f = 0 ∧ pushM b M 42 f = -6 ∧ pushM b M 43 f = 0 ∧ pushM b M 57 f = 0) ∧
    pushM b M 38 0 = f + 1 ∧ pushM b M 44 0 = ob + 1 ∧ pushM b M 49 0 = M 49 0 ∧ pushM b M 50 0 = M 50 0 := by
  have c46 := h.2.2.2.2.2.2.1
  have hv : (if M 46 0 ≤ M 44 0 + 1 then M 44 0 + 1 else M 46 0) = (if σ 46 0 < ob + 1 then ob + 1 else σ 46 0) := by
    rw [c46, h44]
    split <;> split <;> omega
  have e : pushM b M = mu (mu (mu (mu (mu (mu (mu (mu (mu M 39 f 0) 40 f b) 41 f 0) 42 f (-6)) 43 f 0) 57 f 0) 38 0 (f + 1)) 44 0 (ob + 1)) 46 0 (if σ 46 0 < ob + 1 then ob + 1 else σ 46 0) := by
    unfold pushM
    rw [if_neg (by omega), hv, h38, h44]
  rw [e]
  refine ⟨RSg_46 (RSg_c h (fun k hk => ?_)), fun j hj => ⟨?_, ?_, ?_, ?_, ?_, ?_⟩, ⟨?_, ?_, ?_, ?_, ?_, ?_⟩, ?_, ?_, ?_, ?_⟩
  · rw [mu_f _ _ _ _ (by omega), mu_f _ _ _ _ (by omega), mu_f _ _ _ _ (by omega), mu_f _ _ _ _ (by omega), mu_f _ _ _ _ (by omega), mu_f _ _ _ _ (by omega), mu_f _ _ _ _ (by omega), mu_f _ _ _ _ (by omega)]
  all_goals simp only [mu, if_true, if_false, and_true, true_and, and_false, false_and]
  all_goals first | rfl | (simp; done) | (simp; omega)
