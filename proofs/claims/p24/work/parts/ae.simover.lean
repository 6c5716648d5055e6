/-- beyond what may be spent -/
theorem over_end {M0 M Mb σ : Mem} {x f ob : Int} (h : RSg M0 x M σ) : ENDq M0 x f ob Mb (23, σ) (mu M 49 0 1) := by
  obtain ⟨k0, -, -, -, -, c45, c46, c47, c48⟩ := h
  right
  refine ⟨rfl, by rw [mu_s], KS_c k0 (fun k hk => mu_f _ _ _ _ (by omega)), ?_, ?_, Or.inl ?_, ?_⟩
  · rw [mu_ne (by omega)]; exact c45
  · rw [mu_ne (by omega)]; exact c46
  · rw [mu_ne (by omega)]; exact c47
  · rw [mu_ne (by omega)]; exact c48
theorem push_over {M0 M Mb σ : Mem} {x f ob b : Int} (h : RSg M0 x M σ) (h44 : M 44 0 = ob) (hob : ob = 30) : ENDq M0 x f ob Mb (23, σ) (pushM b M) := by
  have e : pushM b M = mu M 49 0 1 := by unfold pushM; rw [if_pos (by omega)]
  rw [e]
  exact over_end h
