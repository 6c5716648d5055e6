noncomputable def toldR (M : Mem) (t what : Int) : Int :=
  if ¬ (0 ≤ what ∧ what ≤ 9) then -2 else if what = 0 then M 0 0 else if what = 1 then M 17 0 else if ¬ (0 ≤ t ∧ t < M 0 0) then -1
  else if what = 2 then M 1 t else if what = 3 then M 2 t else if what = 4 then (if M 3 t < 0 then -6 else M 3 t) else if what = 5 then M 4 t else if what = 6 then M 6 t else if what = 7 then M 10 t else if what = 8 then M 12 (5 * t)
  else (cntP (fun k => k ≠ t ∧ RS M k t) (M 0 0).toNat : Int)
noncomputable def belowR (M : Mem) (t u : Int) : Int := if ¬ (0 ≤ t ∧ t < M 0 0) ∨ ¬ (0 ≤ u ∧ u < M 0 0) then -1 else @ite Int (t ≠ u ∧ RS M t u) (Classical.propDecidable _) 1 0
def foundR (M : Mem) (t nm me : Int) : Int := if ¬ (0 ≤ t ∧ t < M 0 0) then -1 else if ¬ (0 ≤ nm ∧ nm ≤ 9) then -2 else if me ≠ 0 then (if FM M nm t < 0 then -6 else FM M nm t / 5) else (if FF M nm t < 0 then -6 else FF M nm t / 6)
theorem mu_cong {A B : Mem} {t i x k : Int} (h : A k = B k) : mu A t i x k = mu B t i x k := by
  funext j
  unfold mu
  rw [h]
theorem SD_RS {M M1 : Mem} (h : SD M M1) : RS M1 = RS M := by
  funext a b
  unfold RS RT
  rw [SD_edge h]
