/-! a stretch of a row filled, a stretch copied -/
def fillM (M : Mem) (k b c v : Int) : Mem := fun k1 i => if k1 = k ∧ b ≤ i ∧ i < b + c then v else M k1 i
theorem fillM_0 (M : Mem) (k b v : Int) : fillM M k b 0 v = M := by
  funext k1 i
  unfold fillM
  rw [if_neg (by omega)]
theorem fillM_s (M : Mem) {k b c v : Int} (h : 0 ≤ c) : mu (fillM M k b c v) k (b + c) v = fillM M k b (c + 1) v := by
  funext k1 i
  unfold mu fillM
  by_cases h1 : k1 = k ∧ i = b + c
  · rw [if_pos h1, if_pos (by omega)]
  · rw [if_neg h1]
    by_cases h2 : k1 = k ∧ b ≤ i ∧ i < b + c
    · rw [if_pos h2, if_pos (by omega)]
    · rw [if_neg h2, if_neg (by omega)]
def cpM (M : Mem) (k bt bf c : Int) : Mem := fun k1 i => if k1 = k ∧ bt ≤ i ∧ i < bt + c then M k (bf + (i - bt)) else M k1 i
theorem cpM_0 (M : Mem) (k bt bf : Int) : cpM M k bt bf 0 = M := by
  funext k1 i
  unfold cpM
  rw [if_neg (by omega)]
theorem cpM_s (M : Mem) {k bt bf c : Int} (h : 0 ≤ c) : mu (cpM M k bt bf c) k (bt + c) (M k (bf + c)) = cpM M k bt bf (c + 1) := by
  funext k1 i
  unfold mu cpM
  by_cases h1 : k1 = k ∧ i = bt + c
  · rw [if_pos h1, if_pos (by omega), h1.2, show bf + (bt + c - bt) = bf + c by omega]
  · rw [if_neg h1]
    by_cases h2 : k1 = k ∧ bt ≤ i ∧ i < bt + c
    · rw [if_pos h2, if_pos (by omega)]
    · rw [if_neg h2, if_neg (by omega)]
theorem cpM_o (M : Mem) {k bt bf c k1 i : Int} (h : k1 ≠ k ∨ i < bt ∨ bt + c ≤ i) : cpM M k bt bf c k1 i = M k1 i := by
  unfold cpM
  rw [if_neg (by omega)]
theorem cpM_f (M : Mem) {k bt bf c k1 : Int} (h : k1 ≠ k) : cpM M k bt bf c k1 = M k1 := funext fun i => cpM_o M (Or.inl h)
theorem mu_cp (M : Mem) {k bt bf c k1 i x : Int} (h : k1 ≠ k) : mu (cpM M k bt bf c) k1 i x = cpM (mu M k1 i x) k bt bf c := by
  funext k2 j
  unfold mu cpM
  by_cases h1 : k2 = k1 ∧ j = i
  · rw [if_pos h1, if_neg (by omega)]
    show x = if k2 = k1 ∧ j = i then x else M k2 j
    rw [if_pos h1]
  · rw [if_neg h1]
    by_cases h2 : k2 = k ∧ bt ≤ j ∧ j < bt + c
    · rw [if_pos h2, if_pos h2]
      show M k (bf + (j - bt)) = if k = k1 ∧ bf + (j - bt) = i then x else M k (bf + (j - bt))
      rw [if_neg (by omega)]
    · rw [if_neg h2, if_neg h2]
      show M k2 j = if k2 = k1 ∧ j = i then x else M k2 j
      rw [if_neg h1]
def worldR (M : Mem) : Int := if M 17 0 = 12 then -4 else if M 0 0 = 0 then -5 else M 17 0
def newW (M : Mem) (x : Int) : Mem := mu (fillM (mu (mu (mu (mu (fillM (fillM M 28 (40 * x) 40 0) 29 (240 * x) 240 0) 30 x 0) 32 x 0) 34 x (-6)) 35 x (-6)) 36 (4 * x) 4 0) 17 0 (x + 1)
def worldM (M : Mem) : Mem := if 0 ≤ worldR M then newW M (M 17 0) else M
def copyM (M : Mem) (a b : Int) : Mem := mu (mu (cpM (cpM (cpM (cpM M 28 (40 * b) (40 * a) 40) 33 (40 * b) (40 * a) 40) 29 (240 * b) (240 * a) 240) 31 (300 * b) (300 * a) 300) 30 b (M 30 a)) 32 b (M 32 a)
