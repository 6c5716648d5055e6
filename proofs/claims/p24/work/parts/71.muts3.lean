/-! FIELDS, METHODS, ACTIONS keep what always holds -/
theorem RT_same {M M1 : Mem} (h0 : M1 0 = M 0) (h3 : M1 3 = M 3) (h4 : M1 4 = M 4) (h5 : M1 5 = M 5) : edge M1 = edge M := by
  funext a b
  unfold edge
  rw [h0, h3, h4, h5]
theorem lastAt_pos {f : Int → Int} {b nm : Int} {k : Nat} (h : lastAt f b nm k < 0) : ∀ j : Int, 0 ≤ j → j < k → f (b + j) ≠ nm := lastAt_some f b nm k ((lastAt_lt f b nm k).resolve_right (fun q => by omega))
-- a field
def fldX (M : Mem) (t nm c v : Int) : Mem := mu (mu (mu (mu M 7 (6 * t + M 6 t) nm) 8 (6 * t + M 6 t) c) 9 (6 * t + M 6 t) v) 6 t (M 6 t + 1)
theorem fl_o {M : Mem} {t nm c v k : Int} (h6 : k ≠ 6) (h7 : k ≠ 7) (h8 : k ≠ 8) (h9 : k ≠ 9) : fldX M t nm c v k = M k := by
  unfold fldX
  rw [mu_f _ _ _ _ h6, mu_f _ _ _ _ h9, mu_f _ _ _ _ h8, mu_f _ _ _ _ h7]
theorem fl_6 {M : Mem} {t nm c v x : Int} : fldX M t nm c v 6 x = if x = t then M 6 t + 1 else M 6 x := by
  unfold fldX
  by_cases h : x = t
  · rw [if_pos h, h, mu_s]
  · rw [if_neg h, mu_i _ _ _ _ h, mu_t _ _ _ _ (by decide), mu_t _ _ _ _ (by decide), mu_t _ _ _ _ (by decide)]
theorem fl_7 {M : Mem} {t nm c v x : Int} : fldX M t nm c v 7 x = if x = 6 * t + M 6 t then nm else M 7 x := by
  unfold fldX
  rw [mu_t _ _ _ _ (by decide), mu_t _ _ _ _ (by decide), mu_t _ _ _ _ (by decide)]
  by_cases h : x = 6 * t + M 6 t
  · rw [if_pos h, h, mu_s]
  · rw [if_neg h, mu_i _ _ _ _ h]
theorem fl_8 {M : Mem} {t nm c v x : Int} : fldX M t nm c v 8 x = if x = 6 * t + M 6 t then c else M 8 x := by
  unfold fldX
  rw [mu_t _ _ _ _ (by decide), mu_t _ _ _ _ (by decide)]
  by_cases h : x = 6 * t + M 6 t
  · rw [if_pos h, h, mu_s]
  · rw [if_neg h, mu_i _ _ _ _ h, mu_t _ _ _ _ (by decide)]
theorem fl_9 {M : Mem} {t nm c v x : Int} : fldX M t nm c v 9 x = if x = 6 * t + M 6 t then v else M 9 x := by
  unfold fldX
  rw [mu_t _ _ _ _ (by decide)]
  by_cases h : x = 6 * t + M 6 t
  · rw [if_pos h, h, mu_s]
  · rw [if_neg h, mu_i _ _ _ _ h, mu_t _ _ _ _ (by decide), mu_t _ _ _ _ (by decide)]
theorem fl_edge {M : Mem} {t nm c v : Int} : edge (fldX M t nm c v) = edge M := RT_same (fl_o (by decide) (by decide) (by decide) (by decide)) (fl_o (by decide) (by decide) (by decide) (by decide)) (fl_o (by decide) (by decide) (by decide) (by decide)) (fl_o (by decide) (by decide) (by decide) (by decide))
theorem fl_oF {M : Mem} {t nm c v x u : Int} (w : WFD M) (t0 : 0 ≤ t) (t1 : t < 40) (h6 : M 6 t < 6) (x0 : 0 ≤ x) (x1 : x < 40) : oF (fldX M t nm c v) x u = if x = t ∧ u = nm then M 6 t else oF M x u := by
  have hct := (w.cnt t t0 t1).2.1
  have hcx := (w.cnt x x0 x1).2.1
  unfold oF
  rw [fl_6]
  by_cases hx : x = t
  · subst hx
    rw [if_pos rfl, show (M 6 x + 1).toNat = (M 6 x).toNat + 1 by omega]
    show (if fldX M x nm c v 7 (6 * x + ((M 6 x).toNat : Nat)) = u then (((M 6 x).toNat : Nat) : Int) else lastAt (fldX M x nm c v 7) (6 * x) u (M 6 x).toNat) = _
    rw [show (((M 6 x).toNat : Nat) : Int) = M 6 x by omega, fl_7, if_pos rfl]
    by_cases hu : u = nm
    · rw [if_pos hu.symm, if_pos ⟨rfl, hu⟩]
    · rw [if_neg (fun q => hu q.symm), if_neg (fun q => hu q.2)]
      exact lastAt_congr _ (fun j j0 j1 => by rw [fl_7, if_neg (by omega)])
  · rw [if_neg hx, if_neg (fun q => hx q.1)]
    exact lastAt_congr _ (fun j j0 j1 => by rw [fl_7, if_neg (by omega)])
theorem WFD_fl {M : Mem} {t nm c v : Int} (w : WFD M) (t0 : 0 ≤ t) (t1 : t < M 0 0) (n0 : 0 ≤ nm) (n1 : nm ≤ 9) (h6 : M 6 t < 6) (ho : oF M t nm < 0) : WFD (fldX M t nm c v) := by
  have hn := w.n
  have hct := (w.cnt t t0 (by omega)).2.1
  have hd : ∀ j : Int, 0 ≤ j → j < M 6 t → M 7 (6 * t + j) ≠ nm := fun j j0 j1 => lastAt_pos ho j j0 (by omega)
  have o : ∀ k : Int, k ≠ 6 → k ≠ 7 → k ≠ 8 → k ≠ 9 → fldX M t nm c v k = M k := fun k a b c d => fl_o a b c d
  unfold WFD ACT RT
  rw [fl_edge, o 0 (by decide) (by decide) (by decide) (by decide), o 1 (by decide) (by decide) (by decide) (by decide), o 3 (by decide) (by decide) (by decide) (by decide), o 4 (by decide) (by decide) (by decide) (by decide), o 5 (by decide) (by decide) (by decide) (by decide), o 10 (by decide) (by decide) (by decide) (by decide), o 11 (by decide) (by decide) (by decide) (by decide), o 12 (by decide) (by decide) (by decide) (by decide), o 13 (by decide) (by decide) (by decide) (by decide), o 14 (by decide) (by decide) (by decide) (by decide), o 15 (by decide) (by decide) (by decide) (by decide), o 16 (by decide) (by decide) (by decide) (by decide), o 17 (by decide) (by decide) (by decide) (by decide)]
  refine ⟨w.n, fun x x0 x1 => ?_, w.above, w.face, fun x k x0 x1 k0 k1 => ?_, fun x k l x0 x1 k0 k1 l0 l1 hh => ?_, w.mname, w.mdis, w.size, w.act, fun x x0 x1 => ?_, w.um, w.fab, w.w, w.acyc⟩
  · have := w.cnt x x0 x1
    rw [fl_6]
    refine ⟨this.1, ?_, this.2.2⟩
    split
    · omega
    · exact this.2.1
  · rw [fl_6] at k1
    have hcx := (w.cnt x x0 (by omega)).2.1
    rw [fl_7]
    split
    · omega
    · rename_i hne
      split at k1
      · rename_i hx; subst hx; exact w.fname x k x0 x1 k0 (by omega)
      · exact w.fname x k x0 x1 k0 k1
  · rw [fl_6] at k1 l1
    have hcx := (w.cnt x x0 (by omega)).2.1
    rw [fl_7, fl_7] at hh
    by_cases hx : x = t
    · subst hx
      rw [if_pos rfl] at k1 l1
      by_cases hk : k = M 6 x
      · by_cases hl : l = M 6 x
        · omega
        · rw [if_pos (by omega), if_neg (by omega)] at hh
          exact absurd hh.symm (hd l l0 (by omega))
      · by_cases hl : l = M 6 x
        · rw [if_neg (by omega), if_pos (by omega)] at hh
          exact absurd hh (hd k k0 (by omega))
        · rw [if_neg (by omega), if_neg (by omega)] at hh
          exact w.fdis x k l x0 x1 k0 (by omega) l0 (by omega) hh
    · rw [if_neg hx] at k1 l1
      rw [if_neg (by omega), if_neg (by omega)] at hh
      exact w.fdis x k l x0 x1 k0 k1 l0 l1 hh
  · rw [fl_6, if_neg (by omega)]
    exact w.un x x0 x1
-- a method
def mthX (M : Mem) (t nm : Int) : Mem := mu (mu M 11 (4 * t + M 10 t) nm) 10 t (M 10 t + 1)
theorem mt_o {M : Mem} {t nm k : Int} (h0 : k ≠ 10) (h1 : k ≠ 11) : mthX M t nm k = M k := by
  unfold mthX
  rw [mu_f _ _ _ _ h0, mu_f _ _ _ _ h1]
theorem mt_10 {M : Mem} {t nm x : Int} : mthX M t nm 10 x = if x = t then M 10 t + 1 else M 10 x := by
  unfold mthX
  by_cases h : x = t
  · rw [if_pos h, h, mu_s]
  · rw [if_neg h, mu_i _ _ _ _ h, mu_t _ _ _ _ (by decide)]
theorem mt_11 {M : Mem} {t nm x : Int} : mthX M t nm 11 x = if x = 4 * t + M 10 t then nm else M 11 x := by
  unfold mthX
  rw [mu_t _ _ _ _ (by decide)]
  by_cases h : x = 4 * t + M 10 t
  · rw [if_pos h, h, mu_s]
  · rw [if_neg h, mu_i _ _ _ _ h]
theorem mt_edge {M : Mem} {t nm : Int} : edge (mthX M t nm) = edge M := RT_same (mt_o (by decide) (by decide)) (mt_o (by decide) (by decide)) (mt_o (by decide) (by decide)) (mt_o (by decide) (by decide))
theorem mt_oM {M : Mem} {t nm x u : Int} (w : WFD M) (t0 : 0 ≤ t) (t1 : t < 40) (h6 : M 10 t < 4) (x0 : 0 ≤ x) (x1 : x < 40) : oM (mthX M t nm) x u = if x = t ∧ u = nm then M 10 t else oM M x u := by
  have hct := (w.cnt t t0 t1).2.2
  have hcx := (w.cnt x x0 x1).2.2
  unfold oM
  rw [mt_10]
  by_cases hx : x = t
  · subst hx
    rw [if_pos rfl, show (M 10 x + 1).toNat = (M 10 x).toNat + 1 by omega]
    show (if mthX M x nm 11 (4 * x + ((M 10 x).toNat : Nat)) = u then (((M 10 x).toNat : Nat) : Int) else lastAt (mthX M x nm 11) (4 * x) u (M 10 x).toNat) = _
    rw [show (((M 10 x).toNat : Nat) : Int) = M 10 x by omega, mt_11, if_pos rfl]
    by_cases hu : u = nm
    · rw [if_pos hu.symm, if_pos ⟨rfl, hu⟩]
    · rw [if_neg (fun q => hu q.symm), if_neg (fun q => hu q.2)]
      exact lastAt_congr _ (fun j j0 j1 => by rw [mt_11, if_neg (by omega)])
  · rw [if_neg hx, if_neg (fun q => hx q.1)]
    exact lastAt_congr _ (fun j j0 j1 => by rw [mt_11, if_neg (by omega)])
theorem WFD_mt {M : Mem} {t nm : Int} (w : WFD M) (t0 : 0 ≤ t) (t1 : t < M 0 0) (n0 : 0 ≤ nm) (n1 : nm ≤ 9) (h6 : M 10 t < 4) (ho : oM M t nm < 0) : WFD (mthX M t nm) := by
  have hn := w.n
  have hct := (w.cnt t t0 (by omega)).2.2
  have hd : ∀ j : Int, 0 ≤ j → j < M 10 t → M 11 (4 * t + j) ≠ nm := fun j j0 j1 => lastAt_pos ho j j0 (by omega)
  have o : ∀ k : Int, k ≠ 10 → k ≠ 11 → mthX M t nm k = M k := fun k a b => mt_o a b
  unfold WFD ACT RT
  rw [mt_edge, o 0 (by decide) (by decide), o 1 (by decide) (by decide), o 3 (by decide) (by decide), o 4 (by decide) (by decide), o 5 (by decide) (by decide), o 6 (by decide) (by decide), o 7 (by decide) (by decide), o 12 (by decide) (by decide), o 13 (by decide) (by decide), o 14 (by decide) (by decide), o 15 (by decide) (by decide), o 16 (by decide) (by decide), o 17 (by decide) (by decide)]
  refine ⟨w.n, fun x x0 x1 => ?_, w.above, w.face, w.fname, w.fdis, fun x k x0 x1 k0 k1 => ?_, fun x k l x0 x1 k0 k1 l0 l1 hh => ?_, w.size, w.act, fun x x0 x1 => ?_, fun x m x0 x1 m0 m1 => ?_, w.fab, w.w, w.acyc⟩
  · have := w.cnt x x0 x1
    rw [mt_10]
    refine ⟨this.1, this.2.1, ?_⟩
    split
    · omega
    · exact this.2.2
  · rw [mt_10] at k1
    have hcx := (w.cnt x x0 (by omega)).2.2
    rw [mt_11]
    split
    · omega
    · rename_i hne
      split at k1
      · rename_i hx; subst hx; exact w.mname x k x0 x1 k0 (by omega)
      · exact w.mname x k x0 x1 k0 k1
  · rw [mt_10] at k1 l1
    have hcx := (w.cnt x x0 (by omega)).2.2
    rw [mt_11, mt_11] at hh
    by_cases hx : x = t
    · subst hx
      rw [if_pos rfl] at k1 l1
      by_cases hk : k = M 10 x
      · by_cases hl : l = M 10 x
        · omega
        · rw [if_pos (by omega), if_neg (by omega)] at hh
          exact absurd hh.symm (hd l l0 (by omega))
      · by_cases hl : l = M 10 x
        · rw [if_neg (by omega), if_pos (by omega)] at hh
          exact absurd hh (hd k k0 (by omega))
        · rw [if_neg (by omega), if_neg (by omega)] at hh
          exact w.mdis x k l x0 x1 k0 (by omega) l0 (by omega) hh
    · rw [if_neg hx] at k1 l1
      rw [if_neg (by omega), if_neg (by omega)] at hh
      exact w.mdis x k l x0 x1 k0 k1 l0 l1 hh
  · rw [mt_10, if_neg (by omega)]
    exact w.un x x0 x1
  · rw [mt_10] at m0
    refine w.um x m x0 x1 ?_ m1
    split at m0
    · rename_i hx; rw [hx]; omega
    · exact m0
-- an action
def actX (M : Mem) (b k u n v : Int) : Mem := mu (mu (mu (mu (mu M 13 (12 * b + M 12 b) k) 14 (12 * b + M 12 b) u) 15 (12 * b + M 12 b) n) 16 (12 * b + M 12 b) v) 12 b (M 12 b + 1)
theorem ac_o {M : Mem} {b k u n v x : Int} (h2 : x ≠ 12) (h3 : x ≠ 13) (h4 : x ≠ 14) (h5 : x ≠ 15) (h6 : x ≠ 16) : actX M b k u n v x = M x := by
  unfold actX
  rw [mu_f _ _ _ _ h2, mu_f _ _ _ _ h6, mu_f _ _ _ _ h5, mu_f _ _ _ _ h4, mu_f _ _ _ _ h3]
theorem ac_12 {M : Mem} {b k u n v x : Int} : actX M b k u n v 12 x = if x = b then M 12 b + 1 else M 12 x := by
  unfold actX
  by_cases h : x = b
  · rw [if_pos h, h, mu_s]
  · rw [if_neg h, mu_i _ _ _ _ h, mu_t _ _ _ _ (by decide), mu_t _ _ _ _ (by decide), mu_t _ _ _ _ (by decide), mu_t _ _ _ _ (by decide)]
theorem ac_13 {M : Mem} {b k u n v x : Int} : actX M b k u n v 13 x = if x = 12 * b + M 12 b then k else M 13 x := by
  unfold actX
  rw [mu_t _ _ _ _ (by decide), mu_t _ _ _ _ (by decide), mu_t _ _ _ _ (by decide), mu_t _ _ _ _ (by decide)]
  by_cases h : x = 12 * b + M 12 b
  · rw [if_pos h, h, mu_s]
  · rw [if_neg h, mu_i _ _ _ _ h]
theorem ac_14 {M : Mem} {b k u n v x : Int} : actX M b k u n v 14 x = if x = 12 * b + M 12 b then u else M 14 x := by
  unfold actX
  rw [mu_t _ _ _ _ (by decide), mu_t _ _ _ _ (by decide), mu_t _ _ _ _ (by decide)]
  by_cases h : x = 12 * b + M 12 b
  · rw [if_pos h, h, mu_s]
  · rw [if_neg h, mu_i _ _ _ _ h, mu_t _ _ _ _ (by decide)]
theorem ac_15 {M : Mem} {b k u n v x : Int} : actX M b k u n v 15 x = if x = 12 * b + M 12 b then n else M 15 x := by
  unfold actX
  rw [mu_t _ _ _ _ (by decide), mu_t _ _ _ _ (by decide)]
  by_cases h : x = 12 * b + M 12 b
  · rw [if_pos h, h, mu_s]
  · rw [if_neg h, mu_i _ _ _ _ h, mu_t _ _ _ _ (by decide), mu_t _ _ _ _ (by decide)]
theorem ac_16 {M : Mem} {b k u n v x : Int} : actX M b k u n v 16 x = if x = 12 * b + M 12 b then v else M 16 x := by
  unfold actX
  rw [mu_t _ _ _ _ (by decide)]
  by_cases h : x = 12 * b + M 12 b
  · rw [if_pos h, h, mu_s]
  · rw [if_neg h, mu_i _ _ _ _ h, mu_t _ _ _ _ (by decide), mu_t _ _ _ _ (by decide), mu_t _ _ _ _ (by decide)]
theorem ac_edge {M : Mem} {b k u n v : Int} : edge (actX M b k u n v) = edge M := RT_same (ac_o (by decide) (by decide) (by decide) (by decide) (by decide)) (ac_o (by decide) (by decide) (by decide) (by decide) (by decide)) (ac_o (by decide) (by decide) (by decide) (by decide) (by decide)) (ac_o (by decide) (by decide) (by decide) (by decide) (by decide))
theorem WFD_ac {M : Mem} {t b k u n v : Int} (w : WFD M) (t0 : 0 ≤ t) (t1 : t < M 0 0) (hb : b = 5 * t ∨ ∃ m : Int, 0 ≤ m ∧ m < M 10 t ∧ b = 5 * t + 1 + m) (h12 : M 12 b < 12) (hk : (0 ≤ k ∧ k ≤ 8) ∧ (1 ≤ k → k ≤ 6 → 0 ≤ u ∧ u < M 0 0) ∧ (1 ≤ k → k ≤ 3 → 0 ≤ n ∧ n ≤ 9) ∧ (k = 7 → 0 ≤ v ∧ v ≤ 19) ∧ (k = 8 → -1 ≤ v ∧ v ≤ 22)) : WFD (actX M b k u n v) := by
  have hn := w.n
  have hct := (w.cnt t t0 (by omega)).2.2
  have hbr : 5 * t ≤ b ∧ b < 5 * t + 5 := by
    rcases hb with hb | ⟨m, m0, m1, hb⟩ <;> omega
  have hsb := w.size b (by omega) (by omega)
  have o : ∀ x : Int, x ≠ 12 → x ≠ 13 → x ≠ 14 → x ≠ 15 → x ≠ 16 → actX M b k u n v x = M x := fun x a b c d e => ac_o a b c d e
  unfold WFD RT
  rw [ac_edge, o 0 (by decide) (by decide) (by decide) (by decide) (by decide), o 1 (by decide) (by decide) (by decide) (by decide) (by decide), o 3 (by decide) (by decide) (by decide) (by decide) (by decide), o 4 (by decide) (by decide) (by decide) (by decide) (by decide), o 5 (by decide) (by decide) (by decide) (by decide) (by decide), o 6 (by decide) (by decide) (by decide) (by decide) (by decide), o 7 (by decide) (by decide) (by decide) (by decide) (by decide), o 10 (by decide) (by decide) (by decide) (by decide) (by decide), o 11 (by decide) (by decide) (by decide) (by decide) (by decide), o 17 (by decide) (by decide) (by decide) (by decide) (by decide)]
  refine ⟨w.n, w.cnt, w.above, w.face, w.fname, w.fdis, w.mname, w.mdis, fun x x0 x1 => ?_, fun x j x0 x1 j0 j1 => ?_, fun x x0 x1 => ?_, fun x m x0 x1 m0 m1 => ?_, w.fab, w.w, w.acyc⟩
  · rw [ac_12]
    split
    · omega
    · exact w.size x x0 x1
  · rw [ac_12] at j1
    unfold ACT
    rw [ac_13, ac_14, ac_15, ac_16, o 0 (by decide) (by decide) (by decide) (by decide) (by decide)]
    have hsx := w.size x x0 x1
    by_cases hx : x = b
    · subst hx
      rw [if_pos rfl] at j1
      by_cases hj : j = M 12 x
      · rw [if_pos (by omega), if_pos (by omega), if_pos (by omega), if_pos (by omega)]
        exact hk
      · rw [if_neg (by omega), if_neg (by omega), if_neg (by omega), if_neg (by omega)]
        exact w.act x j x0 x1 j0 (by omega)
    · rw [if_neg hx] at j1
      rw [if_neg (by omega), if_neg (by omega), if_neg (by omega), if_neg (by omega)]
      exact w.act x j x0 x1 j0 j1
  · have := w.un x x0 x1
    rw [ac_12, if_neg]
    · exact this
    · rcases hb with hb | ⟨m, m0, m1, hb⟩ <;> omega
  · have := w.um x m x0 x1 m0 m1
    have hcx := (w.cnt x x0 x1).2.2
    rw [ac_12, if_neg]
    · exact this
    · rcases hb with hb | ⟨m', m0', m1', hb⟩
      · omega
      · intro q
        have hxt : x = t := by omega
        subst hxt
        omega
