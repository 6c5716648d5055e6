/-! WHAT THE CALLS OF THE DESCRIPTION ANSWER AND MAKE -/
def mkM (M : Mem) (a b up : Int) : Mem := mu (mu (mu (mu M 1 (M 0 0) a) 2 (M 0 0) b) 3 (M 0 0) up) 0 0 (M 0 0 + 1)
def clsR (M : Mem) (up : Int) : Int := if up ≠ -1 ∧ ¬ (0 ≤ up ∧ up < M 0 0) then -1 else if up ≠ -1 ∧ M 1 up = 1 then -2 else if 0 < M 17 0 then -3 else if M 0 0 = 40 then -4 else M 0 0
def clsM (M : Mem) (up op : Int) : Mem := if 0 ≤ clsR M up then mkM M 0 op up else M
def faceR (M : Mem) : Int := if 0 < M 17 0 then -3 else if M 0 0 = 40 then -4 else M 0 0
def faceM (M : Mem) (d : Int) : Mem := if 0 ≤ faceR M then mkM M 1 d (-1) else M
def undNo (M : Mem) (t f : Int) : Prop := RS M f t ∨ ∃ k : Int, 0 ≤ k ∧ k < M 4 t ∧ M 5 (4 * t + k) = f
noncomputable def undR (M : Mem) (t f : Int) : Int := if ¬ (0 ≤ t ∧ t < M 0 0) ∨ ¬ (0 ≤ f ∧ f < M 0 0) then -1 else if M 1 f ≠ 1 then -2 else if 0 < M 17 0 then -3 else if M 4 t = 4 then -4 else @ite Int (undNo M t f) (Classical.propDecidable _) (-5) (M 4 t + 1)
noncomputable def undM (M : Mem) (t f : Int) : Mem := if 0 ≤ undR M t f then mu (mu M 5 (4 * t + M 4 t) f) 4 t (M 4 t + 1) else M
def fldR (M : Mem) (t nm : Int) : Int := if ¬ (0 ≤ t ∧ t < M 0 0) then -1 else if ¬ (0 ≤ nm ∧ nm ≤ 9) then -2 else if 0 < M 17 0 then -3 else if M 6 t = 6 then -4 else if 0 ≤ pF M t nm then -5 else M 6 t + 1
def fldM (M : Mem) (t nm c v : Int) : Mem := if 0 ≤ fldR M t nm then mu (mu (mu (mu M 7 (6 * t + M 6 t) nm) 8 (6 * t + M 6 t) c) 9 (6 * t + M 6 t) v) 6 t (M 6 t + 1) else M
def mthR (M : Mem) (t nm : Int) : Int := if ¬ (0 ≤ t ∧ t < M 0 0) then -1 else if ¬ (0 ≤ nm ∧ nm ≤ 9) then -2 else if 0 < M 17 0 then -3 else if M 10 t = 4 then -4 else if 0 ≤ oM M t nm then -5 else M 10 t + 1
def mthM (M : Mem) (t nm : Int) : Mem := if 0 ≤ mthR M t nm then mu (mu M 11 (4 * t + M 10 t) nm) 10 t (M 10 t + 1) else M
/-- the body that an action goes behind; -6: none -/
def bodyAt (M : Mem) (t nm : Int) : Int := if nm = -1 then 5 * t else if oM M t nm < 0 then -6 else 5 * t + 1 + oM M t nm
def actR (M : Mem) (t nm k u n v : Int) : Int := if ¬ (0 ≤ t ∧ t < M 0 0) ∨ ((1 ≤ k ∧ k ≤ 6) ∧ ¬ (0 ≤ u ∧ u < M 0 0)) then -1 else if ¬ ((0 ≤ k ∧ k ≤ 8) ∧ (¬ (1 ≤ k ∧ k ≤ 3) ∨ (0 ≤ n ∧ n ≤ 9)) ∧ (k ≠ 7 ∨ (0 ≤ v ∧ v ≤ 19)) ∧ (k ≠ 8 ∨ (-1 ≤ v ∧ v ≤ 22))) then -2 else if 0 < M 17 0 then -3 else if bodyAt M t nm < 0 then -5 else if M 12 (bodyAt M t nm) = 12 then -4 else M 12 (bodyAt M t nm) + 1
def actM (M : Mem) (t nm k u n v : Int) : Mem := if 0 ≤ actR M t nm k u n v then mu (mu (mu (mu (mu M 13 (12 * bodyAt M t nm + M 12 (bodyAt M t nm)) k) 14 (12 * bodyAt M t nm + M 12 (bodyAt M t nm)) u) 15 (12 * bodyAt M t nm + M 12 (bodyAt M t nm)) n) 16 (12 * bodyAt M t nm + M 12 (bodyAt M t nm)) v) 12 (bodyAt M t nm) (M 12 (bodyAt M t nm) + 1) else M
