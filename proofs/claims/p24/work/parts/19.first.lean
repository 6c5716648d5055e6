/-! THE FACES that a start starts, in order: each behind its own faces, once -/
abbrev St : Type := (Int → Int) × List Int
def up1 (P : Int → Int) (f : Int) : Int → Int := fun x => if x = f then 1 else P x
theorem up1_s (P : Int → Int) (f : Int) : up1 P f f = 1 := if_pos rfl
theorem up1_n (P : Int → Int) {f x : Int} (h : x ≠ f) : up1 P f x = P x := if_neg h
def emitF (M : Mem) (f : Int) (s : St) : St := if M 2 f = 1 then (s.1, s.2 ++ [f]) else s
/-- the last m of a type's faces, in order -/
def pof (g : Int → St → St) (M : Mem) (f : Int) : Nat → St → St
  | 0, s => s
  | m + 1, s => pof g M f m (g (M 5 (4 * f + (M 4 f - 1 - m))) s)
def po (M : Mem) : Nat → Int → St → St
  | 0, _, s => s
  | h + 1, f, s => if s.1 f = 1 then s else emitF M f (pof (po M h) M f (M 4 f).toNat (up1 s.1 f, s.2))
def PO (M : Mem) (f : Int) (s : St) : St := po M 41 f s
theorem pof_congr {g g1 : Int → St → St} {M : Mem} {f : Int} (h0 : 0 ≤ f) (h1 : f < M 0 0) (h : ∀ u s, edge M f u → g u s = g1 u s) : ∀ (m : Nat) (s : St), m ≤ (M 4 f).toNat → pof g M f m s = pof g1 M f m s := by
  intro m
  induction m with
  | zero => intro s _; rfl
  | succ m ih =>
    intro s hm
    unfold pof
    rw [h _ s ⟨h0, h1, Or.inr ⟨M 4 f - 1 - m, by omega, by omega, rfl⟩⟩]
    exact ih _ (by omega)
theorem po_st {M : Mem} (w : WFD M) : ∀ (h h1 : Nat) (f : Int) (s : St), 0 ≤ f → f < M 0 0 → rk M f < h → rk M f < h1 → po M h f s = po M h1 f s := by
  intro h
  induction h with
  | zero => intro h1 f s _ _ hh; omega
  | succ h ih =>
    intro h1 f s t0 t1 hh hh1
    cases h1 with
    | zero => omega
    | succ h1 =>
      unfold po
      rw [pof_congr t0 t1 (fun u s hu => ?_) _ _ (Nat.le_refl _)]
      have := WFD_edge w hu
      have := rk_edge w hu
      exact ih h1 u s (by omega) (by omega) (by omega) (by omega)
theorem PO_eq {M : Mem} (w : WFD M) {f : Int} (t0 : 0 ≤ f) (t1 : f < M 0 0) (s : St) : PO M f s = if s.1 f = 1 then s else emitF M f (pof (PO M) M f (M 4 f).toNat (up1 s.1 f, s.2)) := by
  unfold PO
  conv => lhs; unfold po
  rw [pof_congr t0 t1 (fun u s hu => ?_) _ _ (Nat.le_refl _)]
  have h1 := WFD_edge w hu
  have h2 := rk_edge w hu
  have h3 := rk_lt w t0 t1
  exact po_st w 40 41 u s h1.1 h1.2 (by omega) (by omega)
/-- what a start starts ahead of its body -/
def LPs (M : Mem) (t : Int) : St := pof (PO M) M t (M 4 t).toNat (fun _ => 0, if M 3 t < 0 then [] else [M 3 t])
def LF (M : Mem) (t : Int) : List Int := if M 1 t = 1 then [] else (LPs M t).2
/-- what n waiting places come to, the last first -/
def SR (M : Mem) (W E : Int → Int) : Nat → St → St
  | 0, s => s
  | m + 1, s => SR M W E m (if E m = 1 then emitF M (W m) s else PO M (W m) s)
theorem SR_s (M : Mem) (W E : Int → Int) (m : Nat) (s : St) : SR M W E (m + 1) s = SR M W E m (if E m = 1 then emitF M (W m) s else PO M (W m) s) := rfl
theorem SR_congr {M : Mem} {W W1 E E1 : Int → Int} : ∀ (m : Nat) (s : St), (∀ i : Int, 0 ≤ i → i < m → W i = W1 i ∧ E i = E1 i) → SR M W E m s = SR M W1 E1 m s := by
  intro m
  induction m with
  | zero => intro s _; rfl
  | succ m ih =>
    intro s h
    rw [SR_s, SR_s, (h m (by omega) (by omega)).1, (h m (by omega) (by omega)).2]
    exact ih _ (fun i h0 h1 => h i h0 (by omega))
theorem SR_faces {M : Mem} {W E : Int → Int} {f n : Int} (hn : 0 ≤ n) : ∀ (j : Nat) (s : St), (∀ i : Int, 0 ≤ i → i < j → W (n + i) = M 5 (4 * f + (M 4 f - 1 - i)) ∧ E (n + i) = 0) → SR M W E (n.toNat + j) s = SR M W E n.toNat (pof (PO M) M f j s) := by
  intro j
  induction j with
  | zero => intro s _; rfl
  | succ j ih =>
    intro s h
    have hj := h j (by omega) (by omega)
    show SR M W E (n.toNat + j + 1) s = _
    rw [SR_s, show ((n.toNat + j : Nat) : Int) = n + j by omega, hj.1, hj.2, if_neg (by decide), ih _ (fun i h0 h1 => h i h0 (by omega))]
    rfl
/-- how many of the first places hold 1 -/
def cnt1 (f : Int → Int) : Nat → Nat
  | 0 => 0
  | n + 1 => cnt1 f n + (if f n = 1 then 1 else 0)
theorem cnt1_s (f : Int → Int) (n : Nat) : cnt1 f (n + 1) = cnt1 f n + (if f n = 1 then 1 else 0) := rfl
theorem cnt1_congr {f g : Int → Int} : ∀ n : Nat, (∀ i : Int, 0 ≤ i → i < n → f i = g i) → cnt1 f n = cnt1 g n := by
  intro n
  induction n with
  | zero => intro _; rfl
  | succ n ih => intro h; rw [cnt1_s, cnt1_s, ih (fun i h0 h1 => h i h0 (by omega)), h n (by omega) (by omega)]
theorem cnt1_zeros {f : Int → Int} (a : Nat) : ∀ b : Nat, (∀ i : Int, a ≤ i → i < a + b → f i = 0) → cnt1 f (a + b) = cnt1 f a := by
  intro b
  induction b with
  | zero => intro _; rfl
  | succ b ih =>
    intro h
    show cnt1 f (a + b + 1) = _
    rw [cnt1_s, ih (fun i h0 h1 => h i h0 (by omega)), h ((a + b : Nat) : Int) (by omega) (by omega), if_neg (by decide)]
    rfl
def LFI (M : Mem) (n : Int) (M1 : Mem) (P : Int → Int) (out : List Int) (fin : St) : Prop :=
  (∀ k : Int, k ≠ 18 → k ≠ 20 → k ≠ 21 → k ≠ 22 → k ≠ 23 → M1 k = M k) ∧ 0 ≤ n ∧ n + 4 * (cntz (M1 22) (M 0 0).toNat : Int) ≤ 164 ∧
  out.length + cnt1 (M1 23) n.toNat + cntz (M1 22) (M 0 0).toNat ≤ 41 ∧
  (∀ i : Int, 0 ≤ i → i < n → 0 ≤ M1 18 i ∧ M1 18 i < M 0 0) ∧
  (∀ x : Int, 0 ≤ x → x < M 0 0 → M1 22 x = P x) ∧
  M1 21 0 = out.length ∧ (∀ k : Int, 0 ≤ k → k < out.length → M1 20 k = out.getD k.toNat 0) ∧
  SR M (M1 18) (M1 23) n.toNat (P, out) = fin
theorem LFI_end {M : Mem} {n : Int} {M1 : Mem} {P : Int → Int} {out : List Int} {fin : St} (h : LFI M n M1 P out fin) (hn : n ≤ 0) : (P, out) = fin := by
  obtain ⟨-, h2, -, -, -, -, -, -, h9⟩ := h
  rw [show n.toNat = 0 by omega] at h9
  exact h9
/-- a place that isn't the faces' own end, and passed: nothing -/
theorem LFI_skip {M : Mem} {n m : Int} {M1 : Mem} {P : Int → Int} {out : List Int} {fin : St} (w : WFD M) (h : LFI M n M1 P out fin) (hn : 0 < n) (hm : m = n - 1) (he : M1 23 m = 0) (hp : M1 22 (M1 18 m) = 1) : LFI M m M1 P out fin := by
  subst hm
  obtain ⟨h1, h2, h3, h4, h5, h6, h7, h8, h9⟩ := h
  have hr := h5 (n - 1) (by omega) (by omega)
  have e : n.toNat = (n - 1).toNat + 1 := by omega
  have ei : (((n - 1).toNat : Nat) : Int) = n - 1 := by omega
  refine ⟨h1, by omega, by omega, ?_, fun i i0 i1 => h5 i i0 (by omega), h6, h7, h8, ?_⟩
  · rw [e, cnt1_s] at h4
    omega
  · rw [← h9, e, SR_s, ei, he, if_neg (by decide), PO_eq w hr.1 hr.2, if_pos (show P (M1 18 (n - 1)) = 1 by rw [← h6 _ hr.1 hr.2]; exact hp)]
/-- the end of a face's own faces -/
theorem LFI_emit {M : Mem} {n m : Int} {M1 M2 : Mem} {P : Int → Int} {out : List Int} {fin : St} (h : LFI M n M1 P out fin) (hn : 0 < n) (hm : m = n - 1) (he : M1 23 m = 1) (hk : M 2 (M1 18 m) = 1)
    (e1 : ∀ k : Int, k ≠ 20 → k ≠ 21 → M2 k = M1 k) (e2 : M2 21 0 = out.length + 1) (e3 : M2 20 out.length = M1 18 m) (e4 : ∀ k : Int, k ≠ out.length → M2 20 k = M1 20 k) : LFI M m M2 P (out ++ [M1 18 m]) fin := by
  subst hm
  obtain ⟨h1, h2, h3, h4, h5, h6, h7, h8, h9⟩ := h
  have e : n.toNat = (n - 1).toNat + 1 := by omega
  have ei : (((n - 1).toNat : Nat) : Int) = n - 1 := by omega
  have w18 := e1 18 (by decide) (by decide)
  have w22 := e1 22 (by decide) (by decide)
  have w23 := e1 23 (by decide) (by decide)
  refine ⟨fun k a1 a2 a3 a4 a5 => (e1 k a2 a3).trans (h1 k a1 a2 a3 a4 a5), by omega, by rw [w22]; omega, ?_, fun i i0 i1 => by rw [w18]; exact h5 i i0 (by omega), fun x x0 x1 => by rw [w22]; exact h6 x x0 x1, ?_, fun k k0 k1 => ?_, ?_⟩
  · rw [e, cnt1_s, ei, he, if_pos rfl] at h4
    rw [w23, w22, List.length_append, List.length_singleton]
    omega
  · rw [e2, List.length_append, List.length_singleton]; omega
  · rw [List.length_append, List.length_singleton] at k1
    by_cases hk1 : k = out.length
    · rw [hk1, e3, List.getD_eq_getElem?_getD, Int.toNat_natCast, List.getElem?_append_right (Nat.le_refl _), Nat.sub_self]; rfl
    · rw [e4 k hk1, h8 k k0 (by omega), List.getD_eq_getElem?_getD, List.getD_eq_getElem?_getD, List.getElem?_append_left (by omega)]
  · rw [← h9, e, SR_s, ei, he, if_pos rfl, w18, w23]
    unfold emitF
    rw [if_pos hk]
theorem LFI_noemit {M : Mem} {n m : Int} {M1 : Mem} {P : Int → Int} {out : List Int} {fin : St} (h : LFI M n M1 P out fin) (hn : 0 < n) (hm : m = n - 1) (he : M1 23 m = 1) (hk : M 2 (M1 18 m) ≠ 1) : LFI M m M1 P out fin := by
  subst hm
  obtain ⟨h1, h2, h3, h4, h5, h6, h7, h8, h9⟩ := h
  have e : n.toNat = (n - 1).toNat + 1 := by omega
  have ei : (((n - 1).toNat : Nat) : Int) = n - 1 := by omega
  refine ⟨h1, by omega, by omega, ?_, fun i i0 i1 => h5 i i0 (by omega), h6, h7, h8, ?_⟩
  · rw [e, cnt1_s] at h4
    omega
  · rw [← h9, e, SR_s, ei, he, if_pos rfl]
    unfold emitF
    rw [if_neg hk]
theorem LFI_push {M : Mem} {n m f : Int} {M1 M2 : Mem} {P : Int → Int} {out : List Int} {fin : St} (w : WFD M) (h : LFI M n M1 P out fin) (hn : 0 < n) (hm : m = n - 1) (hf : M1 18 m = f) (he : M1 23 m = 0) (hz : M1 22 f = 0)
    (e1 : ∀ k : Int, k ≠ 18 → k ≠ 22 → k ≠ 23 → M2 k = M1 k) (e2 : M2 22 f = 1) (e3 : ∀ x, x ≠ f → M2 22 x = M1 22 x) (e4 : ∀ i : Int, 0 ≤ i → i < n → M2 18 i = M1 18 i) (e5 : M2 23 m = 1) (e6 : ∀ i : Int, 0 ≤ i → i < m → M2 23 i = M1 23 i)
    (e7 : ∀ j : Int, 0 ≤ j → j < M 4 f → M2 18 (n + j) = M 5 (4 * f + (M 4 f - 1 - j)) ∧ M2 23 (n + j) = 0) : LFI M (n + M 4 f) M2 (up1 P f) out fin ∧ cntz (M2 22) (M 0 0).toNat + 1 = cntz (M1 22) (M 0 0).toNat := by
  subst hm
  obtain ⟨h1, h2, h3, h4, h5, h6, h7, h8, h9⟩ := h
  have hr := h5 (n - 1) (by omega) (by omega)
  rw [hf] at hr
  have hn0 := w.n
  have hc := (w.cnt f hr.1 (by omega)).1
  have e : n.toNat = (n - 1).toNat + 1 := by omega
  have ei : (((n - 1).toNat : Nat) : Int) = n - 1 := by omega
  have hcz := cntz_upd (f := M1 22) (g := M2 22) (i := f) hz (by rw [e2]; decide) (fun j hj => e3 j hj) (M 0 0).toNat hr.1 (by omega)
  have w20 := e1 20 (by decide) (by decide) (by decide)
  have w21 := e1 21 (by decide) (by decide) (by decide)
  have hc1 : cnt1 (M2 23) (n + M 4 f).toNat = cnt1 (M1 23) n.toNat + 1 := by
    rw [show (n + M 4 f).toNat = n.toNat + (M 4 f).toNat by omega, cnt1_zeros n.toNat (M 4 f).toNat (fun i i0 i1 => by have := (e7 (i - n) (by omega) (by omega)).2; rwa [show n + (i - n) = i by omega] at this), e, cnt1_s, cnt1_s, ei, e5, he, if_pos rfl, if_neg (by decide), cnt1_congr (g := M1 23) _ (fun i i0 i1 => e6 i i0 (by omega))]
  refine ⟨⟨fun k a1 a2 a3 a4 a5 => (e1 k a1 a4 a5).trans (h1 k a1 a2 a3 a4 a5), by omega, by omega, by omega, fun i i0 i1 => ?_, fun x x0 x1 => ?_, by rw [w21]; exact h7, fun k k0 k1 => by rw [w20]; exact h8 k k0 k1, ?_⟩, hcz⟩
  · by_cases c1 : i < n
    · rw [e4 i i0 c1]; exact h5 i i0 c1
    · have hff := w.face f (M 4 f - 1 - (i - n)) hr.1 hr.2 (by omega) (by omega)
      have := (e7 (i - n) (by omega) (by omega)).1
      rw [show n + (i - n) = i by omega] at this
      rw [this]
      exact ⟨hff.1, hff.2.1⟩
  · by_cases hx : x = f
    · rw [hx, e2, up1_s]
    · rw [e3 x hx, up1_n _ hx]; exact h6 x x0 x1
  · have hPf : ¬ P f = 1 := by rw [← h6 f hr.1 hr.2, hz]; decide
    rw [← h9, show (n + M 4 f).toNat = n.toNat + (M 4 f).toNat by omega, SR_faces h2 (M 4 f).toNat _ (fun i i0 i1 => e7 i i0 (by omega)), e, SR_s, SR_s, ei, e5, he, if_pos rfl, if_neg (by decide), e4 (n - 1) (by omega) (by omega), hf, PO_eq w hr.1 hr.2 (P, out), if_neg hPf]
    exact SR_congr _ _ (fun i i0 i1 => ⟨e4 i i0 (by omega), e6 i i0 (by omega)⟩)
theorem SD_LF {M M1 : Mem} (h : SD M M1) (t : Int) : LF M1 t = LF M t := by
  have key : ∀ (n : Nat) (f : Int) (s : St), po M1 n f s = po M n f s := by
    intro n
    induction n with
    | zero => intro f s; rfl
    | succ n ih =>
      intro f s
      have hg : po M1 n = po M n := funext fun f => funext fun s => ih f s
      have hc : ∀ j s, pof (po M n) M1 f j s = pof (po M n) M f j s := by
        intro j
        induction j with
        | zero => intro s; rfl
        | succ j ihj => intro s; unfold pof; rw [h 4 (by decide) (by decide), h 5 (by decide) (by decide)]; exact ihj _
      unfold po emitF
      rw [hg, hc, h 4 (by decide) (by decide), h 2 (by decide) (by decide)]
  have hP : PO M1 = PO M := funext fun f => funext fun s => key 41 f s
  have hc : ∀ j s, pof (PO M) M1 t j s = pof (PO M) M t j s := by
    intro j
    induction j with
    | zero => intro s; rfl
    | succ j ihj => intro s; unfold pof; rw [h 4 (by decide) (by decide), h 5 (by decide) (by decide)]; exact ihj _
  unfold LF LPs
  rw [hP, hc, h 4 (by decide) (by decide), h 3 (by decide) (by decide), h 1 (by decide) (by decide)]
theorem po_all {M : Mem} (w : WFD M) {Q : Int → Prop} (hQ : ∀ u, 0 ≤ u → u < M 0 0 → M 1 u = 1 → M 2 u = 1 → Q u) : ∀ (h : Nat) (f : Int) (s : St), 0 ≤ f → f < M 0 0 → M 1 f = 1 → (∀ x ∈ s.2, Q x) → ∀ x ∈ (po M h f s).2, Q x := by
  intro h
  induction h with
  | zero => intro f s _ _ _ hs; exact hs
  | succ h ih =>
    intro f s f0 f1 ff hs
    have hj : ∀ (j : Nat) (s : St), j ≤ (M 4 f).toNat → (∀ x ∈ s.2, Q x) → ∀ x ∈ (pof (po M h) M f j s).2, Q x := by
      intro j
      induction j with
      | zero => intro s _ hs; exact hs
      | succ j ihj =>
        intro s hj hs
        have hf := w.face f (M 4 f - 1 - j) f0 f1 (by omega) (by omega)
        exact ihj _ (by omega) (ih _ s hf.1 hf.2.1 hf.2.2 hs)
    unfold po
    split
    · exact hs
    · unfold emitF
      split
      · rename_i hm
        intro x hx
        rcases List.mem_append.mp hx with h1 | h1
        · exact hj _ (up1 s.1 f, s.2) (Nat.le_refl _) hs x h1
        · rw [List.mem_singleton.mp h1]; exact hQ f f0 f1 ff hm
      · exact hj _ (up1 s.1 f, s.2) (Nat.le_refl _) hs
theorem LF_all {M : Mem} (w : WFD M) {t : Int} (t0 : 0 ≤ t) (t1 : t < M 0 0) : ∀ x ∈ LF M t, 0 ≤ x ∧ x < M 0 0 := by
  intro x hx
  unfold LF at hx
  split at hx
  · exact absurd hx List.not_mem_nil
  · have hab := w.above t t0 t1
    have hj : ∀ (j : Nat) (s : St), j ≤ (M 4 t).toNat → (∀ x ∈ s.2, 0 ≤ x ∧ x < M 0 0) → ∀ x ∈ (pof (PO M) M t j s).2, 0 ≤ x ∧ x < M 0 0 := by
      intro j
      induction j with
      | zero => intro s _ hs; exact hs
      | succ j ihj =>
        intro s hj hs
        have hf := w.face t (M 4 t - 1 - j) t0 t1 (by omega) (by omega)
        exact ihj _ (by omega) (po_all w (fun u h0 h1 _ _ => ⟨h0, h1⟩) 41 _ s hf.1 hf.2.1 hf.2.2 hs)
    refine hj _ _ (Nat.le_refl _) (fun y hy => ?_) x hx
    simp only [] at hy
    split at hy
    · exact absurd hy List.not_mem_nil
    · rw [List.mem_singleton.mp hy]; omega
