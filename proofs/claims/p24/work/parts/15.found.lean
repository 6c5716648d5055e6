/-! WHAT IS FOUND: by the ways down, each first of all faces, then the one above -/
noncomputable def cntP (p : Int → Prop) : Nat → Nat
  | 0 => 0
  | n + 1 => cntP p n + @ite Nat (p n) (Classical.propDecidable _) 1 0
theorem cntP_le (p : Int → Prop) : ∀ n, cntP p n ≤ n := by
  intro n
  induction n with
  | zero => exact Nat.le_refl _
  | succ n ih => unfold cntP; split <;> omega
theorem cntP_mono {p r : Int → Prop} : ∀ n : Nat, (∀ i : Int, 0 ≤ i → i < n → p i → r i) → cntP p n ≤ cntP r n := by
  intro n
  induction n with
  | zero => intro _; exact Nat.le_refl _
  | succ n ih =>
    intro h
    have h1 := ih (fun i h0 h1 => h i h0 (by omega))
    unfold cntP
    by_cases hp : p n
    · rw [if_pos hp, if_pos (h n (by omega) (by omega) hp)]; omega
    · rw [if_neg hp]; omega
theorem cntP_lt {p r : Int → Prop} {j : Int} (hj : ¬ p j) (hr : r j) : ∀ n : Nat, (∀ i : Int, 0 ≤ i → i < n → p i → r i) → 0 ≤ j → j < n → cntP p n < cntP r n := by
  intro n
  induction n with
  | zero => intro _ h0 h1; omega
  | succ n ih =>
    intro h h0 h1
    unfold cntP
    by_cases hjn : j = n
    · rw [← hjn, if_neg hj, if_pos hr]
      have := cntP_mono (p := p) (r := r) n (fun i h2 h3 => h i h2 (by omega))
      omega
    · have h2 := ih (fun i h2 h3 => h i h2 (by omega)) h0 (by omega)
      by_cases hp : p n
      · rw [if_pos hp, if_pos (h n (by omega) (by omega) hp)]; omega
      · rw [if_neg hp]; omega
/-- how many a type leads to: less than its own for each that it leads to -/
noncomputable def rk (M : Mem) (t : Int) : Nat := cntP (RT M t) (M 0 0).toNat
theorem rk_edge {M : Mem} (w : WFD M) {a b : Int} (e : edge M a b) : rk M b < rk M a := by
  have hb := WFD_edge w e
  exact cntP_lt (j := b) (w.acyc b) (.single e) _ (fun i _ _ h => RT.RS_l (Or.inr (.single e)) h) hb.1 (by omega)
theorem rk_lt {M : Mem} (w : WFD M) {a : Int} (h0 : 0 ≤ a) (h1 : a < M 0 0) : rk M a < 40 := by
  have hn := w.n
  have h := cntP_lt (p := RT M a) (r := fun _ => True) (j := a) (w.acyc a) trivial (M 0 0).toNat (fun _ _ _ _ => trivial) h0 (by omega)
  have := cntP_le (fun _ => True) (M 0 0).toNat
  unfold rk
  omega
def FC (g : Int → Int) (M : Mem) (t : Int) : Nat → Int
  | 0 => if M 3 t < 0 then -6 else g (M 3 t)
  | j + 1 => if 0 ≤ g (M 5 (4 * t + (M 4 t - 1 - j))) then g (M 5 (4 * t + (M 4 t - 1 - j))) else FC g M t j
def ffd (M : Mem) (nm : Int) : Nat → Int → Int
  | 0, _ => -6
  | h + 1, t => if t < 0 then -6 else if 0 ≤ pF M t nm then pF M t nm else FC (ffd M nm h) M t (M 4 t).toNat
/-- the place of the field that is found; -6: none -/
def FF (M : Mem) (nm t : Int) : Int := ffd M nm 41 t
theorem FC_congr {g g1 : Int → Int} {M : Mem} {t : Int} (h0 : 0 ≤ t) (h1 : t < M 0 0) (h : ∀ u, edge M t u → g u = g1 u) : ∀ j : Nat, j ≤ (M 4 t).toNat → FC g M t j = FC g1 M t j := by
  intro j
  induction j with
  | zero =>
    intro _
    unfold FC
    split
    · rfl
    · exact h _ ⟨h0, h1, Or.inl ⟨rfl, by omega⟩⟩
  | succ j ih =>
    intro hj
    unfold FC
    rw [ih (by omega), h _ ⟨h0, h1, Or.inr ⟨M 4 t - 1 - j, by omega, by omega, rfl⟩⟩]
theorem ffd_st {M : Mem} (w : WFD M) (nm : Int) : ∀ (h h1 : Nat) (t : Int), 0 ≤ t → t < M 0 0 → rk M t < h → rk M t < h1 → ffd M nm h t = ffd M nm h1 t := by
  intro h
  induction h with
  | zero => intro h1 t _ _ hh; omega
  | succ h ih =>
    intro h1 t t0 t1 hh hh1
    cases h1 with
    | zero => omega
    | succ h1 =>
      unfold ffd
      rw [FC_congr t0 t1 (fun u hu => ?_) _ (Nat.le_refl _)]
      have := WFD_edge w hu
      have := rk_edge w hu
      exact ih h1 u (by omega) (by omega) (by omega) (by omega)
theorem FF_eq {M : Mem} (w : WFD M) (nm : Int) {t : Int} (t0 : 0 ≤ t) (t1 : t < M 0 0) : FF M nm t = if 0 ≤ pF M t nm then pF M t nm else FC (FF M nm) M t (M 4 t).toNat := by
  unfold FF
  conv => lhs; unfold ffd
  rw [if_neg (by omega), FC_congr t0 t1 (fun u hu => ?_) _ (Nat.le_refl _)]
  have h1 := WFD_edge w hu
  have h2 := rk_edge w hu
  have h3 := rk_lt w t0 t1
  exact ffd_st w nm 40 41 u h1.1 h1.2 (by omega) (by omega)
theorem FF_neg {M : Mem} {nm t : Int} (h : t < 0) : FF M nm t = -6 := by
  unfold FF ffd
  rw [if_pos h]
theorem FC_rng {g : Int → Int} {P : Int → Prop} {M : Mem} {t : Int} (h : ∀ u, g u = -6 ∨ (0 ≤ g u ∧ P (g u))) : ∀ j : Nat, FC g M t j = -6 ∨ (0 ≤ FC g M t j ∧ P (FC g M t j)) := by
  intro j
  induction j with
  | zero =>
    unfold FC
    split
    · exact Or.inl rfl
    · exact h _
  | succ j ih =>
    unfold FC
    split
    · rename_i h1
      rcases h (M 5 (4 * t + (M 4 t - 1 - j))) with h2 | h2
      · omega
      · exact Or.inr h2
    · exact ih
theorem ffd_rng {M : Mem} {nm : Int} : ∀ (h : Nat) (t : Int), ffd M nm h t = -6 ∨ (0 ≤ ffd M nm h t ∧ ∃ u, ffd M nm h t = pF M u nm ∧ 0 ≤ u) := by
  intro h
  induction h with
  | zero => intro t; exact Or.inl rfl
  | succ h ih =>
    intro t
    unfold ffd
    split
    · exact Or.inl rfl
    · split
      · rename_i h1 h2
        exact Or.inr ⟨h2, t, rfl, by omega⟩
      · exact FC_rng (P := fun z => ∃ u, z = pF M u nm ∧ 0 ≤ u) ih _
/-- the first that answers, of m places of a row from s on, the last place first -/
def FS (g : Int → Int) (W : Int → Int) (s : Int) : Nat → Int
  | 0 => -6
  | m + 1 => if 0 ≤ g (W (s + m)) then g (W (s + m)) else FS g W s m
theorem FS_s (g W : Int → Int) (s : Int) (m : Nat) : FS g W s (m + 1) = if 0 ≤ g (W (s + m)) then g (W (s + m)) else FS g W s m := rfl
theorem FS_congr {g W W1 : Int → Int} {s : Int} : ∀ m : Nat, (∀ i : Int, s ≤ i → i < s + m → W i = W1 i) → FS g W s m = FS g W1 s m := by
  intro m
  induction m with
  | zero => intro _; rfl
  | succ m ih => intro h; unfold FS; rw [ih (fun i h0 h1 => h i h0 (by omega)), h (s + m) (by omega) (by omega)]
theorem FS_app {g W : Int → Int} {s : Int} (a : Nat) : ∀ b : Nat, FS g W s (a + b) = if 0 ≤ FS g W (s + a) b then FS g W (s + a) b else FS g W s a := by
  intro b
  induction b with
  | zero => show FS g W s a = if 0 ≤ (-6 : Int) then _ else _; rw [if_neg (by decide)]
  | succ b ih =>
    show FS g W s (a + b + 1) = _
    rw [FS_s g W s (a + b), FS_s g W (s + a) b, show s + ((a + b : Nat) : Int) = s + a + b by omega]
    by_cases h : 0 ≤ g (W (s + a + b))
    · rw [if_pos h, if_pos h, if_pos h]
    · rw [if_neg h, if_neg h, ih]
theorem FS_FC {g W : Int → Int} {M : Mem} {t p : Int} (hg : ∀ u, u < 0 → g u = -6) (h1 : ∀ u, g u = -6 ∨ 0 ≤ g u) (hp : W p = M 3 t) : ∀ j : Nat, (∀ i : Int, 0 ≤ i → i < j → W (p + 1 + i) = M 5 (4 * t + (M 4 t - 1 - i))) → FS g W p (j + 1) = FC g M t j := by
  intro j
  induction j with
  | zero =>
    intro _
    unfold FS FC
    rw [show p + ((0 : Nat) : Int) = p by omega, hp]
    by_cases h : M 3 t < 0
    · rw [if_pos h, if_neg (by rw [hg _ h]; decide)]; rfl
    · rw [if_neg h]
      rcases h1 (M 3 t) with h2 | h2
      · rw [if_neg (by omega), h2]; rfl
      · rw [if_pos h2]
  | succ j ih =>
    intro h
    have hh := h j (by omega) (by omega)
    have := ih (fun i i0 i1 => h i i0 (by omega))
    unfold FS FC
    rw [show p + ((j + 1 : Nat) : Int) = p + 1 + j by omega, hh, this]
theorem pF_congr {M M1 : Mem} (h6 : M1 6 = M 6) (h7 : M1 7 = M 7) (t nm : Int) : pF M1 t nm = pF M t nm := by
  unfold pF oF
  rw [h6, h7]
/-- what holds as the reference looks for a field by a name, of type a, with n places waiting -/
def FI (M : Mem) (nm a n : Int) (M1 : Mem) : Prop :=
  (∀ k : Int, k ≠ 18 → k ≠ 19 → M1 k = M k) ∧ 0 ≤ n ∧ n + 5 * (cntz (M1 19) (M 0 0).toNat : Int) ≤ 201 ∧
  (∀ i : Int, 0 ≤ i → i < n → (M1 18 i < 0 ∨ (0 ≤ M1 18 i ∧ M1 18 i < M 0 0))) ∧
  FS (FF M nm) (M1 18) 0 n.toNat = FF M nm a ∧
  (∀ x : Int, 0 ≤ x → x < M 0 0 → M1 19 x = 1 → FF M nm x = -6 ∨ ∃ s : Int, 0 ≤ s ∧ s ≤ n ∧ (∀ i : Int, s ≤ i → i < n → M1 18 i < 0 ∨ RT M x (M1 18 i)) ∧ FS (FF M nm) (M1 18) s (n - s).toNat = FF M nm x)
theorem FI_drop {M : Mem} {nm a n m : Int} {M1 : Mem} (h : FI M nm a n M1) (hn : 0 < n) (hm : m = n - 1) (hg : FF M nm (M1 18 m) = -6) : FI M nm a m M1 := by
  subst hm
  obtain ⟨h1, h2, h3, h4, h5, h6⟩ := h
  have hd : ∀ s : Int, 0 ≤ s → s ≤ n - 1 → FS (FF M nm) (M1 18) s (n - s).toNat = FS (FF M nm) (M1 18) s (n - 1 - s).toNat := by
    intro s s0 s1
    rw [show (n - s).toNat = (n - 1 - s).toNat + 1 by omega]
    conv => lhs; unfold FS
    rw [show s + (((n - 1 - s).toNat : Nat) : Int) = n - 1 by omega, hg, if_neg (by decide)]
  refine ⟨h1, by omega, by omega, fun i i0 i1 => h4 i i0 (by omega), ?_, fun x x0 x1 xs => ?_⟩
  · rw [← h5]
    have := hd 0 (by omega) (by omega)
    rw [show n - 0 = n by omega, show n - 1 - 0 = n - 1 by omega] at this
    exact this.symm
  · rcases h6 x x0 x1 xs with h | ⟨s, s0, s1, s2, s3⟩
    · exact Or.inl h
    · by_cases hs : s = n
      · subst hs
        rw [show (s - s).toNat = 0 by omega] at s3
        exact Or.inl s3.symm
      · exact Or.inr ⟨s, s0, by omega, fun i i0 i1 => s2 i i0 (by omega), by rw [← hd s s0 (by omega)]; exact s3⟩
theorem FI_seen {M : Mem} {nm a n m : Int} {M1 : Mem} (w : WFD M) (h : FI M nm a n M1) (hn : 0 < n) (hm : m = n - 1) (h0 : 0 ≤ M1 18 m) (hs : M1 19 (M1 18 m) = 1) : FF M nm (M1 18 m) = -6 := by
  subst hm
  obtain ⟨h1, h2, h3, h4, h5, h6⟩ := h
  have ht := h4 (n - 1) (by omega) (by omega)
  rcases h6 (M1 18 (n - 1)) h0 (by omega) hs with h | ⟨s, s0, s1, s2, s3⟩
  · exact h
  · by_cases hsn : s = n
    · subst hsn
      rw [show (s - s).toNat = 0 by omega] at s3
      exact s3.symm
    · rcases s2 (n - 1) (by omega) (by omega) with h7 | h7
      · omega
      · exact absurd h7 (w.acyc _)
theorem FI_own {M : Mem} {nm a n m t : Int} {M1 : Mem} (w : WFD M) (h : FI M nm a n M1) (hn : 0 < n) (hm : m = n - 1) (ht : M1 18 m = t) (h0 : 0 ≤ t) (h1 : t < M 0 0) (hp : 0 ≤ pF M t nm) : pF M t nm = FF M nm a := by
  subst hm
  obtain ⟨-, -, -, -, h5, -⟩ := h
  rw [← h5, show n.toNat = (n - 1).toNat + 1 by omega]
  unfold FS
  rw [show (0 : Int) + (((n - 1).toNat : Nat) : Int) = n - 1 by omega, ht, FF_eq w nm h0 h1, if_pos hp, if_pos hp]
theorem FI_push {M : Mem} {nm a n t m : Int} {M1 M2 : Mem} (w : WFD M) (h : FI M nm a n M1) (hn : 0 < n) (hm : m = n - 1) (ht : M1 18 m = t) (h0 : 0 ≤ t) (t1 : t < M 0 0) (hz : M1 19 t = 0) (hp : pF M t nm < 0)
    (e1 : ∀ k : Int, k ≠ 18 → k ≠ 19 → M2 k = M k) (e2 : M2 19 t = 1) (e3 : ∀ x, x ≠ t → M2 19 x = M1 19 x) (e4 : ∀ i : Int, 0 ≤ i → i < m → M2 18 i = M1 18 i) (e5 : M2 18 m = M 3 t) (e6 : ∀ j : Int, 0 ≤ j → j < M 4 t → M2 18 (n + j) = M 5 (4 * t + (M 4 t - 1 - j))) :
    FI M nm a (n + M 4 t) M2 ∧ cntz (M2 19) (M 0 0).toNat + 1 = cntz (M1 19) (M 0 0).toNat := by
  subst hm
  obtain ⟨h1, h2, h3, h4, h5, h6⟩ := h
  have hn0 := w.n
  have hc := (w.cnt t h0 (by omega)).1
  have hcz := cntz_upd (f := M1 19) (g := M2 19) (i := t) hz (by rw [e2]; decide) (fun j hj => e3 j hj) (M 0 0).toNat h0 (by omega)
  have hab := w.above t h0 t1
  have hgr : ∀ u, FF M nm u = -6 ∨ 0 ≤ FF M nm u := fun u => (ffd_rng 41 u).imp id (fun h => h.1)
  have htop : FS (FF M nm) (M2 18) (n - 1) ((M 4 t).toNat + 1) = FF M nm t := by
    rw [FS_FC (fun u hu => FF_neg hu) hgr e5 (M 4 t).toNat (fun i i0 i1 => by rw [show n - 1 + 1 + i = n + i by omega]; exact e6 i i0 (by omega)), FF_eq w nm h0 t1, if_neg (by omega)]
  have hseg : ∀ s : Int, 0 ≤ s → s ≤ n - 1 → FS (FF M nm) (M2 18) s (n + M 4 t - s).toNat = FS (FF M nm) (M1 18) s (n - s).toNat := by
    intro s s0 s1
    rw [show (n + M 4 t - s).toNat = (n - 1 - s).toNat + ((M 4 t).toNat + 1) by omega, FS_app, show s + (((n - 1 - s).toNat : Nat) : Int) = n - 1 by omega, htop, show (n - s).toNat = (n - 1 - s).toNat + 1 by omega]
    conv => rhs; unfold FS
    rw [show s + (((n - 1 - s).toNat : Nat) : Int) = n - 1 by omega, ht, FS_congr (W1 := M1 18) _ (fun i i0 i1 => e4 i (by omega) (by omega))]
  refine ⟨⟨e1, by omega, by omega, fun i i0 i1 => ?_, ?_, fun x x0 x1 xs => ?_⟩, hcz⟩
  · by_cases c1 : i < n - 1
    · rw [e4 i i0 c1]; exact h4 i i0 (by omega)
    · by_cases c2 : i = n - 1
      · subst c2; rw [e5]; omega
      · have hf := w.face t (M 4 t - 1 - (i - n)) h0 t1 (by omega) (by omega)
        have := e6 (i - n) (by omega) (by omega)
        rw [show n + (i - n) = i by omega] at this
        rw [this]
        exact Or.inr ⟨hf.1, hf.2.1⟩
  · have := hseg 0 (by omega) (by omega)
    rw [show n + M 4 t - 0 = n + M 4 t by omega, show n - 0 = n by omega] at this
    rw [this, h5]
  · by_cases hxt : x = t
    · subst hxt
      refine Or.inr ⟨n - 1, by omega, by omega, fun i i0 i1 => ?_, ?_⟩
      · by_cases c2 : i = n - 1
        · subst c2
          rw [e5]
          by_cases c3 : M 3 x < 0
          · exact Or.inl c3
          · exact Or.inr (.single ⟨h0, t1, Or.inl ⟨rfl, by omega⟩⟩)
        · have := e6 (i - n) (by omega) (by omega)
          rw [show n + (i - n) = i by omega] at this
          rw [this]
          exact Or.inr (.single ⟨h0, t1, Or.inr ⟨M 4 x - 1 - (i - n), by omega, by omega, rfl⟩⟩)
      · rw [show (n + M 4 x - (n - 1)).toNat = (M 4 x).toNat + 1 by omega]; exact htop
    · rw [e3 x hxt] at xs
      rcases h6 x x0 x1 xs with h | ⟨s, s0, s1, s2, s3⟩
      · exact Or.inl h
      · by_cases hs : s = n
        · subst hs
          rw [show (s - s).toNat = 0 by omega] at s3
          exact Or.inl s3.symm
        · refine Or.inr ⟨s, s0, by omega, fun i i0 i1 => ?_, by rw [hseg s s0 (by omega)]; exact s3⟩
          have htx : RT M x t := by
            rcases s2 (n - 1) (by omega) (by omega) with h7 | h7
            · omega
            · rw [ht] at h7; exact h7
          by_cases c1 : i < n - 1
          · rw [e4 i (by omega) c1]; exact s2 i i0 (by omega)
          · by_cases c2 : i = n - 1
            · subst c2
              rw [e5]
              by_cases c3 : M 3 t < 0
              · exact Or.inl c3
              · exact Or.inr (.tail htx ⟨h0, t1, Or.inl ⟨rfl, by omega⟩⟩)
            · have := e6 (i - n) (by omega) (by omega)
              rw [show n + (i - n) = i by omega] at this
              rw [this]
              exact Or.inr (.tail htx ⟨h0, t1, Or.inr ⟨M 4 t - 1 - (i - n), by omega, by omega, rfl⟩⟩)
theorem FI_end {M : Mem} {nm a n : Int} {M1 : Mem} (h : FI M nm a n M1) (hn : n ≤ 0) : FF M nm a = -6 := by
  obtain ⟨h1, h2, h3, h4, h5, h6⟩ := h
  rw [← h5, show n.toNat = 0 by omega]
  rfl
