/-! EVERY CALL: what holds behind it -/
def Lo (α : Sh) (μ : Mem) (α1 : Sh) (μ1 : Mem) : Prop := ∀ t, t < 100 → α1 t = α t ∧ μ1 t = μ t
theorem Lo.rf {α : Sh} {μ : Mem} : Lo α μ α μ := fun _ _ => ⟨rfl, rfl⟩
/-- behind a call of the class the cells have the reference's shape still -/
theorem lo_g {αC A : Sh} {M C B : Mem} (h : Lo (gα αC) (mm M C) A B) : ∃ αD D, A = gα αD ∧ B = mm M D := by
  refine ⟨A, B, funext fun t => ?_, funext fun t => ?_⟩
  · unfold gα
    by_cases h0 : t = 0
    · rw [if_pos h0, (h t (by omega)).1, h0]; rfl
    · rw [if_neg h0]
      by_cases h1 : 1 ≤ t ∧ t ≤ 58
      · rw [if_pos h1, (h t (by omega)).1]; unfold gα; rw [if_neg h0, if_pos h1]
      · rw [if_neg h1]
  · funext i
    unfold mm
    by_cases h0 : t = 0
    · rw [if_pos h0, (h t (by omega)).2]; unfold mm; rw [if_pos h0]
    · rw [if_neg h0]
      by_cases h1 : 1 ≤ t ∧ t ≤ 58
      · rw [if_pos h1, (h t (by omega)).2]; unfold mm; rw [if_neg h0, if_pos h1]
      · rw [if_neg h1]
def REL (M : Mem) (α : Sh) (μ : Mem) : Prop := DesR M α μ ∧ BenR M α μ ∧ WosR M α μ
def INVL (Bd : Int) (M : Mem) (α : Sh) (μ : Mem) : Prop := REL M α μ ∧ LVL Bd M ∧ 0 ≤ Bd ∧ Bd ≤ 2000000000
def SCR (M M1 : Mem) : Prop := ∀ k : Int, k < 18 ∨ 27 < k → M1 k = M k
theorem SCR.rf {M : Mem} : SCR M M := fun _ _ => rfl
theorem LVL_mono {Bd Be : Int} {M : Mem} (h : Bd ≤ Be) (L : LVL Bd M) : LVL Be M := ⟨L.1, L.2.1, L.2.2.1, fun y a b => Int.le_trans (L.2.2.2 y a b) h⟩
theorem LVL_scr {Bd : Int} {M M1 : Mem} (L : LVL Bd M) (s : SCR M M1) : LVL Bd M1 := by
  obtain ⟨w, ww, wt, hb⟩ := L
  have sd : SD M M1 := fun k a b => s k (by omega)
  refine ⟨SD_WFD sd w, ?_, fun y y0 y1 => ?_, ?_⟩
  · unfold WFW; rw [s 30 (by decide), s 32 (by decide)]; exact ww
  · rw [s 17 (by decide)] at y1
    rw [s 0 (by decide), s 28 (by decide), s 32 (by decide), s 30 (by decide), Un_vw (τ := vw M y) w sd (fun t _ _ => by rw [s 28 (by decide)]; rfl)]
    exact wt y y0 y1
  · rw [s 17 (by decide), s 30 (by decide)]; exact hb
/-- a change of the description, or none -/
def CHG (M M1 : Mem) : Prop := M1 = M ∨ (M 17 0 = 0 ∧ M1 17 0 = 0 ∧ WFD M1 ∧ ∀ k : Int, 17 < k → M1 k = M k)
theorem LVL_chg {Bd : Int} {M M1 : Mem} (L : LVL Bd M) (c : CHG M M1) : LVL Bd M1 := by
  rcases c with rfl | ⟨c1, c2, c3, c4⟩
  · exact L
  · refine ⟨c3, ?_, fun y y0 y1 => by omega, fun y y0 y1 => by omega⟩
    unfold WFW; rw [c4 30 (by decide), c4 32 (by decide)]; exact L.2.1
theorem CHG_mk {M : Mem} {a b up : Int} (w : WFD M) (h17 : ¬ 0 < M 17 0) (hn : M 0 0 ≠ 40) (hup : -1 ≤ up ∧ up < M 0 0) (hf : a = 1 → up = -1) (hc : 0 ≤ up → M 1 up ≠ 1) : CHG M (mkM M a b up) := by
  have hw := w.w
  have h0 := w.n
  refine Or.inr ⟨by omega, ?_, WFD_mk w (by omega) hup hf hc, fun k hk => mk_o (by omega) (by omega) (by omega) (by omega)⟩
  rw [mk_o (by decide) (by decide) (by decide) (by decide)]; omega
theorem CHG_cls {M : Mem} {up op : Int} (w : WFD M) : CHG M (clsM M up op) := by
  unfold clsM
  by_cases h : 0 ≤ clsR M up
  · rw [if_pos h]
    unfold clsR at h
    by_cases c1 : up ≠ -1 ∧ ¬ (0 ≤ up ∧ up < M 0 0)
    · rw [if_pos c1] at h; exact absurd h (by decide)
    rw [if_neg c1] at h
    by_cases c2 : up ≠ -1 ∧ M 1 up = 1
    · rw [if_pos c2] at h; exact absurd h (by decide)
    rw [if_neg c2] at h
    by_cases c3 : 0 < M 17 0
    · rw [if_pos c3] at h; exact absurd h (by decide)
    rw [if_neg c3] at h
    by_cases c4 : M 0 0 = 40
    · rw [if_pos c4] at h; exact absurd h (by decide)
    have h0 := w.n
    exact CHG_mk w c3 c4 (by omega) (fun q => absurd q (by decide)) (fun q1 q2 => c2 ⟨by omega, q2⟩)
  · rw [if_neg h]; exact Or.inl rfl
theorem CHG_face {M : Mem} {d : Int} (w : WFD M) : CHG M (faceM M d) := by
  unfold faceM
  by_cases h : 0 ≤ faceR M
  · rw [if_pos h]
    unfold faceR at h
    by_cases c3 : 0 < M 17 0
    · rw [if_pos c3] at h; exact absurd h (by decide)
    rw [if_neg c3] at h
    by_cases c4 : M 0 0 = 40
    · rw [if_pos c4] at h; exact absurd h (by decide)
    have h0 := w.n
    exact CHG_mk w c3 c4 (by omega) (fun _ => rfl) (fun q => absurd q (by decide))
  · rw [if_neg h]; exact Or.inl rfl
theorem CHG_und {M : Mem} {t f : Int} (w : WFD M) : CHG M (undM M t f) := by
  unfold undM
  by_cases h : 0 ≤ undR M t f
  · rw [if_pos h]
    unfold undR at h
    by_cases c1 : ¬ (0 ≤ t ∧ t < M 0 0) ∨ ¬ (0 ≤ f ∧ f < M 0 0)
    · rw [if_pos c1] at h; exact absurd h (by decide)
    rw [if_neg c1] at h
    by_cases c2 : M 1 f ≠ 1
    · rw [if_pos c2] at h; exact absurd h (by decide)
    rw [if_neg c2] at h
    by_cases c3 : 0 < M 17 0
    · rw [if_pos c3] at h; exact absurd h (by decide)
    rw [if_neg c3] at h
    by_cases c4 : M 4 t = 4
    · rw [if_pos c4] at h; exact absurd h (by decide)
    rw [if_neg c4] at h
    by_cases c5 : undNo M t f
    · rw [if_pos c5] at h; exact absurd h (by decide)
    have h0 := w.n
    have hw := w.w
    have hc := (w.cnt t (by omega) (by omega)).1
    refine Or.inr ⟨by omega, ?_, WFD_un w (by omega) (by omega) (by omega) (by omega) (by omega) (Classical.not_not.mp c2) (fun q => c5 (Or.inl q)), fun k hk => ?_⟩
    · rw [mu_ne (by omega), mu_ne (by omega)]; omega
    · rw [mu_f _ _ _ _ (by omega), mu_f _ _ _ _ (by omega)]
  · rw [if_neg h]; exact Or.inl rfl
theorem CHG_fld {M : Mem} {t nm c v : Int} (w : WFD M) : CHG M (fldM M t nm c v) := by
  unfold fldM
  by_cases h : 0 ≤ fldR M t nm
  · rw [if_pos h]
    unfold fldR at h
    by_cases c1 : ¬ (0 ≤ t ∧ t < M 0 0)
    · rw [if_pos c1] at h; exact absurd h (by decide)
    rw [if_neg c1] at h
    by_cases c2 : ¬ (0 ≤ nm ∧ nm ≤ 9)
    · rw [if_pos c2] at h; exact absurd h (by decide)
    rw [if_neg c2] at h
    by_cases c3 : 0 < M 17 0
    · rw [if_pos c3] at h; exact absurd h (by decide)
    rw [if_neg c3] at h
    by_cases c4 : M 6 t = 6
    · rw [if_pos c4] at h; exact absurd h (by decide)
    rw [if_neg c4] at h
    by_cases c5 : 0 ≤ pF M t nm
    · rw [if_pos c5] at h; exact absurd h (by decide)
    have h0 := w.n
    have hw := w.w
    have hc := (w.cnt t (by omega) (by omega)).2.1
    have hp := (pF_oF (M := M) (t := t) (nm := nm) (by omega)).1
    refine Or.inr ⟨by omega, ?_, WFD_fl w (by omega) (by omega) (by omega) (by omega) (by omega) (by omega), fun k hk => ?_⟩
    · rw [mu_ne (by omega), mu_ne (by omega), mu_ne (by omega), mu_ne (by omega)]; omega
    · rw [mu_f _ _ _ _ (by omega), mu_f _ _ _ _ (by omega), mu_f _ _ _ _ (by omega), mu_f _ _ _ _ (by omega)]
  · rw [if_neg h]; exact Or.inl rfl
theorem CHG_mth {M : Mem} {t nm : Int} (w : WFD M) : CHG M (mthM M t nm) := by
  unfold mthM
  by_cases h : 0 ≤ mthR M t nm
  · rw [if_pos h]
    unfold mthR at h
    by_cases c1 : ¬ (0 ≤ t ∧ t < M 0 0)
    · rw [if_pos c1] at h; exact absurd h (by decide)
    rw [if_neg c1] at h
    by_cases c2 : ¬ (0 ≤ nm ∧ nm ≤ 9)
    · rw [if_pos c2] at h; exact absurd h (by decide)
    rw [if_neg c2] at h
    by_cases c3 : 0 < M 17 0
    · rw [if_pos c3] at h; exact absurd h (by decide)
    rw [if_neg c3] at h
    by_cases c4 : M 10 t = 4
    · rw [if_pos c4] at h; exact absurd h (by decide)
    rw [if_neg c4] at h
    by_cases c5 : 0 ≤ oM M t nm
    · rw [if_pos c5] at h; exact absurd h (by decide)
    have h0 := w.n
    have hw := w.w
    have hc := (w.cnt t (by omega) (by omega)).2.2
    refine Or.inr ⟨by omega, ?_, WFD_mt w (by omega) (by omega) (by omega) (by omega) (by omega) (by omega), fun k hk => ?_⟩
    · rw [mu_ne (by omega), mu_ne (by omega)]; omega
    · rw [mu_f _ _ _ _ (by omega), mu_f _ _ _ _ (by omega)]
  · rw [if_neg h]; exact Or.inl rfl
theorem CHG_act {M : Mem} {t nm k u n v : Int} (w : WFD M) : CHG M (actM M t nm k u n v) := by
  unfold actM
  by_cases h : 0 ≤ actR M t nm k u n v
  · rw [if_pos h]
    unfold actR at h
    by_cases c1 : ¬ (0 ≤ t ∧ t < M 0 0) ∨ ((1 ≤ k ∧ k ≤ 6) ∧ ¬ (0 ≤ u ∧ u < M 0 0))
    · rw [if_pos c1] at h; exact absurd h (by decide)
    rw [if_neg c1] at h
    by_cases c2 : ¬ ((0 ≤ k ∧ k ≤ 8) ∧ (¬ (1 ≤ k ∧ k ≤ 3) ∨ (0 ≤ n ∧ n ≤ 9)) ∧ (k ≠ 7 ∨ (0 ≤ v ∧ v ≤ 19)) ∧ (k ≠ 8 ∨ (-1 ≤ v ∧ v ≤ 22)))
    · rw [if_pos c2] at h; exact absurd h (by decide)
    rw [if_neg c2] at h
    by_cases c3 : 0 < M 17 0
    · rw [if_pos c3] at h; exact absurd h (by decide)
    rw [if_neg c3] at h
    by_cases c4 : bodyAt M t nm < 0
    · rw [if_pos c4] at h; exact absurd h (by decide)
    rw [if_neg c4] at h
    by_cases c5 : M 12 (bodyAt M t nm) = 12
    · rw [if_pos c5] at h; exact absurd h (by decide)
    have h0 := w.n
    have hw := w.w
    have hc := (w.cnt t (by omega) (by omega)).2.2
    have hb : bodyAt M t nm = 5 * t ∨ ∃ m : Int, 0 ≤ m ∧ m < M 10 t ∧ bodyAt M t nm = 5 * t + 1 + m := by
      have hr := oM_rng M t nm
      unfold bodyAt at c4 ⊢
      by_cases q : nm = -1
      · rw [if_pos q]; exact Or.inl rfl
      · rw [if_neg q] at c4 ⊢
        by_cases q2 : oM M t nm < 0
        · rw [if_pos q2] at c4; exact absurd (show (-6 : Int) < 0 by decide) c4
        · rw [if_neg q2]; exact Or.inr ⟨oM M t nm, by omega, by omega, rfl⟩
    have hb2 : 0 ≤ bodyAt M t nm ∧ bodyAt M t nm < 200 := by
      rcases hb with q | ⟨m, m0, m1, q⟩ <;> omega
    have hs := w.size _ hb2.1 hb2.2
    obtain ⟨d1, d2, d3, d4⟩ := Classical.not_not.mp c2
    have e1 : 1 ≤ k → k ≤ 6 → 0 ≤ u ∧ u < M 0 0 := fun q1 q2 => Classical.not_not.mp (fun z => c1 (Or.inr ⟨⟨q1, q2⟩, z⟩))
    clear c2
    refine Or.inr ⟨by omega, ?_, WFD_ac (k := k) (u := u) (n := n) (v := v) w (by omega) (by omega) hb (Int.lt_iff_le_and_ne.mpr ⟨hs.2, c5⟩) ⟨d1, e1, fun q1 q2 => d2.resolve_left (fun z => z ⟨q1, q2⟩), fun q => d3.resolve_left (fun z => z q), fun q => d4.resolve_left (fun z => z q)⟩, fun k hk => ?_⟩
    · rw [mu_ne (by omega), mu_ne (by omega), mu_ne (by omega), mu_ne (by omega), mu_ne (by omega)]; omega
    · rw [mu_f _ _ _ _ (by omega), mu_f _ _ _ _ (by omega), mu_f _ _ _ _ (by omega), mu_f _ _ _ _ (by omega), mu_f _ _ _ _ (by omega)]
  · rw [if_neg h]; exact Or.inl rfl
theorem MF.lo {α α1 : Sh} {μ μ1 : Mem} (f : MF α μ α1 μ1) : Lo α μ α1 μ1 := fun t ht => ⟨f.1 t (by omega), f.2 t (by omega) (by omega) (by omega) (by omega)⟩
theorem REL_mf {M M1 : Mem} {α α1 : Sh} {μ μ1 : Mem} (w : WFD M) (ww : WFW M) (c : CHG M M1) (f : MF α μ α1 μ1) (D : DesR M1 α1 μ1) (R : REL M α μ) : REL M1 α1 μ1 := by
  obtain ⟨-, B, Wo⟩ := R
  have e100 : μ1 100 = μ 100 := f.2 100 (by decide) (by decide) (by decide) (by decide)
  have e17 : M1 17 0 = M 17 0 := by
    rcases c with rfl | ⟨c1, c2, -⟩
    · rfl
    · omega
  refine ⟨D, ⟨?_, by rw [e100, e17]; exact B.2⟩, ?_⟩
  · unfold SbS
    rw [f.1 100 (by decide), f.1 101 (by decide), e100]; exact B.1
  · rcases c with rfl | ⟨c1, c2, -⟩
    · exact WosR_SW w ww ⟨fun _ _ _ => rfl, fun _ _ _ => rfl⟩ (fun t a b => f.1 t b) (fun t a b c d e _ _ => f.2 t b c d e) Wo
    · exact WosR_MF c1 c2 f Wo
theorem REL_lo {M : Mem} {α α1 : Sh} {μ μ1 : Mem} (w : WFD M) (ww : WFW M) (h : ∀ t : Int, 100 ≤ t → α1 t = α t ∧ μ1 t = μ t) (R : REL M α μ) : REL M α1 μ1 := by
  obtain ⟨D, B, Wo⟩ := R
  refine ⟨DesR_16 w (fun _ _ _ => rfl) (fun t ht => h t (by omega)) D, ⟨?_, by rw [(h 100 (by decide)).2]; exact B.2⟩, WosR_SW w ww ⟨fun _ _ _ => rfl, fun _ _ _ => rfl⟩ (fun t a _ => (h t a).1) (fun t a _ _ _ _ _ _ => (h t a).2) Wo⟩
  unfold SbS
  rw [(h 100 (by decide)).1, (h 101 (by decide)).1, (h 100 (by decide)).2]; exact B.1
theorem REL_scr {M M1 : Mem} {α : Sh} {μ : Mem} (w : WFD M) (ww : WFW M) (s : SCR M M1) (R : REL M α μ) : REL M1 α μ := by
  obtain ⟨D, B, Wo⟩ := R
  exact ⟨DesR_SD w (fun k a b => s k (by omega)) D, ⟨B.1, by rw [s 17 (by decide)]; exact B.2⟩, WosR_SW w ww ⟨fun k a b => s k (by omega), fun k a b => s k (by omega)⟩ (fun _ _ _ => rfl) (fun _ _ _ _ _ _ _ _ => rfl) Wo⟩
/-- a reader of the class: but its notes all is the same -/
theorem REL_sf {M : Mem} {α : Sh} {μ μ1 : Mem} (w : WFD M) (ww : WFW M) (f : SF μ μ1) (D : DesR M α μ1) (R : REL M α μ) : REL M α μ1 ∧ Lo α μ α μ1 := by
  obtain ⟨-, B, Wo⟩ := R
  have e : ∀ t : Int, t < 1000 → t ≠ 110 → t ≠ 112 → t ≠ 113 → t ≠ 114 → μ1 t = μ t := fun t a b c d g => funext fun i => f t i (fun h => by unfold scr at h; omega)
  exact ⟨⟨D, ⟨⟨B.1.1, by rw [e 100 (by decide) (by decide) (by decide) (by decide) (by decide)]; exact B.1.2⟩, by rw [e 100 (by decide) (by decide) (by decide) (by decide) (by decide)]; exact B.2⟩, WosR_SW w ww ⟨fun _ _ _ => rfl, fun _ _ _ => rfl⟩ (fun _ _ _ => rfl) (fun t a b c d g h1 h2 => e t b c g h1 h2) Wo⟩, fun t ht => ⟨rfl, e t (by omega) (by omega) (by omega) (by omega) (by omega)⟩⟩
/-- the next head of the law's loop -/
def NXT (Bd : Int) (M1 : Mem) (α : Sh) (μ : Mem) : Prop := REL M1 α μ ∧ LVL (Bd + 1041) M1
theorem NXT.iv {Bd : Int} {M M1 : Mem} {αD : Sh} {D : Mem} (h : NXT Bd M1 (gα αD) (mm M D)) (h0 : 0 ≤ Bd) (h1 : Bd + 1041 ≤ 2000000000) : INVL (Bd + 1041) M1 (gα αD) (mm M1 D) := by
  refine ⟨REL_lo h.2.1 h.2.2.1 (fun t ht => ⟨rfl, funext fun i => ?_⟩) h.1, h.2, by omega, h1⟩
  rw [mm_c (by omega), mm_c (by omega)]
theorem NXT_chg {Bd : Int} {M M1 M2 : Mem} {α α1 : Sh} {μ μ1 : Mem} (I : INVL Bd M α μ) (c : CHG M M1) (f : MF α μ α1 μ1) (D : DesR M1 α1 μ1) (s : SCR M1 M2) : NXT Bd M2 α1 μ1 := by
  have L := LVL_chg I.2.1 c
  exact ⟨REL_scr L.1 L.2.1 s (REL_mf I.2.1.1 I.2.1.2.1 c f D I.1), LVL_mono (by omega) (LVL_scr L s)⟩
theorem NXT_sf {Bd : Int} {M : Mem} {α : Sh} {μ μ1 : Mem} (I : INVL Bd M α μ) (f : SF μ μ1) (D : DesR M α μ1) : Lo α μ α μ1 ∧ ∀ M1, SCR M M1 → NXT Bd M1 α μ1 := by
  obtain ⟨a, b⟩ := REL_sf I.2.1.1 I.2.1.2.1 f D I.1
  exact ⟨b, fun M1 s => ⟨REL_scr I.2.1.1 I.2.1.2.1 s a, LVL_mono (by omega) (LVL_scr I.2.1 s)⟩⟩
