/-! THE CLASS: touch, foretell -/
/-- all that neither a touch of the world W nor the class's notes write -/
def TchF (W : Int) (μ μ1 : Mem) : Prop := ∀ u i : Int, ¬ scr u i → ¬ (150 ≤ u ∧ u < 200) → ¬ (W < u ∧ u ≤ W + 5) → ¬ (u = W ∧ (i = 3 ∨ i = 5 ∨ i = 6 ∨ i = 7)) → ¬ (u = 320 ∧ (i = 3 ∨ i = 5)) → u ≠ 321 → u ≠ 322 → μ1 u i = μ u i
theorem TchF.trans {W : Int} {μ μ1 μ2 : Mem} (h : TchF W μ μ1) (h1 : TchF W μ1 μ2) : TchF W μ μ2 := fun u i a b c d e f g => (h1 u i a b c d e f g).trans (h u i a b c d e f g)
theorem TF.tch {W : Int} {μ μ1 : Mem} (h : TF W μ μ1) : TchF W μ μ1 := fun u i a b c d e f g => h u i a (by unfold tw; omega)
theorem WoS_p {b : Int} {α α1 : Sh} {μ μ1 : Mem} (hα : ∀ t, b ≤ t → t < b + 6 → α1 t = α t) (h : ∀ i : Int, i ≠ 3 → i ≠ 5 → i ≠ 6 → i ≠ 7 → μ1 b i = μ b i) (N : WoS b α μ) : WoS b α1 μ1 := by
  unfold WoS at N ⊢
  rw [hα b (by omega) (by omega), hα (b + 1) (by omega) (by omega), hα (b + 2) (by omega) (by omega), hα (b + 3) (by omega) (by omega), hα (b + 4) (by omega) (by omega), hα (b + 5) (by omega) (by omega), h 0 (by decide) (by decide) (by decide) (by decide), h 1 (by decide) (by decide) (by decide) (by decide), h 2 (by decide) (by decide) (by decide) (by decide), h 4 (by decide) (by decide) (by decide) (by decide), h 8 (by decide) (by decide) (by decide) (by decide)]
  exact N
theorem WrT_p {M σ : Mem} {W : Int} {μ μ1 : Mem} (hm : ∀ u i : Int, (u = W ∧ (i = 3 ∨ i = 5)) ∨ (W < u ∧ u < W + 5) → μ1 u i = μ u i) (h : WrT M σ W μ) : WrT M σ W μ1 := by
  obtain ⟨a, b, ⟨c1, c2⟩, d1, d2⟩ := h
  refine ⟨fun t t0 t1 => ?_, fun t n t0 t1 n0 n1 => ?_, ⟨?_, fun i i0 i1 i2 => ?_⟩, ?_, fun i i0 i1 => ?_⟩
  · rw [hm _ _ (by omega)]; exact a t t0 t1
  · rw [hm _ _ (by omega)]; exact b t n t0 t1 n0 n1
  · rw [hm _ _ (by omega)]; exact c1
  · rw [hm _ _ (by omega)]; exact c2 i i0 i1 i2
  · rw [hm _ _ (by omega)]; exact d1
  · rw [hm _ _ (by omega)]; exact d2 i i0 i1
/-- a world taken back to how far it was -/
theorem WrT_back {M σ τ : Mem} {W : Int} {μ μ2 : Mem} (w : WFD M) (pm : PM σ τ) (h : WrT M τ W μ) (hk : ∀ u i : Int, u = W + 3 ∨ u = W + 4 → μ2 u i = μ u i) (h1 : ∀ i : Int, 0 ≤ i → i < 40 → μ2 (W + 1) i = σ 28 i) (h2 : ∀ t n : Int, 0 ≤ t → t < M 0 0 → 0 ≤ n → n ≤ 9 → μ2 (W + 2) (10 * t + n) = if 0 ≤ oF M t n then σ 29 (6 * t + oF M t n) else 0) (h3 : μ2 W 3 = σ 30 0) (h5 : μ2 W 5 = σ 32 0) : WrT M σ W μ2 := by
  obtain ⟨-, -, ⟨-, c2⟩, -, d2⟩ := h
  refine ⟨h1, h2, ⟨h3, fun i i0 i1 i2 => ?_⟩, h5, fun i i0 i1 => ?_⟩
  · rw [hk _ _ (Or.inl rfl), c2 i i0 (by have := pm.1.1; omega) i2, pm.1.2 i i0 i1]
  · rw [hk _ _ (Or.inr rfl), d2 i i0 (by have := pm.2.1; omega), pm.2.2 i i0 i1]
theorem WFm_touch {M : Mem} {W : Int} {α αc : Sh} {μ μ1 : Mem} (D : DesR M α μ) (sW : WoS W α μ) (sA : WoS 320 α μ) (h150 : ∀ t : Int, 150 ≤ t → t < 200 → (α t).1 = 0) (hwf : WFm α μ) (h1 : WFm αc μ1) (hα : ∀ u, (α u).1 ≠ 0 → αc u = α u) (f : TchF W μ μ1) : WFm α μ1 := by
  refine WFm_int hwf h1 hα (fun t i ht => ?_)
  by_cases c1 : scr t i
  · exact Or.inr (scr_int D c1 ht)
  · by_cases c2 : 150 ≤ t ∧ t < 200
    · exact absurd (h150 t c2.1 c2.2) ht
    · have aux : ∀ b : Int, WoS b α μ → (b < t ∧ t ≤ b + 5) ∨ (t = b ∧ ((i : Int) = 3 ∨ (i : Int) = 5 ∨ (i : Int) = 6 ∨ (i : Int) = 7)) → ek (α t).1 i ≤ 2 := by
        intro b s h
        rcases h with h | ⟨rfl, h⟩
        · rcases (show t = b + 1 ∨ t = b + 2 ∨ t = b + 3 ∨ t = b + 4 ∨ t = b + 5 by omega) with q | q | q | q | q
          · rw [q, s.1.2.1]; exact (show (0 : Nat) ≤ 2 by decide)
          · rw [q, s.1.2.2.1]; exact (show (0 : Nat) ≤ 2 by decide)
          · rw [q, s.1.2.2.2.1]; exact (show (0 : Nat) ≤ 2 by decide)
          · rw [q, s.1.2.2.2.2.1]; exact (show (0 : Nat) ≤ 2 by decide)
          · rw [q, s.1.2.2.2.2.2]; exact (show (0 : Nat) ≤ 2 by decide)
        · rw [s.1.1]
          rcases (show i = 3 ∨ i = 5 ∨ i = 6 ∨ i = 7 by omega) with q | q | q | q <;> subst q <;> decide
      by_cases c3 : (W < t ∧ t ≤ W + 5) ∨ (t = W ∧ ((i : Int) = 3 ∨ (i : Int) = 5 ∨ (i : Int) = 6 ∨ (i : Int) = 7))
      · exact Or.inr (aux W sW c3)
      · by_cases c4 : (320 < t ∧ t ≤ 320 + 5) ∨ (t = 320 ∧ ((i : Int) = 3 ∨ (i : Int) = 5 ∨ (i : Int) = 6 ∨ (i : Int) = 7))
        · exact Or.inr (aux 320 sA c4)
        · exact Or.inl (f t i c1 c2 (by omega) (by omega) (by omega) (by omega) (by omega))
theorem refR_0 {M : Mem} {x k t n : Int} (h : refR M x k t n = 0) : (0 ≤ x ∧ x < M 17 0) ∧ (0 ≤ t ∧ t < M 0 0) ∧ (1 ≤ k ∧ k ≤ 6) ∧ (k ≤ 3 → 0 ≤ n ∧ n ≤ 9) := by
  unfold refR isW isTy at h
  split at h
  · omega
  · split at h
    · omega
    · omega
/-- how a touch went, in the class's world W -/
def accR (q : Int × Mem) (W : Int) (μ1 : Mem) : Prop := (μ1 W 6 = (if q.1 = -6 ∨ q.1 = 23 then -6 else q.1) ∧ μ1 W 7 = (if q.1 = -6 ∨ q.1 = 23 then -6 else q.2 52 0)) ∧ μ1 (W + 5) 0 = q.2 45 0 ∧ μ1 (W + 5) 1 = q.2 46 0 ∧ μ1 (W + 5) 2 = q.2 47 0 ∧ μ1 (W + 5) 3 = q.2 48 0
def kepR (W : Int) (μ μ1 : Mem) : Prop := μ1 W 6 = μ W 6 ∧ μ1 W 7 = μ W 7 ∧ ∀ i : Int, μ1 (W + 5) i = μ (W + 5) i
theorem tX6_touch {Γ : GC} {α : Sh} {μ : Mem} {x k t nm v : Int} {M : Mem} (w : WFD M) (D : DesR M α μ) (B : BenR M α μ) (Wo : WosR M α μ) (wt : WFT M) (hB : 0 ≤ x → x < M 17 0 → M 30 x ≤ 2000000000) : MT Γ yX6_touch cX6_touch 10 (some .int) 253 2 11 [(3, 100), (0, x), (0, k), (0, t), (0, nm), (0, v)] α μ (QI fun r α1 μ1 => α1 = α ∧ ((refR M x k t nm ≠ 0 ∧ r = refR M x k t nm ∧ μ1 = μ) ∨ (refR M x k t nm = 0 ∧ r = cmR (tE M k t nm v (vw M x)).1 ∧ DesR M α μ1 ∧ WrT M (if (tE M k t nm v (vw M x)).1 = 23 then vw M x else (tE M k t nm v (vw M x)).2) (200 + 10 * x) μ1 ∧ accR (tE M k t nm v (vw M x)) (200 + 10 * x) μ1 ∧ TchF (200 + 10 * x) μ μ1))) := by
  have hn := w.n
  have hw := w.w
  refine MT_of (k := 4) [(3, 100), (0, x), (0, k), (0, t), (0, nm), (0, v), (9, 0), (9, 0), (9, 0), (9, 0)] pn_X6_touch rfl rfl (fun ad0 => ?_)
  refine V_WF (fun hwf => ?_)
  refine V_aload_n (q := 1) dX6_touch_0 rfl rfl rfl ?_
  refine V_iload_n (q := 2) dX6_touch_1 rfl rfl rfl ?_
  refine V_iload_n (q := 3) dX6_touch_2 rfl rfl rfl ?_
  refine V_iload_n (q := 4) dX6_touch_3 rfl rfl rfl ?_
  refine V_iload (q := 6) dX6_touch_4 rfl rfl ?_
  refine V_rdV (q := 9) (As := [(0, x), (0, k), (0, t), (0, nm)]) (tX6_refusalOfTouch w D B) dX6_touch_6 rfl mlX6_159 mw_X6_refusalOfTouch im_X6_refusalOfTouch sl_X6_refusalOfTouch md_X6_refusalOfTouch rfl (by decide) (by decide) (congrArg Prod.fst (show _ = (7, 0) by rw [B.1.1.1])) rfl rfl (by decide) (by decide) (Nat.le_of_ble_eq_true rfl) (Nat.le_of_ble_eq_true rfl) (Nat.le_of_ble_eq_true rfl) (fun z6 rz6 hz6 => ?_)
  refine V_istore (q := 11) (lv1 := [(3, 100), (0, x), (0, k), (0, t), (0, nm), (0, v), (0, z6), (9, 0), (9, 0), (9, 0)]) dX6_touch_9 rfl (by decide) rfl rfl ?_
  refine V_iload (q := 13) dX6_touch_11 rfl rfl ?_
  refine V_if_eq (q := 16) (tgt := 19) dX6_touch_13 (by decide) rfl (fun c13 => ?_) (fun c13 => ?_)
  · have hr0 : refR M x k t nm = 0 := by rw [← hz6]; omega
    obtain ⟨hx, ht, hk, hnm⟩ := refR_0 hr0
    obtain ⟨W, eW⟩ : ∃ W : Int, W = 200 + 10 * x := ⟨_, rfl⟩
    obtain ⟨kW, sW, cW, aW⟩ := Wo.at (w := x) hx.1 hx.2
    rw [← eW] at kW sW cW aW
    rw [← eW]
    have hW : 200 ≤ W ∧ W ≤ 310 := by omega
    obtain ⟨hPR, hslk⟩ := beg_PR w wt hx.1 hx.2 (hB hx.1 hx.2)
    have pm := PM_tE (M := M) (σ := vw M x) (k := k) (t := t) (n := nm) (v := v)
    refine V_aload_n (q := 20) dX6_touch_19 rfl rfl rfl ?_
    refine V_getA (q := 23) 1 dX6_touch_20 rfl flX6_18 (by decide) (congrArg Prod.fst (show _ = (7, 0) by rw [B.1.1.1])) rfl rfl (fun z20 ez20 rz20 => ?_)
    rw [B.1.2.2.1] at ez20
    obtain rfl : z20 = 101 := ez20
    refine V_iload_n (q := 24) dX6_touch_23 rfl rfl rfl ?_
    refine V_aald (q := 25) (n := 12) (ta := 26) (ci := 5) dX6_touch_24 rfl (by decide) (by rw [B.1.1.2]) rfl (by decide) (by omega) (fun z24 ez24 rz24 => ?_)
    rw [kW] at ez24
    obtain rfl : W = z24 := ez24.symm
    refine V_astore (q := 27) (lv1 := [(3, 100), (0, x), (0, k), (0, t), (0, nm), (0, v), (0, z6), (3, W), (9, 0), (9, 0)]) dX6_touch_25 rfl (by decide) rfl rfl ?_
    refine V_aload_n (q := 28) dX6_touch_27 rfl rfl rfl ?_
    refine V_getA (q := 31) 3 dX6_touch_28 rfl flX6_27 (by decide) (congrArg Prod.fst (show _ = (7, 0) by rw [B.1.1.1])) rfl rfl (fun z28 ez28 rz28 => ?_)
    rw [B.1.2.2.2] at ez28
    obtain rfl : z28 = 320 := ez28
    refine V_aload (q := 33) dX6_touch_31 rfl rfl ?_
    refine V_chV (q := 36) (As := [(3, W)]) (tX5_takeStateOf (W := 320) (U := W) (by omega) (by omega) (by omega) Wo.1 sW) dX6_touch_33 rfl mlX6_163 mw_X5_takeStateOf im_X5_takeStateOf sl_X5_takeStateOf md_X5_takeStateOf rfl (by decide) (by decide) (congrArg Prod.fst (show _ = (6, 0) by rw [Wo.1.1.1])) rfl rfl (by decide) (by decide) (Nat.le_of_ble_eq_true rfl) (Nat.le_of_ble_eq_true rfl) (Nat.le_of_ble_eq_true rfl) (fun A33 M33 xM33 hM33 => ?_)
    obtain ⟨hA, hM33⟩ := hM33
    replace hA := hA.symm
    subst hA
    refine V_new (q := 39) (ci := 3) 150 dX6_touch_36 rfl ckX6_167 (Wo.2.1 150 (by decide) (by decide)) (by decide) (Nat.le_of_ble_eq_true rfl) (Nat.le_of_ble_eq_true rfl) (fun A36 M36 eA36 eM36 => ?_)
    refine V_dup (q := 40) dX6_touch_39 rfl (show (3 : Nat) ≠ 2 by decide) ?_
    refine V_aload_n (q := 41) dX6_touch_40 rfl rfl rfl ?_
    refine V_getA (q := 44) 0 dX6_touch_41 rfl flX6_10 (by decide) (congrArg Prod.fst (show _ = (7, 0) by rw [eA36, sa_t _ _ _ (by omega), B.1.1.1])) rfl rfl (fun z41 ez41 rz41 => ?_)
    rw [eM36, mn_t _ _ _ (by omega), hM33.2.2.2.2 100 0 (by omega) (by omega) (by omega), B.1.2.1] at ez41
    obtain rfl : z41 = 110 := ez41
    refine V_aload (q := 46) dX6_touch_44 rfl rfl ?_
    refine V_chI (q := 49) (As := [(3, 110), (3, W)]) (tX3_init (by rw [eA36, sa_s]) (by decide) (by rw [eA36, sa_t _ _ _ (by decide), D.1.1.1]) (by omega) (by rw [eA36, sa_t _ _ _ (by omega), sW.1.1])) dX6_touch_46 rfl mlX6_169 mw_X3_init im_X3_init rfl md_X3_init (by omega) rfl rfl (by decide) (by decide) (Nat.le_of_ble_eq_true rfl) (Nat.le_of_ble_eq_true rfl) (Nat.le_of_ble_eq_true rfl) (fun A9 M46 x9 hM46 => ?_)
    obtain ⟨hA, hM46⟩ := hM46
    replace hA := hA.symm
    subst hA
    refine V_astore (q := 51) (lv1 := [(3, 100), (0, x), (0, k), (0, t), (0, nm), (0, v), (0, z6), (3, W), (3, 150), (9, 0)]) dX6_touch_49 rfl (by decide) rfl rfl ?_
    refine V_aload (q := 53) dX6_touch_51 rfl rfl ?_
    refine V_new (q := 56) (ci := 0) 151 dX6_touch_53 rfl ckX6_123 (by (rw [eA36, sa_t _ _ _ (by omega)]) <;> exact (Wo.2.1 151 (by decide) (by decide))) (by decide) (Nat.le_of_ble_eq_true rfl) (Nat.le_of_ble_eq_true rfl) (fun A53 M53 eA53 eM53 => ?_)
    refine V_dup (q := 57) dX6_touch_56 rfl (show (3 : Nat) ≠ 2 by decide) ?_
    refine V_iload_n (q := 58) dX6_touch_57 rfl rfl rfl ?_
    refine V_iload_n (q := 59) dX6_touch_58 rfl rfl rfl ?_
    refine V_iload (q := 61) dX6_touch_59 rfl rfl ?_
    refine V_iload (q := 63) dX6_touch_61 rfl rfl ?_
    refine V_chI (q := 66) (As := [(0, k), (0, t), (0, nm), (0, v)]) (tX0_init (a := 151) (by omega) (by rw [eA53, sa_s])) dX6_touch_63 rfl mlX6_125 mw_X0_init im_X0_init rfl md_X0_init (by omega) rfl rfl (by decide) (by decide) (Nat.le_of_ble_eq_true rfl) (Nat.le_of_ble_eq_true rfl) (Nat.le_of_ble_eq_true rfl) (fun A8 M63 x8 hM63 => ?_)
    obtain ⟨hA, hM63⟩ := hM63
    replace hA := hA.symm
    subst hA
    have G63 : ∀ u i : Int, u ≠ 150 → u ≠ 151 → M63 u i = M33 u i := fun u i a b => by rw [hM63.2 u (by omega), eM53, mn_t _ _ _ (by omega), hM46.2 u i (by omega), eM36, mn_t _ _ _ (by omega)]
    have F63 : ∀ u i : Int, u ≠ 150 → u ≠ 151 → ¬ (u = 320 ∧ (i = 3 ∨ i = 5)) → u ≠ 321 → u ≠ 322 → M63 u i = μ u i := fun u i a b c d e => (G63 u i a b).trans (hM33.2.2.2.2 u i c (by omega) (by omega))
    have hAA : ∀ u : Int, u ≠ 150 → u ≠ 151 → A53 u = α u := fun u a b => by rw [eA53, sa_t _ _ _ b, eA36, sa_t _ _ _ a]
    have D63 : DesR M A53 M63 := DesR_16 w (fun _ _ _ => rfl) (fun u hu => ⟨hAA u (by omega) (by omega), funext fun i => F63 u i (by omega) (by omega) (by omega) (by omega) (by omega)⟩) D
    have s63 : WoS W A53 M63 := WoS_c (fun u a b => ⟨hAA u (by omega) (by omega), funext fun i => F63 u i (by omega) (by omega) (by omega) (by omega) (by omega)⟩) sW
    have r63 : WrT M (vw M x) W M63 := WrT_p (fun u i h => F63 u i (by omega) (by omega) (by omega) (by omega) (by omega)) (WrT_vw.mpr cW)
    have e150 : A53 150 = (4, 0) := by rw [eA53, sa_t _ _ _ (by decide), eA36, sa_s]
    have z150 : ∀ i : Int, M63 150 i = M46 150 i := fun i => by rw [hM63.2 150 (by decide), eM53, mn_t _ _ _ (by decide)]
    have y150 : ∀ i : Int, ¬ (i = 0 ∨ i = 1 ∨ i = 6) → M63 150 i = M36 150 i := fun i h => by rw [z150, hM46.2 150 i (by omega)]
    refine V_chVi (q := 69) (As := [(3, 151)]) (tX3_doTouch w D63 (by omega) s63 r63 ⟨e150, (z150 0).trans hM46.1.1, (z150 1).trans hM46.1.2.1⟩ ⟨(y150 3 (by decide)).trans (by rw [eM36, mn_s] <;> rfl), (y150 4 (by decide)).trans (by rw [eM36, mn_s] <;> rfl), (y150 5 (by decide)).trans (by rw [eM36, mn_s] <;> rfl), (z150 6).trans hM46.1.2.2⟩ (Or.inl rfl) hM63.1 hk ht (fun _ q => hnm q) hPR hslk) dX6_touch_66 rfl mlX6_172 mw_X3_doTouch im_X3_doTouch sl_X3_doTouch md_X3_doTouch rfl (by decide) (by decide) (congrArg Prod.fst (show _ = (4, 0) by rw [eA53, sa_t _ _ _ (by omega), eA36, sa_s])) rfl rfl (by decide) (by decide) (Nat.le_of_ble_eq_true rfl) (Nat.le_of_ble_eq_true rfl) (Nat.le_of_ble_eq_true rfl) (fun z66 rz66 A66 M66 xM66 hM66 => ?_)
    obtain ⟨hA, hM66⟩ := hM66
    replace hA := hA.symm
    subst hA
    obtain ⟨q, eq0⟩ : ∃ q : Int × Mem, tE M k t nm v (vw M x) = q := ⟨_, rfl⟩
    rw [eq0] at hM66
    obtain ⟨f66, D66, T66, -, zqe⟩ := hM66
    have C66 : TchF W μ M66 := fun u i a b c d e f g => (f66 u i a (by unfold tw; omega)).trans (F63 u i (by omega) (by omega) e f g)
    have G66 : ∀ u i : Int, (320 ≤ u ∧ u ≤ 325) → M66 u i = M33 u i := fun u i h => (f66 u i (by unfold scr; omega) (by unfold tw; omega)).trans (G63 u i (by omega) (by omega))
    have sA66 : WoS 320 A53 M66 := WoS_p (fun u a b => hAA u (by omega) (by omega)) (fun i a b c d => C66 320 i (by unfold scr; omega) (by omega) (by omega) (by omega) (by omega) (by omega) (by omega)) Wo.1
    refine V_istore (q := 71) (lv1 := [(3, 100), (0, x), (0, k), (0, t), (0, nm), (0, v), (0, z6), (3, W), (3, 150), (0, z66)]) dX6_touch_69 rfl (by decide) rfl rfl ?_
    refine V_iload (q := 73) dX6_touch_71 rfl rfl ?_
    refine V_bipush (q := 75) dX6_touch_73 rfl (by decide) ?_
    refine V_icmp_ne (q := 78) (tgt := 87) dX6_touch_75 (by decide) rfl (fun c75 => ?_) (fun c75 => ?_)
    · refine V_aload (q := 89) dX6_touch_87 rfl rfl ?_
      refine V_aload (q := 91) dX6_touch_89 rfl rfl ?_
      refine V_iload (q := 93) dX6_touch_91 rfl rfl ?_
      refine V_chV (q := 96) (As := [(3, 150), (0, z66)]) (tX5_keepAccount (M := M) (σ := q.2) T66.2.1 (by omega) T66.2.2.2) dX6_touch_93 rfl mlX6_175 mw_X5_keepAccount im_X5_keepAccount sl_X5_keepAccount md_X5_keepAccount rfl (by decide) (by omega) (congrArg Prod.fst (show _ = (6, 0) by rw [eA53, sa_t _ _ _ (by omega), eA36, sa_t _ _ _ (by omega), sW.1.1])) rfl rfl (by decide) (by decide) (Nat.le_of_ble_eq_true rfl) (Nat.le_of_ble_eq_true rfl) (Nat.le_of_ble_eq_true rfl) (fun A93 M93 xM93 hM93 => ?_)
      obtain ⟨hA, hM93⟩ := hM93
      replace hA := hA.symm
      subst hA
      obtain ⟨k67, k5, kf⟩ := hM93
      have D93 : DesR M A53 M93 := DesR_16 w (fun _ _ _ => rfl) (fun u hu => ⟨rfl, funext fun i => kf u i (by omega) (by omega)⟩) D66
      have C93 : TchF W μ M93 := C66.trans (fun u i a b c d e f g => kf u i (by omega) (by omega))
      have W93 := WrT_p (μ1 := M93) (fun u i h => kf u i (by omega) (by omega)) T66.2.2.1
      refine V_iload (q := 98) dX6_touch_96 rfl rfl ?_
      refine V_rdS (q := 101) (As := [(0, z66)]) (tX6_comesTo ) dX6_touch_98 rfl mlX6_179 mw_X6_comesTo sm_X6_comesTo md_X6_comesTo rfl rfl (by decide) (by decide) (Nat.le_of_ble_eq_true rfl) (Nat.le_of_ble_eq_true rfl) (Nat.le_of_ble_eq_true rfl) (fun z98 rz98 hz98 => ?_)
      have hd0 : ∀ u, (α u).1 ≠ 0 → A53 u = α u := fun u hu => hAA u (fun q => hu (by rw [q]; exact Wo.2.1 150 (by decide) (by decide))) (fun q => hu (by rw [q]; exact Wo.2.1 151 (by decide) (by decide)))
      have DD : DesR M α M93 := by { obtain ⟨x1, x2, x3, x4, x5, x6⟩ := D; exact DesR_16 w (fun _ _ _ => rfl) (fun u hu => ⟨(hAA u (by omega) (by omega)).symm, rfl⟩) D93 }
      exact V_iretW α dX6_touch_101 (Nat.le_of_ble_eq_true rfl) (Nat.le_of_ble_eq_true rfl) hd0 (fun _ _ => rfl) (fun h => WFm_touch D sW Wo.1 Wo.2.1 hwf h hd0 C93) (by { rintro v ⟨⟩ h; exact h }) ⟨_, rfl, rfl, Or.inr ⟨hr0, by { rw [eq0, ← zqe]; exact hz98 }, DD, (by { rw [eq0, if_neg (by omega)]; exact W93 }), (by { rw [eq0]; refine ⟨?_, k5⟩; rw [← zqe]; exact k67 }), C93⟩⟩
    · refine V_aload (q := 80) dX6_touch_78 rfl rfl ?_
      refine V_aload_n (q := 81) dX6_touch_80 rfl rfl rfl ?_
      refine V_getA (q := 84) 3 dX6_touch_81 rfl flX6_27 (by decide) (congrArg Prod.fst (show _ = (7, 0) by rw [eA53, sa_t _ _ _ (by omega), eA36, sa_t _ _ _ (by omega), B.1.1.1])) rfl rfl (fun z81 ez81 rz81 => ?_)
      rw [f66 100 3 (by unfold scr; omega) (by unfold tw; omega), congrFun (hM63.2 100 (by omega)) _, eM53, mn_t _ _ _ (by omega), hM46.2 100 3 (by omega), eM36, mn_t _ _ _ (by omega), hM33.2.2.2.2 100 3 (by omega) (by omega) (by omega), B.1.2.2.2] at ez81
      obtain rfl : z81 = 320 := ez81
      refine V_chV (q := 87) (As := [(3, 320)]) (tX5_takeStateOf (W := W) (U := 320) (by omega) (by omega) (by omega) T66.2.1 sA66) dX6_touch_84 rfl mlX6_163 mw_X5_takeStateOf im_X5_takeStateOf sl_X5_takeStateOf md_X5_takeStateOf rfl (by decide) (by omega) (congrArg Prod.fst (show _ = (6, 0) by rw [eA53, sa_t _ _ _ (by omega), eA36, sa_t _ _ _ (by omega), sW.1.1])) rfl rfl (by decide) (by decide) (Nat.le_of_ble_eq_true rfl) (Nat.le_of_ble_eq_true rfl) (Nat.le_of_ble_eq_true rfl) (fun A84 M84 xM84 hM84 => ?_)
      obtain ⟨hA, hM84⟩ := hM84
      replace hA := hA.symm
      subst hA
      obtain ⟨b1, b2, b3, b5, bf⟩ := hM84
      have hback : WrT M (vw M x) W M84 := WrT_back w pm (by { rw [eq0]; exact T66.2.2.1 }) (fun u i h => bf u i (by omega) (by omega) (by omega)) (fun i i0 i1 => by { rw [b1 i i0 i1, G66 _ _ (by omega), hM33.1 i i0 i1]; exact cW.1 i i0 i1 }) (fun t n t0 t1 n0 n1 => by { rw [b2 _ (by omega) (by omega), G66 _ _ (by omega), hM33.2.1 _ (by omega) (by omega)]; exact cW.2.1 t n t0 t1 n0 n1 }) (by { rw [b3, G66 _ _ (by omega), hM33.2.2.1]; exact cW.2.2.1.1 }) (by { rw [b5, G66 _ _ (by omega), hM33.2.2.2.1]; exact cW.2.2.2.1 })
      have DM84 : DesR M A53 M84 := DesR_16 w (fun _ _ _ => rfl) (fun u hu => ⟨rfl, funext fun i => bf u i (by omega) (by omega) (by omega)⟩) D66
      have CM84 : TchF W μ M84 := C66.trans (fun u i a b c d e f g => bf u i (by omega) (by omega) (by omega))
      refine V_aload (q := 89) dX6_touch_87 rfl rfl ?_
      refine V_aload (q := 91) dX6_touch_89 rfl rfl ?_
      refine V_iload (q := 93) dX6_touch_91 rfl rfl ?_
      have sW2 : WoS W A53 M84 := WoS_p (fun _ _ _ => rfl) (fun i a b c d => bf W i (by omega) (by omega) (by omega)) T66.2.1
      have dg2 : DgT q.2 W A53 M84 := by { have g : M84 150 = M66 150 := funext fun i => bf 150 i (by omega) (by omega) (by omega); have := T66.2.2.2; unfold DgT at this ⊢; rw [g]; exact this }
      refine V_chV (q := 96) (As := [(3, 150), (0, z66)]) (tX5_keepAccount (M := M) (σ := q.2) sW2 (by omega) dg2) dX6_touch_93 rfl mlX6_175 mw_X5_keepAccount im_X5_keepAccount sl_X5_keepAccount md_X5_keepAccount rfl (by decide) (by omega) (congrArg Prod.fst (show _ = (6, 0) by rw [eA53, sa_t _ _ _ (by omega), eA36, sa_t _ _ _ (by omega), sW.1.1])) rfl rfl (by decide) (by decide) (Nat.le_of_ble_eq_true rfl) (Nat.le_of_ble_eq_true rfl) (Nat.le_of_ble_eq_true rfl) (fun A93_2 M93_2 xM93_2 hM93_2 => ?_)
      obtain ⟨hA, hM93_2⟩ := hM93_2
      replace hA := hA.symm
      subst hA
      obtain ⟨k67, k5, kf⟩ := hM93_2
      have D93 : DesR M A53 M93_2 := DesR_16 w (fun _ _ _ => rfl) (fun u hu => ⟨rfl, funext fun i => kf u i (by omega) (by omega)⟩) DM84
      have C93 : TchF W μ M93_2 := CM84.trans (fun u i a b c d e f g => kf u i (by omega) (by omega))
      have W93 := WrT_p (μ1 := M93_2) (fun u i h => kf u i (by omega) (by omega)) hback
      refine V_iload (q := 98) dX6_touch_96 rfl rfl ?_
      refine V_rdS (q := 101) (As := [(0, z66)]) (tX6_comesTo ) dX6_touch_98 rfl mlX6_179 mw_X6_comesTo sm_X6_comesTo md_X6_comesTo rfl rfl (by decide) (by decide) (Nat.le_of_ble_eq_true rfl) (Nat.le_of_ble_eq_true rfl) (Nat.le_of_ble_eq_true rfl) (fun z98_2 rz98_2 hz98_2 => ?_)
      have hd0 : ∀ u, (α u).1 ≠ 0 → A53 u = α u := fun u hu => hAA u (fun q => hu (by rw [q]; exact Wo.2.1 150 (by decide) (by decide))) (fun q => hu (by rw [q]; exact Wo.2.1 151 (by decide) (by decide)))
      have DD : DesR M α M93_2 := by { obtain ⟨x1, x2, x3, x4, x5, x6⟩ := D; exact DesR_16 w (fun _ _ _ => rfl) (fun u hu => ⟨(hAA u (by omega) (by omega)).symm, rfl⟩) D93 }
      exact V_iretW α dX6_touch_101 (Nat.le_of_ble_eq_true rfl) (Nat.le_of_ble_eq_true rfl) hd0 (fun _ _ => rfl) (fun h => WFm_touch D sW Wo.1 Wo.2.1 hwf h hd0 C93) (by { rintro v ⟨⟩ h; exact h }) ⟨_, rfl, rfl, Or.inr ⟨hr0, by { rw [eq0, ← zqe]; exact hz98_2 }, DD, (by { rw [eq0, if_pos (by omega)]; exact W93 }), (by { rw [eq0]; refine ⟨?_, k5⟩; rw [← zqe]; exact k67 }), C93⟩⟩
  · refine V_iload (q := 18) dX6_touch_16 rfl rfl ?_
    exact V_iret dX6_touch_18 (Nat.le_of_ble_eq_true rfl) (Nat.le_of_ble_eq_true rfl) ⟨_, rfl, rfl, Or.inl ⟨by omega, hz6, rfl⟩⟩
theorem tX6_foretell {Γ : GC} {α : Sh} {μ : Mem} {x k t nm v : Int} {M : Mem} (w : WFD M) (D : DesR M α μ) (B : BenR M α μ) (Wo : WosR M α μ) (wt : WFT M) (hB : 0 ≤ x → x < M 17 0 → M 30 x ≤ 2000000000) : MT Γ yX6_foretell cX6_foretell 9 (some .int) 253 2 11 [(3, 100), (0, x), (0, k), (0, t), (0, nm), (0, v)] α μ (QI fun r α1 μ1 => α1 = α ∧ ((refR M x k t nm ≠ 0 ∧ r = refR M x k t nm ∧ μ1 = μ) ∨ (refR M x k t nm = 0 ∧ r = cmR (tE M k t nm v (vw M x)).1 ∧ DesR M α μ1 ∧ WrT M (vw M x) (200 + 10 * x) μ1 ∧ kepR (200 + 10 * x) μ μ1 ∧ TchF (200 + 10 * x) μ μ1))) := by
  have hn := w.n
  have hw := w.w
  refine MT_of (k := 3) [(3, 100), (0, x), (0, k), (0, t), (0, nm), (0, v), (9, 0), (9, 0), (9, 0)] pn_X6_foretell rfl rfl (fun ad0 => ?_)
  refine V_WF (fun hwf => ?_)
  refine V_aload_n (q := 1) dX6_foretell_0 rfl rfl rfl ?_
  refine V_iload_n (q := 2) dX6_foretell_1 rfl rfl rfl ?_
  refine V_iload_n (q := 3) dX6_foretell_2 rfl rfl rfl ?_
  refine V_iload_n (q := 4) dX6_foretell_3 rfl rfl rfl ?_
  refine V_iload (q := 6) dX6_foretell_4 rfl rfl ?_
  refine V_rdV (q := 9) (As := [(0, x), (0, k), (0, t), (0, nm)]) (tX6_refusalOfTouch w D B) dX6_foretell_6 rfl mlX6_159 mw_X6_refusalOfTouch im_X6_refusalOfTouch sl_X6_refusalOfTouch md_X6_refusalOfTouch rfl (by decide) (by decide) (congrArg Prod.fst (show _ = (7, 0) by rw [B.1.1.1])) rfl rfl (by decide) (by decide) (Nat.le_of_ble_eq_true rfl) (Nat.le_of_ble_eq_true rfl) (Nat.le_of_ble_eq_true rfl) (fun z6 rz6 hz6 => ?_)
  refine V_istore (q := 11) (lv1 := [(3, 100), (0, x), (0, k), (0, t), (0, nm), (0, v), (0, z6), (9, 0), (9, 0)]) dX6_foretell_9 rfl (by decide) rfl rfl ?_
  refine V_iload (q := 13) dX6_foretell_11 rfl rfl ?_
  refine V_if_eq (q := 16) (tgt := 19) dX6_foretell_13 (by decide) rfl (fun c13 => ?_) (fun c13 => ?_)
  · have hr0 : refR M x k t nm = 0 := by rw [← hz6]; omega
    obtain ⟨hx, ht, hk, hnm⟩ := refR_0 hr0
    obtain ⟨W, eW⟩ : ∃ W : Int, W = 200 + 10 * x := ⟨_, rfl⟩
    obtain ⟨kW, sW, cW, aW⟩ := Wo.at (w := x) hx.1 hx.2
    rw [← eW] at kW sW cW aW
    rw [← eW]
    have hW : 200 ≤ W ∧ W ≤ 310 := by omega
    obtain ⟨hPR, hslk⟩ := beg_PR w wt hx.1 hx.2 (hB hx.1 hx.2)
    have pm := PM_tE (M := M) (σ := vw M x) (k := k) (t := t) (n := nm) (v := v)
    refine V_aload_n (q := 20) dX6_foretell_19 rfl rfl rfl ?_
    refine V_getA (q := 23) 1 dX6_foretell_20 rfl flX6_18 (by decide) (congrArg Prod.fst (show _ = (7, 0) by rw [B.1.1.1])) rfl rfl (fun z20 ez20 rz20 => ?_)
    rw [B.1.2.2.1] at ez20
    obtain rfl : z20 = 101 := ez20
    refine V_iload_n (q := 24) dX6_foretell_23 rfl rfl rfl ?_
    refine V_aald (q := 25) (n := 12) (ta := 26) (ci := 5) dX6_foretell_24 rfl (by decide) (by rw [B.1.1.2]) rfl (by decide) (by omega) (fun z24 ez24 rz24 => ?_)
    rw [kW] at ez24
    obtain rfl : W = z24 := ez24.symm
    refine V_astore (q := 27) (lv1 := [(3, 100), (0, x), (0, k), (0, t), (0, nm), (0, v), (0, z6), (3, W), (9, 0)]) dX6_foretell_25 rfl (by decide) rfl rfl ?_
    refine V_aload_n (q := 28) dX6_foretell_27 rfl rfl rfl ?_
    refine V_getA (q := 31) 3 dX6_foretell_28 rfl flX6_27 (by decide) (congrArg Prod.fst (show _ = (7, 0) by rw [B.1.1.1])) rfl rfl (fun z28 ez28 rz28 => ?_)
    rw [B.1.2.2.2] at ez28
    obtain rfl : z28 = 320 := ez28
    refine V_aload (q := 33) dX6_foretell_31 rfl rfl ?_
    refine V_chV (q := 36) (As := [(3, W)]) (tX5_takeStateOf (W := 320) (U := W) (by omega) (by omega) (by omega) Wo.1 sW) dX6_foretell_33 rfl mlX6_163 mw_X5_takeStateOf im_X5_takeStateOf sl_X5_takeStateOf md_X5_takeStateOf rfl (by decide) (by decide) (congrArg Prod.fst (show _ = (6, 0) by rw [Wo.1.1.1])) rfl rfl (by decide) (by decide) (Nat.le_of_ble_eq_true rfl) (Nat.le_of_ble_eq_true rfl) (Nat.le_of_ble_eq_true rfl) (fun A33 M33 xM33 hM33 => ?_)
    obtain ⟨hA, hM33⟩ := hM33
    replace hA := hA.symm
    subst hA
    refine V_new (q := 39) (ci := 3) 150 dX6_foretell_36 rfl ckX6_167 (Wo.2.1 150 (by decide) (by decide)) (by decide) (Nat.le_of_ble_eq_true rfl) (Nat.le_of_ble_eq_true rfl) (fun A36 M36 eA36 eM36 => ?_)
    refine V_dup (q := 40) dX6_foretell_39 rfl (show (3 : Nat) ≠ 2 by decide) ?_
    refine V_aload_n (q := 41) dX6_foretell_40 rfl rfl rfl ?_
    refine V_getA (q := 44) 0 dX6_foretell_41 rfl flX6_10 (by decide) (congrArg Prod.fst (show _ = (7, 0) by rw [eA36, sa_t _ _ _ (by omega), B.1.1.1])) rfl rfl (fun z41 ez41 rz41 => ?_)
    rw [eM36, mn_t _ _ _ (by omega), hM33.2.2.2.2 100 0 (by omega) (by omega) (by omega), B.1.2.1] at ez41
    obtain rfl : z41 = 110 := ez41
    refine V_aload (q := 46) dX6_foretell_44 rfl rfl ?_
    refine V_chI (q := 49) (As := [(3, 110), (3, W)]) (tX3_init (by rw [eA36, sa_s]) (by decide) (by rw [eA36, sa_t _ _ _ (by decide), D.1.1.1]) (by omega) (by rw [eA36, sa_t _ _ _ (by omega), sW.1.1])) dX6_foretell_46 rfl mlX6_169 mw_X3_init im_X3_init rfl md_X3_init (by omega) rfl rfl (by decide) (by decide) (Nat.le_of_ble_eq_true rfl) (Nat.le_of_ble_eq_true rfl) (Nat.le_of_ble_eq_true rfl) (fun A9 M46 x9 hM46 => ?_)
    obtain ⟨hA, hM46⟩ := hM46
    replace hA := hA.symm
    subst hA
    refine V_new (q := 52) (ci := 0) 151 dX6_foretell_49 rfl ckX6_123 (by (rw [eA36, sa_t _ _ _ (by omega)]) <;> exact (Wo.2.1 151 (by decide) (by decide))) (by decide) (Nat.le_of_ble_eq_true rfl) (Nat.le_of_ble_eq_true rfl) (fun A49 M49 eA49 eM49 => ?_)
    refine V_dup (q := 53) dX6_foretell_52 rfl (show (3 : Nat) ≠ 2 by decide) ?_
    refine V_iload_n (q := 54) dX6_foretell_53 rfl rfl rfl ?_
    refine V_iload_n (q := 55) dX6_foretell_54 rfl rfl rfl ?_
    refine V_iload (q := 57) dX6_foretell_55 rfl rfl ?_
    refine V_iload (q := 59) dX6_foretell_57 rfl rfl ?_
    refine V_chI (q := 62) (As := [(0, k), (0, t), (0, nm), (0, v)]) (tX0_init (a := 151) (by omega) (by rw [eA49, sa_s])) dX6_foretell_59 rfl mlX6_125 mw_X0_init im_X0_init rfl md_X0_init (by omega) rfl rfl (by decide) (by decide) (Nat.le_of_ble_eq_true rfl) (Nat.le_of_ble_eq_true rfl) (Nat.le_of_ble_eq_true rfl) (fun A8 M59 x8 hM59 => ?_)
    obtain ⟨hA, hM59⟩ := hM59
    replace hA := hA.symm
    subst hA
    have G63 : ∀ u i : Int, u ≠ 150 → u ≠ 151 → M59 u i = M33 u i := fun u i a b => by rw [hM59.2 u (by omega), eM49, mn_t _ _ _ (by omega), hM46.2 u i (by omega), eM36, mn_t _ _ _ (by omega)]
    have F63 : ∀ u i : Int, u ≠ 150 → u ≠ 151 → ¬ (u = 320 ∧ (i = 3 ∨ i = 5)) → u ≠ 321 → u ≠ 322 → M59 u i = μ u i := fun u i a b c d e => (G63 u i a b).trans (hM33.2.2.2.2 u i c (by omega) (by omega))
    have hAA : ∀ u : Int, u ≠ 150 → u ≠ 151 → A49 u = α u := fun u a b => by rw [eA49, sa_t _ _ _ b, eA36, sa_t _ _ _ a]
    have D63 : DesR M A49 M59 := DesR_16 w (fun _ _ _ => rfl) (fun u hu => ⟨hAA u (by omega) (by omega), funext fun i => F63 u i (by omega) (by omega) (by omega) (by omega) (by omega)⟩) D
    have s63 : WoS W A49 M59 := WoS_c (fun u a b => ⟨hAA u (by omega) (by omega), funext fun i => F63 u i (by omega) (by omega) (by omega) (by omega) (by omega)⟩) sW
    have r63 : WrT M (vw M x) W M59 := WrT_p (fun u i h => F63 u i (by omega) (by omega) (by omega) (by omega) (by omega)) (WrT_vw.mpr cW)
    have e150 : A49 150 = (4, 0) := by rw [eA49, sa_t _ _ _ (by decide), eA36, sa_s]
    have z150 : ∀ i : Int, M59 150 i = M46 150 i := fun i => by rw [hM59.2 150 (by decide), eM49, mn_t _ _ _ (by decide)]
    have y150 : ∀ i : Int, ¬ (i = 0 ∨ i = 1 ∨ i = 6) → M59 150 i = M36 150 i := fun i h => by rw [z150, hM46.2 150 i (by omega)]
    refine V_chVi (q := 65) (As := [(3, 151)]) (tX3_doTouch w D63 (by omega) s63 r63 ⟨e150, (z150 0).trans hM46.1.1, (z150 1).trans hM46.1.2.1⟩ ⟨(y150 3 (by decide)).trans (by rw [eM36, mn_s] <;> rfl), (y150 4 (by decide)).trans (by rw [eM36, mn_s] <;> rfl), (y150 5 (by decide)).trans (by rw [eM36, mn_s] <;> rfl), (z150 6).trans hM46.1.2.2⟩ (Or.inl rfl) hM59.1 hk ht (fun _ q => hnm q) hPR hslk) dX6_foretell_62 rfl mlX6_172 mw_X3_doTouch im_X3_doTouch sl_X3_doTouch md_X3_doTouch rfl (by decide) (by decide) (congrArg Prod.fst (show _ = (4, 0) by rw [eA49, sa_t _ _ _ (by omega), eA36, sa_s])) rfl rfl (by decide) (by decide) (Nat.le_of_ble_eq_true rfl) (Nat.le_of_ble_eq_true rfl) (Nat.le_of_ble_eq_true rfl) (fun z62 rz62 A62 M62 xM62 hM62 => ?_)
    obtain ⟨hA, hM62⟩ := hM62
    replace hA := hA.symm
    subst hA
    obtain ⟨q, eq0⟩ : ∃ q : Int × Mem, tE M k t nm v (vw M x) = q := ⟨_, rfl⟩
    rw [eq0] at hM62
    obtain ⟨f66, D66, T66, -, zqe⟩ := hM62
    have C66 : TchF W μ M62 := fun u i a b c d e f g => (f66 u i a (by unfold tw; omega)).trans (F63 u i (by omega) (by omega) e f g)
    have G66 : ∀ u i : Int, (320 ≤ u ∧ u ≤ 325) → M62 u i = M33 u i := fun u i h => (f66 u i (by unfold scr; omega) (by unfold tw; omega)).trans (G63 u i (by omega) (by omega))
    have sA66 : WoS 320 A49 M62 := WoS_p (fun u a b => hAA u (by omega) (by omega)) (fun i a b c d => C66 320 i (by unfold scr; omega) (by omega) (by omega) (by omega) (by omega) (by omega) (by omega)) Wo.1
    refine V_istore (q := 67) (lv1 := [(3, 100), (0, x), (0, k), (0, t), (0, nm), (0, v), (0, z6), (3, W), (0, z62)]) dX6_foretell_65 rfl (by decide) rfl rfl ?_
    refine V_aload (q := 69) dX6_foretell_67 rfl rfl ?_
    refine V_aload_n (q := 70) dX6_foretell_69 rfl rfl rfl ?_
    refine V_getA (q := 73) 3 dX6_foretell_70 rfl flX6_27 (by decide) (congrArg Prod.fst (show _ = (7, 0) by rw [eA49, sa_t _ _ _ (by omega), eA36, sa_t _ _ _ (by omega), B.1.1.1])) rfl rfl (fun z70 ez70 rz70 => ?_)
    rw [f66 100 3 (by unfold scr; omega) (by unfold tw; omega), congrFun (hM59.2 100 (by omega)) _, eM49, mn_t _ _ _ (by omega), hM46.2 100 3 (by omega), eM36, mn_t _ _ _ (by omega), hM33.2.2.2.2 100 3 (by omega) (by omega) (by omega), B.1.2.2.2] at ez70
    obtain rfl : z70 = 320 := ez70
    refine V_chV (q := 76) (As := [(3, 320)]) (tX5_takeStateOf (W := W) (U := 320) (by omega) (by omega) (by omega) T66.2.1 sA66) dX6_foretell_73 rfl mlX6_163 mw_X5_takeStateOf im_X5_takeStateOf sl_X5_takeStateOf md_X5_takeStateOf rfl (by decide) (by omega) (congrArg Prod.fst (show _ = (6, 0) by rw [eA49, sa_t _ _ _ (by omega), eA36, sa_t _ _ _ (by omega), sW.1.1])) rfl rfl (by decide) (by decide) (Nat.le_of_ble_eq_true rfl) (Nat.le_of_ble_eq_true rfl) (Nat.le_of_ble_eq_true rfl) (fun A73 M73 xM73 hM73 => ?_)
    obtain ⟨hA, hM73⟩ := hM73
    replace hA := hA.symm
    subst hA
    obtain ⟨b1, b2, b3, b5, bf⟩ := hM73
    have hback : WrT M (vw M x) W M73 := WrT_back w pm (by { rw [eq0]; exact T66.2.2.1 }) (fun u i h => bf u i (by omega) (by omega) (by omega)) (fun i i0 i1 => by { rw [b1 i i0 i1, G66 _ _ (by omega), hM33.1 i i0 i1]; exact cW.1 i i0 i1 }) (fun t n t0 t1 n0 n1 => by { rw [b2 _ (by omega) (by omega), G66 _ _ (by omega), hM33.2.1 _ (by omega) (by omega)]; exact cW.2.1 t n t0 t1 n0 n1 }) (by { rw [b3, G66 _ _ (by omega), hM33.2.2.1]; exact cW.2.2.1.1 }) (by { rw [b5, G66 _ _ (by omega), hM33.2.2.2.1]; exact cW.2.2.2.1 })
    have DM73 : DesR M A49 M73 := DesR_16 w (fun _ _ _ => rfl) (fun u hu => ⟨rfl, funext fun i => bf u i (by omega) (by omega) (by omega)⟩) D66
    have CM73 : TchF W μ M73 := C66.trans (fun u i a b c d e f g => bf u i (by omega) (by omega) (by omega))
    refine V_iload (q := 78) dX6_foretell_76 rfl rfl ?_
    refine V_rdS (q := 81) (As := [(0, z62)]) (tX6_comesTo ) dX6_foretell_78 rfl mlX6_179 mw_X6_comesTo sm_X6_comesTo md_X6_comesTo rfl rfl (by decide) (by decide) (Nat.le_of_ble_eq_true rfl) (Nat.le_of_ble_eq_true rfl) (Nat.le_of_ble_eq_true rfl) (fun z78 rz78 hz78 => ?_)
    have hd0 : ∀ u, (α u).1 ≠ 0 → A49 u = α u := fun u hu => hAA u (fun q => hu (by rw [q]; exact Wo.2.1 150 (by decide) (by decide))) (fun q => hu (by rw [q]; exact Wo.2.1 151 (by decide) (by decide)))
    have DD : DesR M α M73 := by { obtain ⟨x1, x2, x3, x4, x5, x6⟩ := D; exact DesR_16 w (fun _ _ _ => rfl) (fun u hu => ⟨(hAA u (by omega) (by omega)).symm, rfl⟩) DM73 }
    exact V_iretW α dX6_foretell_81 (Nat.le_of_ble_eq_true rfl) (Nat.le_of_ble_eq_true rfl) hd0 (fun _ _ => rfl) (fun h => WFm_touch D sW Wo.1 Wo.2.1 hwf h hd0 CM73) (by { rintro v ⟨⟩ h; exact h }) ⟨_, rfl, rfl, Or.inr ⟨hr0, by { rw [eq0, ← zqe]; exact hz78 }, DD, hback, ⟨(bf W 6 (by omega) (by omega) (by omega)).trans ((f66 W 6 (by unfold scr; omega) (by unfold tw; omega)).trans (F63 W 6 (by omega) (by omega) (by omega) (by omega) (by omega))), (bf W 7 (by omega) (by omega) (by omega)).trans ((f66 W 7 (by unfold scr; omega) (by unfold tw; omega)).trans (F63 W 7 (by omega) (by omega) (by omega) (by omega) (by omega))), fun i => (bf (W + 5) i (by omega) (by omega) (by omega)).trans ((f66 (W + 5) i (by unfold scr; omega) (by unfold tw; omega)).trans (F63 (W + 5) i (by omega) (by omega) (by omega) (by omega) (by omega)))⟩, CM73⟩⟩
  · refine V_iload (q := 18) dX6_foretell_16 rfl rfl ?_
    exact V_iret dX6_foretell_18 (Nat.le_of_ble_eq_true rfl) (Nat.le_of_ble_eq_true rfl) ⟨_, rfl, rfl, Or.inl ⟨by omega, hz6, rfl⟩⟩
