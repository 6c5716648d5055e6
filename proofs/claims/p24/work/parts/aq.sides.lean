/-! EVERY CALL: the class and the reference side by side -/
theorem X_cls {Bd : Int} {M : Mem} {α α1 : Sh} {μ μ1 : Mem} {r : Int} {up op : Int} (I : INVL Bd M α μ) (h : r = clsR M up ∧ MF α μ α1 μ1 ∧ DesR (clsM M up op) α1 μ1) : Lo α μ α1 μ1 ∧ ∀ (r' : Int) (M1 : Mem), (M1 = clsM M up op ∧ r' = clsR M up) → NXT Bd M1 α1 μ1 ∧ (r = r') := by
  obtain ⟨h1, f, D⟩ := h
  refine ⟨f.lo, fun r' M1 hm => ?_⟩
  obtain ⟨m1, m2⟩ := hm
  exact ⟨NXT_chg I (CHG_cls I.2.1.1) f D (fun k _ => by rw [m1]), h1.trans m2.symm⟩
theorem X_face {Bd : Int} {M : Mem} {α α1 : Sh} {μ μ1 : Mem} {r : Int} {d : Int} (I : INVL Bd M α μ) (h : r = faceR M ∧ MF α μ α1 μ1 ∧ DesR (faceM M d) α1 μ1) : Lo α μ α1 μ1 ∧ ∀ (r' : Int) (M1 : Mem), (M1 = faceM M d ∧ r' = faceR M) → NXT Bd M1 α1 μ1 ∧ (r = r') := by
  obtain ⟨h1, f, D⟩ := h
  refine ⟨f.lo, fun r' M1 hm => ?_⟩
  obtain ⟨m1, m2⟩ := hm
  exact ⟨NXT_chg I (CHG_face I.2.1.1) f D (fun k _ => by rw [m1]), h1.trans m2.symm⟩
theorem X_under {Bd : Int} {M : Mem} {α α1 : Sh} {μ μ1 : Mem} {r : Int} {t f : Int} (I : INVL Bd M α μ) (h : r = undR M t f ∧ MF α μ α1 μ1 ∧ DesR (undM M t f) α1 μ1) : Lo α μ α1 μ1 ∧ ∀ (r' : Int) (M1 : Mem), ((∀ k : Int, k ≠ 18 → k ≠ 19 → M1 k = undM M t f k) ∧ r' = undR M t f) → NXT Bd M1 α1 μ1 ∧ (r = r') := by
  obtain ⟨h1, f, D⟩ := h
  refine ⟨f.lo, fun r' M1 hm => ?_⟩
  obtain ⟨m1, m2⟩ := hm
  exact ⟨NXT_chg I (CHG_und I.2.1.1) f D (fun k hk => m1 k (by omega) (by omega)), h1.trans m2.symm⟩
theorem X_field {Bd : Int} {M : Mem} {α α1 : Sh} {μ μ1 : Mem} {r : Int} {t nm c v : Int} (I : INVL Bd M α μ) (h : r = fldR M t nm ∧ MF α μ α1 μ1 ∧ DesR (fldM M t nm c v) α1 μ1) : Lo α μ α1 μ1 ∧ ∀ (r' : Int) (M1 : Mem), (M1 = fldM M t nm c v ∧ r' = fldR M t nm) → NXT Bd M1 α1 μ1 ∧ (r = r') := by
  obtain ⟨h1, f, D⟩ := h
  refine ⟨f.lo, fun r' M1 hm => ?_⟩
  obtain ⟨m1, m2⟩ := hm
  exact ⟨NXT_chg I (CHG_fld I.2.1.1) f D (fun k _ => by rw [m1]), h1.trans m2.symm⟩
theorem X_method {Bd : Int} {M : Mem} {α α1 : Sh} {μ μ1 : Mem} {r : Int} {t nm : Int} (I : INVL Bd M α μ) (h : r = mthR M t nm ∧ MF α μ α1 μ1 ∧ DesR (mthM M t nm) α1 μ1) : Lo α μ α1 μ1 ∧ ∀ (r' : Int) (M1 : Mem), (M1 = mthM M t nm ∧ r' = mthR M t nm) → NXT Bd M1 α1 μ1 ∧ (r = r') := by
  obtain ⟨h1, f, D⟩ := h
  refine ⟨f.lo, fun r' M1 hm => ?_⟩
  obtain ⟨m1, m2⟩ := hm
  exact ⟨NXT_chg I (CHG_mth I.2.1.1) f D (fun k _ => by rw [m1]), h1.trans m2.symm⟩
theorem X_act {Bd : Int} {M : Mem} {α α1 : Sh} {μ μ1 : Mem} {r : Int} {t nm k u n v : Int} (I : INVL Bd M α μ) (h : r = actR M t nm k u n v ∧ MF α μ α1 μ1 ∧ DesR (actM M t nm k u n v) α1 μ1) : Lo α μ α1 μ1 ∧ ∀ (r' : Int) (M1 : Mem), (M1 = actM M t nm k u n v ∧ r' = actR M t nm k u n v) → NXT Bd M1 α1 μ1 ∧ (r = r') := by
  obtain ⟨h1, f, D⟩ := h
  refine ⟨f.lo, fun r' M1 hm => ?_⟩
  obtain ⟨m1, m2⟩ := hm
  exact ⟨NXT_chg I (CHG_act I.2.1.1) f D (fun k _ => by rw [m1]), h1.trans m2.symm⟩
theorem X_told {Bd : Int} {M : Mem} {α α1 : Sh} {μ μ1 : Mem} {r : Int} {t x : Int} (I : INVL Bd M α μ) (h : α1 = α ∧ SF μ μ1 ∧ DesR M α μ1 ∧ r = toldR M t x) : Lo α μ α1 μ1 ∧ ∀ (r' : Int) (M1 : Mem), ((∀ k : Int, k ≠ 18 → k ≠ 19 → M1 k = M k) ∧ r' = toldR M t x) → NXT Bd M1 α1 μ1 ∧ (r = r') := by
  obtain ⟨rfl, f, D, h1⟩ := h
  obtain ⟨a, b⟩ := NXT_sf I f D
  refine ⟨a, fun r' M1 hm => ?_⟩
  obtain ⟨m1, m2⟩ := hm
  exact ⟨b M1 (fun k hk => m1 k (by omega) (by omega)), h1.trans m2.symm⟩
theorem X_below {Bd : Int} {M : Mem} {α α1 : Sh} {μ μ1 : Mem} {r : Int} {t u : Int} (I : INVL Bd M α μ) (h : α1 = α ∧ SF μ μ1 ∧ DesR M α μ1 ∧ r = belowR M t u) : Lo α μ α1 μ1 ∧ ∀ (r' : Int) (M1 : Mem), ((∀ k : Int, k ≠ 18 → k ≠ 19 → M1 k = M k) ∧ r' = belowR M t u) → NXT Bd M1 α1 μ1 ∧ (r = r') := by
  obtain ⟨rfl, f, D, h1⟩ := h
  obtain ⟨a, b⟩ := NXT_sf I f D
  refine ⟨a, fun r' M1 hm => ?_⟩
  obtain ⟨m1, m2⟩ := hm
  exact ⟨b M1 (fun k hk => m1 k (by omega) (by omega)), h1.trans m2.symm⟩
theorem X_found {Bd : Int} {M : Mem} {α α1 : Sh} {μ μ1 : Mem} {r : Int} {t nm me : Int} (I : INVL Bd M α μ) (h : α1 = α ∧ SF μ μ1 ∧ DesR M α μ1 ∧ r = foundR M t nm me) : Lo α μ α1 μ1 ∧ ∀ (r' : Int) (M1 : Mem), ((∀ k : Int, k ≠ 18 → k ≠ 19 → M1 k = M k) ∧ r' = foundR M t nm me) → NXT Bd M1 α1 μ1 ∧ (r = r') := by
  obtain ⟨rfl, f, D, h1⟩ := h
  obtain ⟨a, b⟩ := NXT_sf I f D
  refine ⟨a, fun r' M1 hm => ?_⟩
  obtain ⟨m1, m2⟩ := hm
  exact ⟨b M1 (fun k hk => m1 k (by omega) (by omega)), h1.trans m2.symm⟩
theorem X_asks {Bd : Int} {M : Mem} {α α1 : Sh} {μ μ1 : Mem} {r : Int} {t i : Int} (I : INVL Bd M α μ) (h : α1 = α ∧ SF μ μ1 ∧ DesR M α μ1 ∧ r = asksS M t i) : Lo α μ α1 μ1 ∧ ∀ (r' : Int) (M1 : Mem), ((∀ k : Int, k < 18 ∨ 25 < k → M1 k = M k) ∧ r' = asksS M t i) → NXT Bd M1 α1 μ1 ∧ (r = r') := by
  obtain ⟨rfl, f, D, h1⟩ := h
  obtain ⟨a, b⟩ := NXT_sf I f D
  refine ⟨a, fun r' M1 hm => ?_⟩
  obtain ⟨m1, m2⟩ := hm
  exact ⟨b M1 (fun k hk => m1 k (by omega)), h1.trans m2.symm⟩
theorem X_round {Bd : Int} {M : Mem} {α α1 : Sh} {μ μ1 : Mem} {r : Int} {i : Int} (I : INVL Bd M α μ) (h : α1 = α ∧ SF μ μ1 ∧ DesR M α μ1 ∧ r = roundS M i) : Lo α μ α1 μ1 ∧ ∀ (r' : Int) (M1 : Mem), ((∀ k : Int, k < 18 ∨ 27 < k → M1 k = M k) ∧ r' = roundS M i) → NXT Bd M1 α1 μ1 ∧ (r = r') := by
  obtain ⟨rfl, f, D, h1⟩ := h
  obtain ⟨a, b⟩ := NXT_sf I f D
  refine ⟨a, fun r' M1 hm => ?_⟩
  obtain ⟨m1, m2⟩ := hm
  exact ⟨b M1 (fun k hk => m1 k (by omega)), h1.trans m2.symm⟩
theorem X_value {Bd : Int} {M : Mem} {α α1 : Sh} {μ μ1 : Mem} {r : Int} {x t nm : Int} (I : INVL Bd M α μ) (h : α1 = α ∧ SFm μ μ1 ∧ DesR M α μ1 ∧ r = valueR M x t nm) : Lo α μ α1 μ1 ∧ ∀ (r' : Int) (M1 : Mem), ((∀ k : Int, k ≠ 18 → k ≠ 19 → M1 k = M k) ∧ r' = valueR M x t nm) → NXT Bd M1 α1 μ1 ∧ (r = r') := by
  obtain ⟨rfl, f, D, h1⟩ := h
  obtain ⟨a, b⟩ := NXT_sf I (SFm.sf f) D
  refine ⟨a, fun r' M1 hm => ?_⟩
  obtain ⟨m1, m2⟩ := hm
  exact ⟨b M1 (fun k hk => m1 k (by omega) (by omega)), h1.trans m2.symm⟩
theorem X_state {Bd : Int} {M : Mem} {α α1 : Sh} {μ μ1 : Mem} {r : Int} {x t : Int} (I : INVL Bd M α μ) (h : α1 = α ∧ μ1 = μ ∧ r = stateR M x t) : Lo α μ α1 μ1 ∧ ∀ (r' : Int) (M1 : Mem), (M1 = M ∧ r' = stateR M x t) → NXT Bd M1 α1 μ1 ∧ (r = r') := by
  obtain ⟨rfl, rfl, h1⟩ := h
  obtain ⟨a, b⟩ := NXT_sf I SF.rf I.1.1
  refine ⟨a, fun r' M1 hm => ?_⟩
  obtain ⟨m1, m2⟩ := hm
  exact ⟨b M1 (fun k _ => by rw [m1]), h1.trans m2.symm⟩
theorem X_began {Bd : Int} {M : Mem} {α α1 : Sh} {μ μ1 : Mem} {r : Int} {x i : Int} (I : INVL Bd M α μ) (h : α1 = α ∧ μ1 = μ ∧ r = beganR M x i) : Lo α μ α1 μ1 ∧ ∀ (r' : Int) (M1 : Mem), (M1 = M ∧ r' = beganR M x i) → NXT Bd M1 α1 μ1 ∧ (r = r') := by
  obtain ⟨rfl, rfl, h1⟩ := h
  obtain ⟨a, b⟩ := NXT_sf I SF.rf I.1.1
  refine ⟨a, fun r' M1 hm => ?_⟩
  obtain ⟨m1, m2⟩ := hm
  exact ⟨b M1 (fun k _ => by rw [m1]), h1.trans m2.symm⟩
theorem X_tape {Bd : Int} {M : Mem} {α α1 : Sh} {μ μ1 : Mem} {r : Int} {x i : Int} (I : INVL Bd M α μ) (h : α1 = α ∧ μ1 = μ ∧ r = tapeR M x i) : Lo α μ α1 μ1 ∧ ∀ (r' : Int) (M1 : Mem), (M1 = M ∧ r' = tapeR M x i) → NXT Bd M1 α1 μ1 ∧ (r = r') := by
  obtain ⟨rfl, rfl, h1⟩ := h
  obtain ⟨a, b⟩ := NXT_sf I SF.rf I.1.1
  refine ⟨a, fun r' M1 hm => ?_⟩
  obtain ⟨m1, m2⟩ := hm
  exact ⟨b M1 (fun k _ => by rw [m1]), h1.trans m2.symm⟩
theorem X_failed {Bd : Int} {M : Mem} {α α1 : Sh} {μ μ1 : Mem} {r : Int} {x i : Int} (I : INVL Bd M α μ) (h : α1 = α ∧ μ1 = μ ∧ r = failedR M x i) : Lo α μ α1 μ1 ∧ ∀ (r' : Int) (M1 : Mem), (M1 = M ∧ r' = failedR M x i) → NXT Bd M1 α1 μ1 ∧ (r = r') := by
  obtain ⟨rfl, rfl, h1⟩ := h
  obtain ⟨a, b⟩ := NXT_sf I SF.rf I.1.1
  refine ⟨a, fun r' M1 hm => ?_⟩
  obtain ⟨m1, m2⟩ := hm
  exact ⟨b M1 (fun k _ => by rw [m1]), h1.trans m2.symm⟩
theorem X_many {Bd : Int} {M : Mem} {α α1 : Sh} {μ μ1 : Mem} {r : Int} {x s : Int} (I : INVL Bd M α μ) (h : α1 = α ∧ μ1 = μ ∧ r = manyR M x s) : Lo α μ α1 μ1 ∧ ∀ (r' : Int) (M1 : Mem), (M1 = M ∧ r' = manyR M x s) → NXT Bd M1 α1 μ1 ∧ (r = r') := by
  obtain ⟨rfl, rfl, h1⟩ := h
  obtain ⟨a, b⟩ := NXT_sf I SF.rf I.1.1
  refine ⟨a, fun r' M1 hm => ?_⟩
  obtain ⟨m1, m2⟩ := hm
  exact ⟨b M1 (fun k _ => by rw [m1]), h1.trans m2.symm⟩
theorem X_spent {Bd : Int} {M : Mem} {α α1 : Sh} {μ μ1 : Mem} {r : Int} {x i : Int} (I : INVL Bd M α μ) (h : α1 = α ∧ μ1 = μ ∧ (i ≠ 2 → r = spentR M x i)) : Lo α μ α1 μ1 ∧ ∀ (r' : Int) (M1 : Mem), (M1 = M ∧ r' = spentR M x i) → NXT Bd M1 α1 μ1 ∧ (i ≠ 2 → r = r') := by
  obtain ⟨rfl, rfl, h1⟩ := h
  obtain ⟨a, b⟩ := NXT_sf I SF.rf I.1.1
  refine ⟨a, fun r' M1 hm => ?_⟩
  obtain ⟨m1, m2⟩ := hm
  exact ⟨b M1 (fun k _ => by rw [m1]), fun q => (h1 q).trans m2.symm⟩
theorem X_differs {Bd : Int} {M : Mem} {α α1 : Sh} {μ μ1 : Mem} {r : Int} {x u : Int} (I : INVL Bd M α μ) (h : α1 = α ∧ μ1 = μ ∧ ((¬ (isW M x ∧ isW M u) ∧ r = -1) ∨ ((isW M x ∧ isW M u) ∧ isFirst (difT M x u) (M 0 0) r))) : Lo α μ α1 μ1 ∧ ∀ (r' : Int) (M1 : Mem), (M1 = M ∧ ((¬ (isW M x ∧ isW M u) ∧ r' = -1) ∨ ((isW M x ∧ isW M u) ∧ isFirst (difT M x u) (M 0 0) r'))) → NXT Bd M1 α1 μ1 ∧ (r = r') := by
  obtain ⟨rfl, rfl, h1⟩ := h
  obtain ⟨a, b⟩ := NXT_sf I SF.rf I.1.1
  refine ⟨a, fun r' M1 hm => ?_⟩
  obtain ⟨m1, m2⟩ := hm
  refine ⟨b M1 (fun k _ => by rw [m1]), ?_⟩
  rcases h1 with ⟨q, h1⟩ | ⟨q, h1⟩
  · rcases m2 with ⟨q2, h2⟩ | ⟨q2, h2⟩
    · exact h1.trans h2.symm
    · exact absurd q2 q
  · rcases m2 with ⟨q2, h2⟩ | ⟨q2, h2⟩
    · exact absurd q q2
    · exact isFirst_one h1 h2
theorem X_world {Bd : Int} {M : Mem} {α α1 : Sh} {μ μ1 : Mem} {r : Int} (I : INVL Bd M α μ) (h : r = worldR M ∧ BenR (worldM M) α1 μ1 ∧ WosR (worldM M) α1 μ1 ∧ ∀ t, t < 100 ∨ (109 < t ∧ t < 115) ∨ 1000 ≤ t → α1 t = α t ∧ μ1 t = μ t) : Lo α μ α1 μ1 ∧ ∀ (r' : Int) (M1 : Mem), (M1 = worldM M ∧ r' = worldR M) → NXT Bd M1 α1 μ1 ∧ (r = r') := by
  obtain ⟨h1, B, Wo, f⟩ := h
  refine ⟨fun t ht => f t (Or.inl ht), fun r' M1 hm => ?_⟩
  obtain ⟨rfl, m2⟩ := hm
  obtain ⟨⟨D, -, -⟩, ⟨w, ww, wt, hb⟩, h0, -⟩ := I
  have hn := w.n
  have hw := w.w
  have s16 : S16 M (worldM M) := fun k a b => by
    unfold worldM
    split
    · exact nw_k b
    · rfl
  refine ⟨⟨⟨DesR_16 w s16 (fun t ht => f t (by omega)) D, B, Wo⟩, ?_⟩, h1.trans m2.symm⟩
  by_cases hr : 0 ≤ worldR M
  · have e : worldM M = newW M (M 17 0) := if_pos hr
    have h12 : M 17 0 < 12 := by
      unfold worldR at hr
      by_cases c : M 17 0 = 12
      · rw [if_pos c] at hr; exact absurd hr (by decide)
      · omega
    rw [e] at s16 ⊢
    have e0 := congrFun (s16 0 (by decide) (by decide)) 0
    have hun : ∀ y : Int, y ≠ M 17 0 → Un (newW M (M 17 0)) (vw (newW M (M 17 0)) y) = Un M (vw M y) := fun y hy => by
      unfold Un
      rw [e0]
      congr 1
      refine cntz_congr _ (fun i a b => ?_)
      show newW M (M 17 0) 28 (40 * y + i) = M 28 (40 * y + i)
      rw [nw_28, if_neg (by omega)]
    refine ⟨S16_WFD s16 (by rw [nw_17]; omega) w, fun y y0 y1 => ?_, fun y y0 y1 => ?_, fun y y0 y1 => ?_⟩
    · rw [nw_30, nw_32]
      have := ww y y0 y1
      split <;> omega
    · rw [nw_17] at y1
      rw [e0]
      by_cases hy : y = M 17 0
      · have hu : Un (newW M (M 17 0)) (vw (newW M (M 17 0)) y) ≤ 40 := by
          have h9 := cntz_le (vw (newW M (M 17 0)) y 28) (newW M (M 17 0) 0 0).toNat
          unfold Un
          rw [e0] at h9 ⊢
          omega
        rw [nw_32, if_pos hy, nw_30, if_pos hy]
        refine ⟨fun t t0 t1 => ?_, by omega, by decide⟩
        rw [nw_28, if_pos (by omega)]; decide
      · rw [hun y hy, nw_32, if_neg hy, nw_30, if_neg hy]
        have h9 := wt y y0 (by omega)
        refine ⟨fun t t0 t1 => ?_, h9.2⟩
        rw [nw_28, if_neg (by omega)]; exact h9.1 t t0 t1
    · rw [nw_17] at y1
      rw [nw_30]
      split
      · omega
      · have := hb y y0 (by omega); omega
  · have e : worldM M = M := if_neg hr
    rw [e]
    exact LVL_mono (by omega) ⟨w, ww, wt, hb⟩
theorem X_gone {Bd : Int} {M : Mem} {α α1 : Sh} {μ μ1 : Mem} {r : Int} (I : INVL Bd M α μ) (h : α1 = α ∧ μ1 = mu μ 100 2 0 ∧ r = M 17 0) : Lo α μ α1 μ1 ∧ ∀ (r' : Int) (M1 : Mem), (M1 = mu M 17 0 0 ∧ r' = M 17 0) → NXT Bd M1 α1 μ1 ∧ (r = r') := by
  obtain ⟨rfl, rfl, h1⟩ := h
  refine ⟨fun t ht => ⟨rfl, mu_f _ _ _ _ (by omega)⟩, fun r' M1 hm => ?_⟩
  obtain ⟨rfl, m2⟩ := hm
  obtain ⟨⟨D, B, Wo⟩, ⟨w, ww, wt, hb⟩, h0, -⟩ := I
  have hw := w.w
  have s16 : S16 M (mu M 17 0 0) := fun k a b => mu_f _ _ _ _ (by omega)
  have o : ∀ t : Int, t ≠ 100 → mu μ 100 2 0 t = μ t := fun t h => mu_f _ _ _ _ h
  refine ⟨⟨⟨DesR_16 w s16 (fun t ht => ⟨rfl, o t (by omega)⟩) D, ⟨⟨B.1.1, ?_⟩, by rw [mu_s, mu_s]⟩, ?_⟩, ⟨S16_WFD s16 (by rw [mu_s]; decide) w, ?_, fun y y0 y1 => ?_, fun y y0 y1 => ?_⟩⟩, h1.trans m2.symm⟩
  · rw [mu_ne (by omega), mu_ne (by omega), mu_ne (by omega)]; exact B.1.2
  · obtain ⟨a1, a2, hh, a3, a4, a5, a6, a7⟩ := Wo
    refine ⟨WoS_c (fun t _ _ => ⟨rfl, o t (by omega)⟩) a1, a2, hh, by rw [mu_s]; omega, a4, fun y y0 y1 => ?_, fun y y0 y1 => ?_, fun y y0 y1 => by rw [mu_s] at y1; omega⟩
    · rw [o 101 (by decide)]; exact ⟨(a5 y y0 y1).1, WoS_c (fun t _ _ => ⟨rfl, o t (by omega)⟩) (a5 y y0 y1).2⟩
    · rw [o 101 (by decide)]; exact a6 y y0 y1
  · unfold WFW; rw [mu_f _ _ _ _ (by decide), mu_f _ _ _ _ (by decide)]; exact ww
  · rw [mu_s] at y1; omega
  · rw [mu_s] at y1; omega
theorem X_touch {Bd : Int} {M : Mem} {α α1 : Sh} {μ μ1 : Mem} {r : Int} {x k t nm v : Int} (I : INVL Bd M α μ) (h : α1 = α ∧ ((refR M x k t nm ≠ 0 ∧ r = refR M x k t nm ∧ μ1 = μ) ∨ (refR M x k t nm = 0 ∧ r = cmR (tE M k t nm v (vw M x)).1 ∧ DesR M α μ1 ∧ WrT M (if (tE M k t nm v (vw M x)).1 = 23 then vw M x else (tE M k t nm v (vw M x)).2) (200 + 10 * x) μ1 ∧ accR (tE M k t nm v (vw M x)) (200 + 10 * x) μ1 ∧ TchF (200 + 10 * x) μ μ1))) : Lo α μ α1 μ1 ∧ ∀ (r' : Int) (M1 : Mem), ((refR M x k t nm ≠ 0 ∧ r' = refR M x k t nm ∧ M1 = M) ∨ (refR M x k t nm = 0 ∧ ∃ Mg, TND (goM (copyM M x 12) x k t nm v) x (tE M k t nm v (vw M x)) Mg ∧ r' = cmM Mg ∧ M1 = tchM x Mg)) → NXT Bd M1 α1 μ1 ∧ (r = r') := by
  obtain ⟨rfl, h⟩ := h
  rcases h with ⟨hr, h1, rfl⟩ | ⟨hr, h1, D, hT, hA, f⟩
  · obtain ⟨a, b⟩ := NXT_sf I SF.rf I.1.1
    refine ⟨a, fun r' M1 hm => ?_⟩
    rcases hm with ⟨-, m1, rfl⟩ | ⟨q, -⟩
    · exact ⟨b _ SCR.rf, h1.trans m1.symm⟩
    · exact absurd q hr
  · obtain ⟨hx, ht, hk, hn⟩ := refR_0 hr
    obtain ⟨⟨-, B, Wo⟩, L, h0, h2⟩ := I
    obtain ⟨w, ww, wt, hb⟩ := id L
    have hw := w.w
    refine ⟨fun u hu => ⟨rfl, funext fun i => f.at (by omega) (by omega) (by omega)⟩, fun r' M1 hm => ?_⟩
    rcases hm with ⟨q, -⟩ | ⟨-, Mg, hg, m1, rfl⟩
    · exact absurd hr q
    obtain ⟨hgd, -⟩ := tE_num (nm := nm) (v := v) w wt hx (by have := hb x hx.1 hx.2; omega) hk ht
    have h32 := wt x hx.1 hx.2
    have hu := Un_0 M (vw M x)
    have hc := cmM_ok hg
    have q23 : (tE M k t nm v (vw M x)).1 ≤ 23 := by have := hgd.2.2.2.1; omega
    obtain ⟨T, ha⟩ := tch_ok ⟨hx.1, by omega⟩ (by omega) tE_52 q23 hg
    have hi := hgd.1
    obtain ⟨τ, hτ⟩ : ∃ τ : Mem, (if (tE M k t nm v (vw M x)).1 = 23 then vw M x else (tE M k t nm v (vw M x)).2) = τ := ⟨_, rfl⟩
    rw [hτ] at T hT
    have key : (∀ t : Int, 0 ≤ t → t < M 0 0 → 0 ≤ τ 28 t ∧ τ 28 t ≤ 3) ∧ (0 ≤ τ 32 0 ∧ τ 32 0 + Un M τ ≤ 40) ∧ (0 ≤ τ 30 0 ∧ τ 30 0 ≤ M 30 x + 1041) := by
      by_cases c : (tE M k t nm v (vw M x)).1 = 23
      · rw [← hτ, if_pos c]
        exact ⟨h32.1, h32.2.1, h32.2.2, by show M 30 x ≤ M 30 x + 1041; omega⟩
      · rw [← hτ, if_neg c]
        obtain ⟨i1, i2, i3, i4, i5, i6, i7, i8⟩ := hi
        exact ⟨i1, i2, i7, by omega⟩
    have hu2 := Un_0 M τ
    have hA2 := WrA_acc ha hA
    refine ⟨⟨⟨DesR_SD w T.1 D, BenR_touch B T.1 (by omega) f, WosR_touch w wt Wo hx T (by omega) hT hA2 f⟩, LVL_touch L hx T key.1 key.2.1 key.2.2⟩, ?_⟩
    rw [h1, m1, hc]
theorem X_foretell {Bd : Int} {M : Mem} {α α1 : Sh} {μ μ1 : Mem} {r : Int} {x k t nm v : Int} (I : INVL Bd M α μ) (h : α1 = α ∧ ((refR M x k t nm ≠ 0 ∧ r = refR M x k t nm ∧ μ1 = μ) ∨ (refR M x k t nm = 0 ∧ r = cmR (tE M k t nm v (vw M x)).1 ∧ DesR M α μ1 ∧ WrT M (vw M x) (200 + 10 * x) μ1 ∧ kepR (200 + 10 * x) μ μ1 ∧ TchF (200 + 10 * x) μ μ1))) : Lo α μ α1 μ1 ∧ ∀ (r' : Int) (M1 : Mem), ((refR M x k t nm ≠ 0 ∧ r' = refR M x k t nm ∧ M1 = M) ∨ (refR M x k t nm = 0 ∧ ∃ Mg, TND (goM (copyM M x 12) x k t nm v) x (tE M k t nm v (vw M x)) Mg ∧ r' = cmM Mg ∧ M1 = copyM Mg 12 x)) → NXT Bd M1 α1 μ1 ∧ (r = r') := by
  obtain ⟨rfl, h⟩ := h
  rcases h with ⟨hr, h1, rfl⟩ | ⟨hr, h1, D, hT, hA, f⟩
  · obtain ⟨a, b⟩ := NXT_sf I SF.rf I.1.1
    refine ⟨a, fun r' M1 hm => ?_⟩
    rcases hm with ⟨-, m1, rfl⟩ | ⟨q, -⟩
    · exact ⟨b _ SCR.rf, h1.trans m1.symm⟩
    · exact absurd q hr
  · obtain ⟨hx, ht, hk, hn⟩ := refR_0 hr
    obtain ⟨⟨-, B, Wo⟩, L, h0, h2⟩ := I
    obtain ⟨w, ww, wt, hb⟩ := id L
    have hw := w.w
    refine ⟨fun u hu => ⟨rfl, funext fun i => f.at (by omega) (by omega) (by omega)⟩, fun r' M1 hm => ?_⟩
    rcases hm with ⟨q, -⟩ | ⟨-, Mg, hg, m1, rfl⟩
    · exact absurd hr q
    obtain ⟨hgd, -⟩ := tE_num (nm := nm) (v := v) w wt hx (by have := hb x hx.1 hx.2; omega) hk ht
    have h32 := wt x hx.1 hx.2
    have hu := Un_0 M (vw M x)
    have hc := cmM_ok hg
    obtain ⟨T, ha⟩ : TOK M x (vw M x) (copyM Mg 12 x) ∧ kepM M (copyM Mg 12 x) x := by
      refine back_ok (k := k) (t := t) (n := nm) (v := v) ⟨hx.1, by omega⟩ (by omega) ?_
      rcases hg with g | g
      · exact g.2.2.1.1
      · exact g.2.2.1
    have key : (∀ t : Int, 0 ≤ t → t < M 0 0 → 0 ≤ vw M x 28 t ∧ vw M x 28 t ≤ 3) ∧ (0 ≤ vw M x 32 0 ∧ vw M x 32 0 + Un M (vw M x) ≤ 40) ∧ (0 ≤ vw M x 30 0 ∧ vw M x 30 0 ≤ M 30 x + 1041) := ⟨h32.1, h32.2.1, h32.2.2, by show M 30 x ≤ M 30 x + 1041; omega⟩
    have hu2 := hu
    have hA2 := WrA_kep ha hA (Wo.at hx.1 hx.2).2.2.2
    refine ⟨⟨⟨DesR_SD w T.1 D, BenR_touch B T.1 (by omega) f, WosR_touch w wt Wo hx T (by omega) hT hA2 f⟩, LVL_touch L hx T key.1 key.2.1 key.2.2⟩, ?_⟩
    rw [h1, m1, hc]
theorem rX7_touch {Γ : GC} {αC : Sh} {C M : Mem} {Bd x k t nm v : Int} {α : Sh} {μ : Mem} (I : INVL Bd M α μ) : MM Γ yX7_touch cX7_touch 8 (some .int) 6 [(0, x), (0, k), (0, t), (0, nm), (0, v)] αC C M (mI fun r M1 => (refR M x k t nm ≠ 0 ∧ r = refR M x k t nm ∧ M1 = M) ∨ (refR M x k t nm = 0 ∧ ∃ Mg, TND (goM (copyM M x 12) x k t nm v) x (tE M k t nm v (vw M x)) Mg ∧ r = cmM Mg ∧ M1 = tchM x Mg)) := by
  have hw := I.2.1.1.w
  refine tX7_touch (Q := TND (goM (copyM M x 12) x k t nm v) x (tE M k t nm v (vw M x))) I.2.1.1 (fun q => ?_) (fun q G hM => ?_)
  · have := (refR_0 q).1; omega
  · have h8 := (refR_0 q).1
    have h9 := I.2.1.2.2.2 _ h8.1 h8.2
    have := I.2.2.2
    exact go_TND I.2.1.1 I.2.1.2.2.1 (by omega) q G hM
theorem rX7_foretell {Γ : GC} {αC : Sh} {C M : Mem} {Bd x k t nm v : Int} {α : Sh} {μ : Mem} (I : INVL Bd M α μ) : MM Γ yX7_foretell cX7_foretell 7 (some .int) 6 [(0, x), (0, k), (0, t), (0, nm), (0, v)] αC C M (mI fun r M1 => (refR M x k t nm ≠ 0 ∧ r = refR M x k t nm ∧ M1 = M) ∨ (refR M x k t nm = 0 ∧ ∃ Mg, TND (goM (copyM M x 12) x k t nm v) x (tE M k t nm v (vw M x)) Mg ∧ r = cmM Mg ∧ M1 = copyM Mg 12 x)) := by
  have hw := I.2.1.1.w
  refine tX7_foretell (Q := TND (goM (copyM M x 12) x k t nm v) x (tE M k t nm v (vw M x))) I.2.1.1 (fun q => ?_) (fun q G hM => ?_)
  · have := (refR_0 q).1; omega
  · have h8 := (refR_0 q).1
    have h9 := I.2.1.2.2.2 _ h8.1 h8.2
    have := I.2.2.2
    exact go_TND I.2.1.1 I.2.1.2.2.1 (by omega) q G hM
