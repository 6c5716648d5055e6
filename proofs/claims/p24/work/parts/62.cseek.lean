/-! THE CLASS: which type has the field that is found (a memo) -/
theorem MeR_put {M : Mem} {μ : Mem} {t nm p : Int} (w : WFD M) (h : MeR M μ) (hp : p = t * 10 + nm) (t0 : 0 ≤ t) (t1 : t < M 0 0) (n0 : 0 ≤ nm) (n1 : nm ≤ 9) : MeR M (mu μ 112 p (FO M t nm)) := by
  intro u k u0 u1 k0 k1
  by_cases hh : 10 * u + k = p
  · have hu : u = t := by omega
    have hk : k = nm := by omega
    subst hu
    subst hk
    rw [← hh, mu_s]
    exact Or.inr ⟨t1, rfl⟩
  · rw [mu_i _ _ _ _ hh]
    exact h u k u0 u1 k0 k1
theorem SF_put {μ : Mem} {t i x : Int} (h : scr t i) : SF μ (mu μ t i x) := fun u k hs => by
  by_cases hu : u = t
  · subst hu
    by_cases hk : k = i
    · subst hk; exact absurd h hs
    · exact mu_i _ _ _ _ hk
  · exact mu_t _ _ _ _ hu
def SKI (M : Mem) (t nm i o : Int) : Prop := (o = -6 ∧ ¬ 0 ≤ oF M t nm ∧ FF M nm t = FC (FF M nm) M t (M 4 t - i).toNat) ∨ (0 ≤ o ∧ o = FO M t nm)
theorem pF_oF {M : Mem} {t nm : Int} (t0 : 0 ≤ t) : (0 ≤ pF M t nm ↔ 0 ≤ oF M t nm) ∧ (0 ≤ oF M t nm → pF M t nm = 6 * t + oF M t nm) := by
  unfold pF
  by_cases h : oF M t nm < 0
  · rw [if_pos h]; exact ⟨⟨fun a => by omega, fun a => by omega⟩, fun a => by omega⟩
  · rw [if_neg h]; exact ⟨⟨fun a => by omega, fun a => by omega⟩, fun a => rfl⟩
theorem FO_own {M : Mem} {t nm : Int} (w : WFD M) (t0 : 0 ≤ t) (t1 : t < M 0 0) (h : 0 ≤ oF M t nm) : FO M t nm = t := by
  have hp := pF_oF (M := M) (nm := nm) t0
  have hr := oF_rng M t nm
  have hn := w.n
  have hc := (w.cnt t t0 (by omega)).2.1
  have e := FF_eq w nm t0 t1
  rw [if_pos (hp.1.mpr h), hp.2 h] at e
  unfold FO
  rw [e, if_neg (by omega)]
  omega
theorem FO_rng {M : Mem} {t nm : Int} (w : WFD M) (t0 : 0 ≤ t) (t1 : t < M 0 0) : FO M t nm = -6 ∨ (0 ≤ FO M t nm ∧ FO M t nm < M 0 0 ∧ 0 ≤ oF M (FO M t nm) nm ∧ FF M nm t = 6 * FO M t nm + oF M (FO M t nm) nm) := by
  have hn := w.n
  rcases FF_rng (nm := nm) w t0 t1 with h | ⟨u, u0, u1, u2, u3, u4, u5⟩
  · left; unfold FO; rw [h]; rfl
  · right
    have e : FO M t nm = u := by unfold FO; rw [if_neg (by omega)]; omega
    have hp := pF_oF (M := M) (t := u) (nm := nm) u0
    have ho : 0 ≤ oF M u nm := hp.1.mp (by omega)
    rw [e]
    exact ⟨u0, u1, ho, by rw [u2]; exact hp.2 ho⟩
theorem FO_m6 {M : Mem} {t nm : Int} (w : WFD M) (t0 : 0 ≤ t) (t1 : t < M 0 0) : FO M t nm = -6 ↔ FF M nm t < 0 := by
  unfold FO
  constructor
  · intro h
    rcases (show FF M nm t < 0 ∨ ¬ FF M nm t < 0 by omega) with h1 | h1
    · exact h1
    · rw [if_neg h1] at h; omega
  · intro h; rw [if_pos h]
theorem SKI_0 {M : Mem} {t nm : Int} (w : WFD M) (t0 : 0 ≤ t) (t1 : t < M 0 0) (h : 0 ≤ oF M t nm) : SKI M t nm 0 t := Or.inr ⟨t0, (FO_own w t0 t1 h).symm⟩
theorem SKI_1 {M : Mem} {t nm : Int} (w : WFD M) (t0 : 0 ≤ t) (t1 : t < M 0 0) (h : ¬ 0 ≤ oF M t nm) : SKI M t nm 0 (-6) := by
  refine Or.inl ⟨rfl, h, ?_⟩
  rw [FF_eq w nm t0 t1, if_neg (fun q => h ((pF_oF t0).1.mp q)), show M 4 t - 0 = M 4 t by omega]
theorem SKI_s {M : Mem} {t nm i r : Int} (w : WFD M) (t0 : 0 ≤ t) (t1 : t < M 0 0) (h : SKI M t nm i (-6)) (i0 : 0 ≤ i) (i1 : i < M 4 t) (hr : r = FO M (M 5 (4 * t + i)) nm) : SKI M t nm (i + 1) r := by
  have hf := w.face t i t0 t1 i0 i1
  rcases h with ⟨-, h2, h3⟩ | ⟨h1, -⟩
  · rw [show (M 4 t - i).toNat = (M 4 t - (i + 1)).toNat + 1 by omega] at h3
    unfold FC at h3
    rw [show M 4 t - 1 - (((M 4 t - (i + 1)).toNat : Nat) : Int) = i by omega] at h3
    by_cases hg : 0 ≤ FF M nm (M 5 (4 * t + i))
    · rw [if_pos hg] at h3
      refine Or.inr ⟨?_, ?_⟩
      · rw [hr]; unfold FO; rw [if_neg (by omega)]; omega
      · rw [hr]; unfold FO; rw [h3]
    · rw [if_neg hg] at h3
      exact Or.inl ⟨by rw [hr]; exact (FO_m6 w hf.1 hf.2.1).mpr (by omega), h2, h3⟩
  · omega
theorem SKI_n {M : Mem} {t nm i : Int} (w : WFD M) (t0 : 0 ≤ t) (t1 : t < M 0 0) (h : SKI M t nm i (-6)) (hi : M 4 t ≤ i) (ha : M 3 t < 0) : (-6 : Int) = FO M t nm := by
  rcases h with ⟨-, h2, h3⟩ | ⟨h1, -⟩
  · rw [show (M 4 t - i).toNat = 0 by omega] at h3
    unfold FC at h3
    rw [if_pos ha] at h3
    exact ((FO_m6 w t0 t1).mpr (by omega)).symm
  · omega
theorem SKI_a {M : Mem} {t nm i r : Int} (w : WFD M) (t0 : 0 ≤ t) (t1 : t < M 0 0) (h : SKI M t nm i (-6)) (hi : M 4 t ≤ i) (ha : ¬ M 3 t < 0) (hr : r = FO M (M 3 t) nm) : r = FO M t nm := by
  rcases h with ⟨-, h2, h3⟩ | ⟨h1, -⟩
  · rw [show (M 4 t - i).toNat = 0 by omega] at h3
    unfold FC at h3
    rw [if_neg ha] at h3
    rw [hr]
    unfold FO
    rw [h3]
  · omega
theorem SKI_o {M : Mem} {t nm i o : Int} (h : SKI M t nm i o) (ho : o ≠ -6) : o = FO M t nm := by
  rcases h with ⟨h1, -⟩ | ⟨-, h1⟩
  · exact absurd h1 ho
  · exact h1
theorem tX2_seekField {Γ : GC} {M : Mem} (w : WFD M) {nm : Int} (hm : 0 ≤ nm ∧ nm ≤ 9) : ∀ (n : Nat) {α : Sh} {μ : Mem} (D : DesR M α μ) (t dp : Int), (0 ≤ t ∧ t < M 0 0) → 0 ≤ dp → dp + rk M t < 40 → rk M t = n → MT Γ yX2_seekField cX2_seekField 8 (some .int) n 0 0 [(3, 110), (0, t), (0, nm), (0, dp)] α μ (QI fun r α1 μ1 => α1 = α ∧ SFm μ μ1 ∧ DesR M α μ1 ∧ r = FO M t nm) := by
  intro n
  induction n using Nat.strongRecOn with
  | ind n ihn =>
  intro α μ D t dp ht hd0 hd hrk
  have hn := w.n
  have hc := (w.cnt t ht.1 (by omega)).1
  obtain ⟨T, eT⟩ : ∃ T : Int, T = tk t := ⟨_, rfl⟩
  have hT : T = 1000 * (t + 1) := eT
  have hor := oF_rng M t nm
  have hcf := (w.cnt t ht.1 (by omega)).2.1
  refine MT_of (k := 4) [(3, 110), (0, t), (0, nm), (0, dp), (9, 0), (9, 0), (9, 0), (9, 0)] pn_X2_seekField rfl rfl (fun ad0 => ?_)
  have fin : ∀ (m : Mem) (pl o i : Int), DesR M α m → SFm μ m → pl = t * 10 + nm → o = FO M t nm → V Γ α ad0 (ZM Γ α ad0 (QI fun r α1 μ1 => α1 = α ∧ SFm μ μ1 ∧ DesR M α μ1 ∧ r = FO M t nm) 0 0) (RM n 0 0) RX2 cX2_seekField 8 (some .int) yX2_seekField.name 136 [] [(3, 110), (0, t), (0, nm), (0, dp), (0, pl), (3, T), (0, o), (0, i)] α m 0 0 := by
    intro m pl o i Dm fm hpl ho
    refine V_aload_n (q := 137) dX2_seekField_136 rfl rfl rfl ?_
    refine V_getA (q := 140) 2 dX2_seekField_137 rfl flX2_17 (by decide) (congrArg Prod.fst (show _ = (3, 0) by rw [Dm.1.1.1])) rfl rfl (fun z137 ez137 rz137 => ?_)
    rw [Dm.1.2.2.1] at ez137
    obtain rfl : z137 = 112 := ez137
    refine V_iload (q := 142) dX2_seekField_140 rfl rfl ?_
    refine V_iload (q := 144) dX2_seekField_142 rfl rfl ?_
    refine V_iast (q := 145) (n := 400) dX2_seekField_144 rfl (by decide) (by rw [Dm.1.1.2.2.1]) (by omega) (fun M144 eM144 => ?_)
    refine V_iload (q := 147) dX2_seekField_145 rfl rfl ?_
    subst ho
    exact V_iret dX2_seekField_147 (Nat.le_of_ble_eq_true rfl) (Nat.le_of_ble_eq_true rfl) ⟨_, rfl, rfl, by { rw [eM144]; exact fm.trans SFm_put }, by { rw [eM144]; exact DesR_scr w Dm SFm_put.sf (MeR_put w Dm.2.2.2.2.1 hpl ht.1 ht.2 hm.1 hm.2) }, rfl⟩
  have loop : ∀ pl : Int, pl = t * 10 + nm → ∀ (m : Mem) (o i : Int), (DesR M α m ∧ SFm μ m ∧ 0 ≤ i ∧ i ≤ M 4 t ∧ SKI M t nm i o) → V Γ α ad0 (ZM Γ α ad0 (QI fun r α1 μ1 => α1 = α ∧ SFm μ μ1 ∧ DesR M α μ1 ∧ r = FO M t nm) 0 0) (RM n 0 0) RX2 cX2_seekField 8 (some .int) yX2_seekField.name 65 [] [(3, 110), (0, t), (0, nm), (0, dp), (0, pl), (3, T), (0, o), (0, i)] α m 0 0 := by
    intro pl hpl
    refine loop3 _ (fun _ _ i => (M 4 t - i).toNat) _ ?_
    rintro m o i ⟨Dm, fm, h1, h2, ski⟩ ih
    obtain ⟨kT, yT⟩ := Dm.2.2.1 t ht.1 ht.2
    rw [← eT] at kT
    unfold TypR at yT
    rw [← eT] at yT
    refine V_iload (q := 67) dX2_seekField_65 rfl rfl ?_
    refine V_aload (q := 69) dX2_seekField_67 rfl rfl ?_
    refine V_getI (q := 72) 4 dX2_seekField_69 rfl flX2_52 (by omega) (congrArg Prod.fst (show _ = (5, 0) by rw [yT.1.1.1])) rfl rfl (fun z69 ez69 rz69 => ?_)
    rw [yT.2.1.2.2.2.1] at ez69
    refine V_icmp_ge (q := 75) (tgt := 106) dX2_seekField_72 (by decide) rfl (fun c72 => ?_) (fun c72 => ?_)
    · refine V_iload (q := 108) dX2_seekField_106 rfl rfl ?_
      refine V_bipush (q := 110) dX2_seekField_108 rfl (by decide) ?_
      refine V_icmp_ne (q := 113) (tgt := 136) dX2_seekField_110 (by decide) rfl (fun c110 => ?_) (fun c110 => ?_)
      · exact fin m pl o i Dm fm hpl (SKI_o ski (by omega))
      · refine V_aload (q := 115) dX2_seekField_113 rfl rfl ?_
        refine V_getI (q := 118) 2 dX2_seekField_115 rfl flX2_38 (by omega) (congrArg Prod.fst (show _ = (5, 0) by rw [yT.1.1.1])) rfl rfl (fun z115 ez115 rz115 => ?_)
        rw [yT.2.1.2.2.1] at ez115
        have ea := ez115
        refine V_if_lt (q := 121) (tgt := 136) dX2_seekField_118 (by decide) rfl (fun c118 => ?_) (fun c118 => ?_)
        · exact fin m pl o i Dm fm hpl (by { have q : o = -6 := (by omega); rw [q] at ski ⊢; exact SKI_n w ht.1 ht.2 ski (by omega) (by { rcases (show M 3 t < 0 ∨ ¬ M 3 t < 0 by omega) with q3 | q3; · { exact q3 }; · { exfalso; rw [if_neg q3] at ea; have := (w.above t ht.1 ht.2).1; omega } }) })
        · refine V_aload_n (q := 122) dX2_seekField_121 rfl rfl rfl ?_
          refine V_aload (q := 124) dX2_seekField_122 rfl rfl ?_
          refine V_getI (q := 127) 2 dX2_seekField_124 rfl flX2_38 (by omega) (congrArg Prod.fst (show _ = (5, 0) by rw [yT.1.1.1])) rfl rfl (fun z124 ez124 rz124 => ?_)
          rw [yT.2.1.2.2.1] at ez124
          refine V_iload_n (q := 128) dX2_seekField_127 rfl rfl rfl ?_
          refine V_iload_n (q := 129) dX2_seekField_128 rfl rfl rfl ?_
          refine V_iconst (q := 130) dX2_seekField_129 rfl (by decide) ?_
          refine V_iadd (q := 131) dX2_seekField_130 rfl (by omega) (fun z130 ez130 => ?_)
          have hab := w.above t ht.1 ht.2
          have ha3 : ¬ M 3 t < 0 := by { intro q; rw [if_pos q] at ea; omega }
          rw [if_neg ha3] at ez124 ea
          have hu : 0 ≤ z124 ∧ z124 < M 0 0 := by omega
          have he : edge M t z124 := ⟨ht.1, ht.2, Or.inl ⟨ez124, hu.1⟩⟩
          have hrke := rk_edge w he
          refine V_chVi (q := 134) (As := [(0, z124), (0, nm), (0, z130)]) (ihn (rk M z124) (by have := rk_edge w he; omega) Dm z124 z130 hu (by omega) (by have := rk_edge w he; omega) rfl) dX2_seekField_131 rfl mlX2_58 mw_X2_seekField im_X2_seekField sl_X2_seekField md_X2_seekField rfl (by decide) (by decide) (congrArg Prod.fst (show _ = (3, 0) by rw [Dm.1.1.1])) rfl rfl (show rk M z124 + 1 ≤ n by omega) (show 8 + (8 + 11) + 64 * rk M z124 ≤ 64 * n by omega) (Nat.le_of_ble_eq_true rfl) (Nat.le_of_ble_eq_true rfl) (Nat.le_of_ble_eq_true rfl) (fun z131 rz131 A131 M131 xM131 hM131 => ?_)
          obtain ⟨hA, fM131, DM131, hz131⟩ := hM131
          replace hA := hA.symm
          subst hA
          refine V_istore (q := 136) (lv1 := [(3, 110), (0, t), (0, nm), (0, dp), (0, pl), (3, T), (0, z131), (0, i)]) dX2_seekField_134 rfl (by decide) rfl rfl ?_
          exact fin M131 pl z131 i DM131 (fm.trans fM131) hpl (SKI_a w ht.1 ht.2 (by { have q : o = -6 := (by omega); rw [q] at ski; exact ski }) (by omega) ha3 (by rw [hz131, ez124]))
    · refine V_iload (q := 77) dX2_seekField_75 rfl rfl ?_
      refine V_bipush (q := 79) dX2_seekField_77 rfl (by decide) ?_
      refine V_icmp_ne (q := 82) (tgt := 106) dX2_seekField_79 (by decide) rfl (fun c79 => ?_) (fun c79 => ?_)
      · refine V_iload (q := 108) dX2_seekField_106 rfl rfl ?_
        refine V_bipush (q := 110) dX2_seekField_108 rfl (by decide) ?_
        refine V_icmp_ne (q := 113) (tgt := 136) dX2_seekField_110 (by decide) rfl (fun c110_2 => ?_) (fun c110_2 => ?_)
        · exact fin m pl o i Dm fm hpl (SKI_o ski (by omega))
        · refine V_aload (q := 115) dX2_seekField_113 rfl rfl ?_
          refine V_getI (q := 118) 2 dX2_seekField_115 rfl flX2_38 (by omega) (congrArg Prod.fst (show _ = (5, 0) by rw [yT.1.1.1])) rfl rfl (fun z115_2 ez115_2 rz115_2 => ?_)
          rw [yT.2.1.2.2.1] at ez115_2
          have ea := ez115_2
          refine V_if_lt (q := 121) (tgt := 136) dX2_seekField_118 (by decide) rfl (fun c118_2 => ?_) (fun c118_2 => ?_)
          · exact fin m pl o i Dm fm hpl (by { have q : o = -6 := (by omega); rw [q] at ski ⊢; exact SKI_n w ht.1 ht.2 ski (by omega) (by { rcases (show M 3 t < 0 ∨ ¬ M 3 t < 0 by omega) with q3 | q3; · { exact q3 }; · { exfalso; rw [if_neg q3] at ea; have := (w.above t ht.1 ht.2).1; omega } }) })
          · refine V_aload_n (q := 122) dX2_seekField_121 rfl rfl rfl ?_
            refine V_aload (q := 124) dX2_seekField_122 rfl rfl ?_
            refine V_getI (q := 127) 2 dX2_seekField_124 rfl flX2_38 (by omega) (congrArg Prod.fst (show _ = (5, 0) by rw [yT.1.1.1])) rfl rfl (fun z124_2 ez124_2 rz124_2 => ?_)
            rw [yT.2.1.2.2.1] at ez124_2
            refine V_iload_n (q := 128) dX2_seekField_127 rfl rfl rfl ?_
            refine V_iload_n (q := 129) dX2_seekField_128 rfl rfl rfl ?_
            refine V_iconst (q := 130) dX2_seekField_129 rfl (by decide) ?_
            refine V_iadd (q := 131) dX2_seekField_130 rfl (by omega) (fun z130_2 ez130_2 => ?_)
            have hab := w.above t ht.1 ht.2
            have ha3 : ¬ M 3 t < 0 := by { intro q; rw [if_pos q] at ea; omega }
            rw [if_neg ha3] at ez124_2 ea
            have hu : 0 ≤ z124_2 ∧ z124_2 < M 0 0 := by omega
            have he : edge M t z124_2 := ⟨ht.1, ht.2, Or.inl ⟨ez124_2, hu.1⟩⟩
            have hrke := rk_edge w he
            refine V_chVi (q := 134) (As := [(0, z124_2), (0, nm), (0, z130_2)]) (ihn (rk M z124_2) (by have := rk_edge w he; omega) Dm z124_2 z130_2 hu (by omega) (by have := rk_edge w he; omega) rfl) dX2_seekField_131 rfl mlX2_58 mw_X2_seekField im_X2_seekField sl_X2_seekField md_X2_seekField rfl (by decide) (by decide) (congrArg Prod.fst (show _ = (3, 0) by rw [Dm.1.1.1])) rfl rfl (show rk M z124_2 + 1 ≤ n by omega) (show 8 + (8 + 11) + 64 * rk M z124_2 ≤ 64 * n by omega) (Nat.le_of_ble_eq_true rfl) (Nat.le_of_ble_eq_true rfl) (Nat.le_of_ble_eq_true rfl) (fun z131_2 rz131_2 A131_2 M131_2 xM131_2 hM131_2 => ?_)
            obtain ⟨hA, fM131_2, DM131_2, hz131_2⟩ := hM131_2
            replace hA := hA.symm
            subst hA
            refine V_istore (q := 136) (lv1 := [(3, 110), (0, t), (0, nm), (0, dp), (0, pl), (3, T), (0, z131_2), (0, i)]) dX2_seekField_134 rfl (by decide) rfl rfl ?_
            exact fin M131_2 pl z131_2 i DM131_2 (fm.trans fM131_2) hpl (SKI_a w ht.1 ht.2 (by { have q : o = -6 := (by omega); rw [q] at ski; exact ski }) (by omega) ha3 (by rw [hz131_2, ez124_2]))
      · refine V_aload_n (q := 83) dX2_seekField_82 rfl rfl rfl ?_
        refine V_aload (q := 85) dX2_seekField_83 rfl rfl ?_
        refine V_getA (q := 88) 3 dX2_seekField_85 rfl flX2_49 (by omega) (congrArg Prod.fst (show _ = (5, 0) by rw [yT.1.1.1])) rfl rfl (fun z85 ez85 rz85 => ?_)
        rw [yT.1.2.1] at ez85
        obtain rfl : z85 = (T + 1) := ez85
        refine V_iload (q := 90) dX2_seekField_88 rfl rfl ?_
        refine V_iald (q := 91) (n := 4) dX2_seekField_90 rfl (by omega) (by rw [yT.1.1.2.1]) (by omega) (fun z90 ez90 rz90 => ?_)
        rw [yT.2.2.1 i (by omega) (by omega)] at ez90
        refine V_iload_n (q := 92) dX2_seekField_91 rfl rfl rfl ?_
        refine V_iload_n (q := 93) dX2_seekField_92 rfl rfl rfl ?_
        refine V_iconst (q := 94) dX2_seekField_93 rfl (by decide) ?_
        refine V_iadd (q := 95) dX2_seekField_94 rfl (by omega) (fun z94 ez94 => ?_)
        have hf := w.face t i ht.1 ht.2 h1 (by omega)
        have eu : z90 = M 5 (4 * t + i) := ez90
        have hu : 0 ≤ z90 ∧ z90 < M 0 0 := by rw [eu]; exact ⟨hf.1, hf.2.1⟩
        have he : edge M t z90 := ⟨ht.1, ht.2, Or.inr ⟨i, h1, by omega, eu⟩⟩
        have hrke := rk_edge w he
        refine V_chVi (q := 98) (As := [(0, z90), (0, nm), (0, z94)]) (ihn (rk M z90) (by have := rk_edge w he; omega) Dm z90 z94 hu (by omega) (by have := rk_edge w he; omega) rfl) dX2_seekField_95 rfl mlX2_58 mw_X2_seekField im_X2_seekField sl_X2_seekField md_X2_seekField rfl (by decide) (by decide) (congrArg Prod.fst (show _ = (3, 0) by rw [Dm.1.1.1])) rfl rfl (show rk M z90 + 1 ≤ n by omega) (show 8 + (8 + 11) + 64 * rk M z90 ≤ 64 * n by omega) (Nat.le_of_ble_eq_true rfl) (Nat.le_of_ble_eq_true rfl) (Nat.le_of_ble_eq_true rfl) (fun z95 rz95 A95 M95 xM95 hM95 => ?_)
        obtain ⟨hA, fM95, DM95, hz95⟩ := hM95
        replace hA := hA.symm
        subst hA
        refine V_istore (q := 100) (lv1 := [(3, 110), (0, t), (0, nm), (0, dp), (0, pl), (3, T), (0, z95), (0, i)]) dX2_seekField_98 rfl (by decide) rfl rfl ?_
        refine V_iinc (q := 103) dX2_seekField_100 rfl rfl (by decide) rfl (by omega) (fun z100 lz100 ez100 hlz100 => ?_)
        obtain rfl : lz100 = [(3, 110), (0, t), (0, nm), (0, dp), (0, pl), (3, T), (0, z95), (0, z100)] := hlz100
        refine V_goto (tgt := 65) dX2_seekField_103 (by decide) ?_
        exact ih M95 z95 z100 ⟨DM95, fm.trans fM95, by omega, by omega, by { rw [ez100]; refine SKI_s w ht.1 ht.2 (by { have q : o = -6 := (by omega); rw [q] at ski; exact ski }) h1 (by omega) ?_; rw [hz95, eu] }⟩ (by omega)
  obtain ⟨kT, yT⟩ := D.2.2.1 t ht.1 ht.2
  rw [← eT] at kT
  unfold TypR at yT
  rw [← eT] at yT
  refine V_iload_n (q := 1) dX2_seekField_0 rfl rfl rfl ?_
  refine V_bipush (q := 3) dX2_seekField_1 rfl (by decide) ?_
  refine V_icmp_lt (q := 6) (tgt := 9) dX2_seekField_3 (by decide) rfl (fun c3 => ?_) (fun c3 => ?_)
  · refine V_iload_n (q := 10) dX2_seekField_9 rfl rfl rfl ?_
    refine V_bipush (q := 12) dX2_seekField_10 rfl (by decide) ?_
    refine V_imul (q := 13) dX2_seekField_12 rfl (by omega) (fun z12 ez12 => ?_)
    refine V_iload_n (q := 14) dX2_seekField_13 rfl rfl rfl ?_
    refine V_iadd (q := 15) dX2_seekField_14 rfl (by omega) (fun z14 ez14 => ?_)
    refine V_istore (q := 17) (lv1 := [(3, 110), (0, t), (0, nm), (0, dp), (0, z14), (9, 0), (9, 0), (9, 0)]) dX2_seekField_15 rfl (by decide) rfl rfl ?_
    refine V_aload_n (q := 18) dX2_seekField_17 rfl rfl rfl ?_
    refine V_getA (q := 21) 2 dX2_seekField_18 rfl flX2_17 (by decide) (congrArg Prod.fst (show _ = (3, 0) by rw [D.1.1.1])) rfl rfl (fun z18 ez18 rz18 => ?_)
    rw [D.1.2.2.1] at ez18
    obtain rfl : z18 = 112 := ez18
    refine V_iload (q := 23) dX2_seekField_21 rfl rfl ?_
    refine V_iald (q := 24) (n := 400) dX2_seekField_23 rfl (by decide) (by rw [D.1.1.2.2.1]) (by omega) (fun z23 ez23 rz23 => ?_)
    refine V_iconst (q := 25) dX2_seekField_24 rfl (by decide) ?_
    refine V_icmp_eq (q := 28) (tgt := 36) dX2_seekField_25 (by decide) rfl (fun c25 => ?_) (fun c25 => ?_)
    · refine V_aload_n (q := 37) dX2_seekField_36 rfl rfl rfl ?_
      refine V_getA (q := 40) 0 dX2_seekField_37 rfl flX2_11 (by decide) (congrArg Prod.fst (show _ = (3, 0) by rw [D.1.1.1])) rfl rfl (fun z37 ez37 rz37 => ?_)
      rw [D.1.2.1] at ez37
      obtain rfl : z37 = 111 := ez37
      refine V_iload_n (q := 41) dX2_seekField_40 rfl rfl rfl ?_
      refine V_aald (q := 42) (n := 40) (ta := 23) (ci := 4) dX2_seekField_41 rfl (by decide) (by rw [D.1.1.2.1]) rfl (by decide) (by omega) (fun z41 ez41 rz41 => ?_)
      rw [kT] at ez41
      obtain rfl : T = z41 := ez41.symm
      refine V_astore (q := 44) (lv1 := [(3, 110), (0, t), (0, nm), (0, dp), (0, z14), (3, T), (9, 0), (9, 0)]) dX2_seekField_42 rfl (by decide) rfl rfl ?_
      refine V_aload (q := 46) dX2_seekField_44 rfl rfl ?_
      refine V_getA (q := 49) 6 dX2_seekField_46 rfl flX2_62 (by omega) (congrArg Prod.fst (show _ = (5, 0) by rw [yT.1.1.1])) rfl rfl (fun z46 ez46 rz46 => ?_)
      rw [yT.1.2.2.1] at ez46
      obtain rfl : z46 = (T + 2) := ez46
      refine V_iload_n (q := 50) dX2_seekField_49 rfl rfl rfl ?_
      refine V_iald (q := 51) (n := 10) dX2_seekField_50 rfl (by omega) (by rw [yT.1.1.2.2.1]) (by omega) (fun z50 ez50 rz50 => ?_)
      refine V_if_eq (q := 54) (tgt := 58) dX2_seekField_51 (by decide) rfl (fun c51 => ?_) (fun c51 => ?_)
      · refine V_bipush (q := 60) dX2_seekField_58 rfl (by decide) ?_
        refine V_istore (q := 62) (lv1 := [(3, 110), (0, t), (0, nm), (0, dp), (0, z14), (3, T), (0, (-6)), (9, 0)]) dX2_seekField_60 rfl (by decide) rfl rfl ?_
        refine V_iconst (q := 63) dX2_seekField_62 rfl (by decide) ?_
        refine V_istore (q := 65) (lv1 := [(3, 110), (0, t), (0, nm), (0, dp), (0, z14), (3, T), (0, (-6)), (0, 0)]) dX2_seekField_63 rfl (by decide) rfl rfl ?_
        have hk := (yT.2.2.2.1 nm hm.1 hm.2).1
        rw [← ez50] at hk
        unfold fK at hk
        have hown : ¬ 0 ≤ oF M t nm := by { intro q; rw [if_neg (by omega)] at hk; split at hk <;> omega }
        exact loop z14 (by omega) μ (-6) 0 ⟨D, SFm.rf, by decide, hc.1, SKI_1 w ht.1 ht.2 hown⟩
      · refine V_iload_n (q := 55) dX2_seekField_54 rfl rfl rfl ?_
        refine V_goto (tgt := 60) dX2_seekField_55 (by decide) ?_
        refine V_istore (q := 62) (lv1 := [(3, 110), (0, t), (0, nm), (0, dp), (0, z14), (3, T), (0, t), (9, 0)]) dX2_seekField_60 rfl (by decide) rfl rfl ?_
        refine V_iconst (q := 63) dX2_seekField_62 rfl (by decide) ?_
        refine V_istore (q := 65) (lv1 := [(3, 110), (0, t), (0, nm), (0, dp), (0, z14), (3, T), (0, t), (0, 0)]) dX2_seekField_63 rfl (by decide) rfl rfl ?_
        have hk := (yT.2.2.2.1 nm hm.1 hm.2).1
        rw [← ez50] at hk
        unfold fK at hk
        have hown : 0 ≤ oF M t nm := by { rcases (show oF M t nm < 0 ∨ 0 ≤ oF M t nm by omega) with q | q; · { rw [if_pos q] at hk; omega }; · { exact q } }
        exact loop z14 (by omega) μ t 0 ⟨D, SFm.rf, by decide, hc.1, SKI_0 w ht.1 ht.2 hown⟩
    · refine V_aload_n (q := 29) dX2_seekField_28 rfl rfl rfl ?_
      refine V_getA (q := 32) 2 dX2_seekField_29 rfl flX2_17 (by decide) (congrArg Prod.fst (show _ = (3, 0) by rw [D.1.1.1])) rfl rfl (fun z29 ez29 rz29 => ?_)
      rw [D.1.2.2.1] at ez29
      obtain rfl : z29 = 112 := ez29
      refine V_iload (q := 34) dX2_seekField_32 rfl rfl ?_
      refine V_iald (q := 35) (n := 400) dX2_seekField_34 rfl (by decide) (by rw [D.1.1.2.2.1]) (by omega) (fun z34 ez34 rz34 => ?_)
      have hme := D.2.2.2.2.1 t nm ht.1 (by omega) hm.1 hm.2
      rw [show 10 * t + nm = z14 by omega, ← ez34] at hme
      exact V_iret dX2_seekField_35 (Nat.le_of_ble_eq_true rfl) (Nat.le_of_ble_eq_true rfl) ⟨_, rfl, rfl, SFm.rf, D, by { rcases hme with q | q; · { omega }; · { exact q.2 } }⟩
  · refine V_bipush (q := 8) dX2_seekField_6 rfl (by decide) ?_
    exfalso; omega
theorem tX2_fieldOwner {Γ : GC} {α : Sh} {μ : Mem} {t nm : Int} {M : Mem} (w : WFD M) (D : DesR M α μ) (ht : 0 ≤ t ∧ t < M 0 0) (hm : 0 ≤ nm ∧ nm ≤ 9) : MT Γ yX2_fieldOwner cX2_fieldOwner 3 (some .int) 41 0 0 [(3, 110), (0, t), (0, nm)] α μ (QI fun r α1 μ1 => α1 = α ∧ SFm μ μ1 ∧ DesR M α μ1 ∧ r = FO M t nm) := by
  have hrk := rk_lt w ht.1 ht.2
  refine MT_of (k := 0) [(3, 110), (0, t), (0, nm)] pn_X2_fieldOwner rfl rfl (fun ad0 => ?_)
  refine V_aload_n (q := 1) dX2_fieldOwner_0 rfl rfl rfl ?_
  refine V_iload_n (q := 2) dX2_fieldOwner_1 rfl rfl rfl ?_
  refine V_iload_n (q := 3) dX2_fieldOwner_2 rfl rfl rfl ?_
  refine V_iconst (q := 4) dX2_fieldOwner_3 rfl (by decide) ?_
  refine V_chVi (q := 7) (As := [(0, t), (0, nm), (0, 0)]) (tX2_seekField w hm (rk M t) D t 0 ht (by decide) (by omega) rfl) dX2_fieldOwner_4 rfl mlX2_58 mw_X2_seekField im_X2_seekField sl_X2_seekField md_X2_seekField rfl (by decide) (by decide) (congrArg Prod.fst (show _ = (3, 0) by rw [D.1.1.1])) rfl rfl (show rk M t + 1 ≤ 41 by omega) (show 8 + (8 + 11) + 64 * rk M t ≤ 64 * 41 by omega) (Nat.le_of_ble_eq_true rfl) (Nat.le_of_ble_eq_true rfl) (Nat.le_of_ble_eq_true rfl) (fun z4 rz4 A4 M4 xM4 hM4 => ?_)
  obtain ⟨hA, fM4, DM4, hz4⟩ := hM4
  replace hA := hA.symm
  subst hA
  exact V_iret dX2_fieldOwner_7 (Nat.le_of_ble_eq_true rfl) (Nat.le_of_ble_eq_true rfl) ⟨_, rfl, rfl, fM4, DM4, hz4⟩
