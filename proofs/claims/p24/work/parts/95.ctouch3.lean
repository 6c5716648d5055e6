/-! THE CLASS'S TOUCH: perform, startType, runBody by their fuel -/
/-- what the touch's functions are called under -/
def PR (B : Int) (M : Mem) (n : Nat) (ob os : Int) (σ : Mem) : Prop := (0 ≤ ob ∧ ob ≤ 30) ∧ (0 ≤ os ∧ os + Un M σ ≤ 40) ∧ (30 - ob) + Un M σ + 1 ≤ n ∧ INV B M σ ∧ σ 47 0 ≤ 40 ∧ (0 ≤ B ∧ B ≤ 2000000000)
def STC (Γ : GC) (B : Int) (M : Mem) (W : Int) (α : Sh) (n : Nat) : Prop := ∀ (σ μ : Mem) (t ob os : Int), DesR M α μ → TR M σ W α μ → (0 ≤ t ∧ t < M 0 0) → PR B M n ob os σ → slk B 0 σ → MT Γ yX3_startType cX3_startType 6 (some .int) (2 * n + 50) 0 0 [(3, 150), (0, t), (0, ob), (0, os)] α μ (QI (TQ M W α (-1) σ μ (ev M n true t ob σ)))
def RBC (Γ : GC) (B : Int) (M : Mem) (W : Int) (α : Sh) (n : Nat) : Prop := ∀ (σ μ : Mem) (b Bt A ob os : Int), DesR M α μ → TR M σ W α μ → bodT M b Bt A → PR B M n ob os σ → slk B 0 σ → MT Γ yX3_runBody cX3_runBody 8 (some .int) (2 * n + 50) 0 0 [(3, 150), (3, Bt), (0, ob), (0, os)] α μ (QI (TQ M W α (-1) σ μ (ev M n false b ob σ)))
theorem TQ.sfm {M σ μ μ1 μ2 : Mem} {W x r : Int} {α α1 : Sh} {q : Int × Mem} (f : SFm μ μ1) (h : TQ M W α x σ μ1 q r α1 μ2) : TQ M W α x σ μ q r α1 μ2 := ⟨h.1, f.sf.tf.trans h.2.1, h.2.2.1, h.2.2.2.1, (KP.sfm f).trans h.2.2.2.2.1, h.2.2.2.2.2⟩
theorem TQ.twf {M σ σ1 μ μ1 μ2 : Mem} {W x r : Int} {α α1 : Sh} {q : Int × Mem} (hW : 200 ≤ W ∧ W ≤ 320) (f : TWF W μ μ1) (hs : ∀ t : Int, σ 28 t ≠ 0 → σ1 28 t ≠ 0) (h : TQ M W α x σ1 μ1 q r α1 μ2) : TQ M W α x σ μ q r α1 μ2 := ⟨h.1, f.tf.trans h.2.1, h.2.2.1, h.2.2.2.1, (KP.twf hW f hs).trans h.2.2.2.2.1, h.2.2.2.2.2⟩
theorem TQ.trans {M σ μ μ1 μ2 : Mem} {W x r r1 : Int} {α α1 α2 : Sh} {q q1 : Int × Mem} (h : TQ M W α x σ μ q r α1 μ1) (h1 : TQ M W α x q.2 μ1 q1 r1 α2 μ2) : TQ M W α x σ μ q1 r1 α2 μ2 := ⟨h1.1, h.2.1.trans h1.2.1, h1.2.2.1, h1.2.2.2.1, h.2.2.2.2.1.trans h1.2.2.2.2.1, h1.2.2.2.2.2⟩
theorem arE_28 {n of t : Int} {σ : Mem} : (arE n of σ).2 28 t = σ 28 t := by
  unfold arE
  show mu (mu σ 47 0 (σ 47 0 + 1)) 52 0 of 28 t = σ 28 t
  rw [mu_ne (by omega), mu_ne (by omega)]
theorem TQ_ar {M σ μ μ1 : Mem} {W x z n of : Int} {α : Sh} (w : WFD M) (hW : 200 ≤ W ∧ W ≤ 320) (D : DesR M α μ) (g : TWF W μ μ1) (T1 : TR M (arE n of σ).2 W α μ1) (hz : z = (arE n of σ).1) : TQ M W α x σ μ (arE n of σ) z α μ1 :=
  ⟨rfl, g.tf, g.des w hW D, T1, KP.twf hW g (fun t ht => by rw [arE_28]; exact ht), hz⟩
theorem STi_6 {M : Mem} {k t n : Int} (w : WFD M) (hr : ¬ RUi M k t n = 1) (hk : 1 ≤ k → k ≤ 6 → 0 ≤ t ∧ t < M 0 0) : STi M k t n = -6 ∨ 0 ≤ STi M k t n := by
  unfold STi
  rw [if_neg hr]
  split
  · rename_i h
    split
    · exact Or.inl rfl
    · have ht := hk (by omega) (by omega)
      rcases FF_rng (nm := n) w ht.1 ht.2 with q | ⟨u, _, _, _, q, _⟩
      · exfalso
        apply hr
        rcases h with h | h <;> subst h
        · rw [RUi_1, if_pos (by omega)]
        · rw [RUi_2, if_pos (by omega)]
      · exact Or.inr (by omega)
  · split
    · rename_i h
      subst h
      have hf : ¬ FM M n t < 0 := fun a => hr (by rw [RUi_3, if_pos a])
      exact Or.inr (by omega)
    · split
      · rename_i h
        have := hk (by omega) (by omega)
        exact Or.inr this.1
      · exact Or.inl rfl
theorem SB_ru {M : Mem} {k t n z : Int} (w : WFD M) (hz : z = SB M k t n) (hk : 1 ≤ k → k ≤ 6 → 0 ≤ t ∧ t < M 0 0) : (z = -22 ∧ RUi M k t n = 1) ∨ (z ≠ -22 ∧ ¬ RUi M k t n = 1 ∧ STi M k t n = z ∧ (z = -6 ∨ (0 ≤ z ∧ z < M 0 0)) ∧ (k = 3 → 0 ≤ z)) := by
  unfold SB at hz
  by_cases h : RUi M k t n = 1
  · rw [if_pos h] at hz; exact Or.inl ⟨hz, h⟩
  · rw [if_neg h] at hz
    have h6 := STi_6 w h hk
    have h7 := STi_rng w hk (n := n)
    refine Or.inr ⟨by omega, h, hz.symm, by omega, fun h3 => ?_⟩
    subst h3
    have hf : ¬ FM M n t < 0 := fun a => h (by rw [RUi_3, if_pos a])
    have e : STi M 3 t n = FM M n t / 5 := by
      unfold STi
      rw [if_neg h, if_neg (by decide), if_pos rfl]
    omega
theorem acE_X {M σ : Mem} {g : EvT} {k t n v ob : Int} {q : Int × Mem} (h7 : k ≠ 7) (hr : ¬ RUi M k t n = 1) (hX : (if 0 ≤ STi M k t n then g true (STi M k t n) ob σ else (-6, σ)) = q) : acE M g k t n v ob σ = if q.1 = -6 then (if k = 3 then g false (FM M n t) ob q.2 else (-6, thE M k t n v q.2)) else q := by
  unfold acE
  rw [if_neg h7, if_neg hr, hX]
theorem thE_28 {M σ : Mem} {k t n v u : Int} : thE M k t n v σ 28 u = σ 28 u := by
  unfold thE
  split
  · exact onT_o (by decide) (by decide)
  · split
    · exact onT_o (by decide) (by decide)
    · split
      · exact mu_ne (by omega)
      · rfl
theorem FM_bod {M : Mem} {n t u : Int} (w : WFD M) (t1 : t < M 0 0) (n0 : 0 ≤ n) (n1 : n ≤ 9) (h : ¬ FM M n t < 0) (hu : u = FM M n t / 5) : boT M u n = tk u + (20 + 2 * n) ∧ bodT M (FM M n t) (tk u + (20 + 2 * n)) (tk u + (200 + 20 * n)) ∧ (0 ≤ u ∧ u < M 0 0) := by
  have hn := w.n
  rcases FM_rng (nm := n) w t1 with q | ⟨x, x0, x1, x2, x3, x4⟩
  · omega
  · have hc := (w.cnt x x0 (by omega)).2.2
    obtain rfl : u = x := by omega
    refine ⟨?_, ⟨u, x0, by omega, Or.inr ⟨n, n0, n1, x3, x2, rfl, rfl⟩⟩, x0, by omega⟩
    unfold boT
    rw [if_neg (by omega), if_pos ⟨n0, n1, x3⟩]
theorem tX3_perform {Γ : GC} {α : Sh} {μ : Mem} {B W ob os : Int} {n : Nat} {σ : Mem} {M : Mem} (w : WFD M) (D : DesR M α μ) (hS : STC Γ B M W α n) (hR : RBC Γ B M W α n) (T : TR M σ W α μ) {a k t nm v : Int} (hoa : okA a) (ha : AcR α μ a k t nm v) (hk0 : 0 ≤ k ∧ k ≤ 7) (ht : 1 ≤ k → k ≤ 6 → 0 ≤ t ∧ t < M 0 0) (hnm : 1 ≤ k → k ≤ 3 → 0 ≤ nm ∧ nm ≤ 9) (h7 : k = 7 → 0 ≤ v ∧ v ≤ 22) (hP : PR B M n ob os σ) (hs : slk B 1 σ) : MT Γ yX3_perform cX3_perform 6 (some .int) (2 * n + 51) 0 0 [(3, 150), (3, a), (0, ob), (0, os)] α μ (QI (TQ M W α (-1) σ μ (acE M (ev M n) k t nm v ob σ))) := by
  have hn := w.n
  have hW := T.1
  have hoa1 := hoa
  unfold okA at hoa1
  obtain ⟨pb, po, pf, pI, p47, pB⟩ := id hP
  have hi := pI.2.2.2
  have hs0 : slk B 0 σ := slk_1 hs
  refine MT_of (k := 2) [(3, 150), (3, a), (0, ob), (0, os), (9, 0), (9, 0)] pn_X3_perform rfl rfl (fun ad0 => ?_)
  have ha0 : 0 ≤ a := by omega
  refine V_aload_n (q := 1) dX3_perform_0 rfl rfl rfl ?_
  refine V_getI (q := 4) 0 dX3_perform_1 rfl flX3_30 (by omega) (congrArg Prod.fst (show _ = (1, 0) by rw [ha.1])) rfl rfl (fun z1 ez1 rz1 => ?_)
  rw [ha.2.1] at ez1
  obtain rfl : k = z1 := ez1.symm
  refine V_bipush (q := 6) dX3_perform_4 rfl (by decide) ?_
  refine V_icmp_ne (q := 9) (tgt := 20) dX3_perform_6 (by decide) rfl (fun c6 => ?_) (fun c6 => ?_)
  · refine V_aload_n (q := 21) dX3_perform_20 rfl rfl rfl ?_
    refine V_getA (q := 24) 0 dX3_perform_21 rfl flX3_15 (by decide) (congrArg Prod.fst (show _ = (4, 0) by rw [T.2.2.2.1.1])) rfl rfl (fun z21 ez21 rz21 => ?_)
    rw [T.2.2.2.1.2.1] at ez21
    obtain rfl : z21 = 110 := ez21
    refine V_aload_n (q := 25) dX3_perform_24 rfl rfl rfl ?_
    refine V_chVi (q := 28) (As := [(3, a)]) (tX2_startedBy ha0 ha (by omega) w D ht hnm) dX3_perform_25 rfl mlX3_42 mw_X2_startedBy im_X2_startedBy sl_X2_startedBy md_X2_startedBy rfl (by decide) (by decide) (congrArg Prod.fst (show _ = (3, 0) by rw [D.1.1.1])) rfl rfl (show _ + 1 ≤ 2 * n + 51 by omega) (show 8 + (4 + 11) + 64 * _ ≤ 64 * (2 * n + 51) by omega) (Nat.le_of_ble_eq_true rfl) (Nat.le_of_ble_eq_true rfl) (Nat.le_of_ble_eq_true rfl) (fun z25 rz25 A25 M25 xM25 hM25 => ?_)
    obtain ⟨hA, fM25, DM25, hz25⟩ := hM25
    replace hA := hA.symm
    subst hA
    have TM25 := TR_SF T fM25.sf
    have haM25 := AcR_TF hW hoa ha (fM25.sf.tf (W := W))
    have hsb := SB_ru w hz25 ht
    refine V_istore (q := 30) (lv1 := [(3, 150), (3, a), (0, ob), (0, os), (0, z25), (9, 0)]) dX3_perform_28 rfl (by decide) rfl rfl ?_
    refine V_iload (q := 32) dX3_perform_30 rfl rfl ?_
    refine V_bipush (q := 34) dX3_perform_32 rfl (by decide) ?_
    refine V_icmp_ne (q := 37) (tgt := 46) dX3_perform_34 (by decide) rfl (fun c34 => ?_) (fun c34 => ?_)
    · refine V_iload (q := 48) dX3_perform_46 rfl rfl ?_
      refine V_if_lt (q := 51) (tgt := 62) dX3_perform_48 (by decide) rfl (fun c48 => ?_) (fun c48 => ?_)
      · obtain ⟨hr0, hr, hst, hzz, hz3⟩ := hsb.resolve_left (fun q => by omega)
        have hX : (if 0 ≤ STi M k t nm then ev M n true (STi M k t nm) ob σ else (-6, σ)) = (-6, σ) := by { rw [hst, if_neg (by omega)] }
        refine V_bipush (q := 64) dX3_perform_62 rfl (by decide) ?_
        refine V_istore (q := 66) (lv1 := [(3, 150), (3, a), (0, ob), (0, os), (0, z25), (0, (-6))]) dX3_perform_64 rfl (by decide) rfl rfl ?_
        refine V_iload (q := 68) dX3_perform_66 rfl rfl ?_
        refine V_bipush (q := 70) dX3_perform_68 rfl (by decide) ?_
        refine V_icmp_eq (q := 73) (tgt := 76) dX3_perform_70 (by decide) rfl (fun c70 => ?_) (fun c70 => ?_)
        · refine V_aload_n (q := 77) dX3_perform_76 rfl rfl rfl ?_
          refine V_getI (q := 80) 0 dX3_perform_77 rfl flX3_30 (by omega) (congrArg Prod.fst (show _ = (1, 0) by rw [ha.1])) rfl rfl (fun z77 ez77 rz77 => ?_)
          rw [haM25.2.1] at ez77
          obtain rfl : k = z77 := ez77.symm
          refine V_iconst (q := 81) dX3_perform_80 rfl (by decide) ?_
          refine V_icmp_ne (q := 84) (tgt := 113) dX3_perform_81 (by decide) rfl (fun c81 => ?_) (fun c81 => ?_)
          · refine V_aload_n (q := 114) dX3_perform_113 rfl rfl rfl ?_
            refine V_aload_n (q := 115) dX3_perform_114 rfl rfl rfl ?_
            have hgi := hi
            refine V_chV (q := 118) (As := [(3, a)]) (tX3_putThrough w DM25 TM25 hoa haM25 ht hnm hr (by omega) (by omega)) dX3_perform_115 rfl mlX3_69 mw_X3_putThrough im_X3_putThrough sl_X3_putThrough md_X3_putThrough rfl (by decide) (by decide) (congrArg Prod.fst (show _ = (4, 0) by rw [T.2.2.2.1.1])) rfl rfl (show _ + 1 ≤ 2 * n + 51 by omega) (show 8 + (3 + 11) + 64 * _ ≤ 64 * (2 * n + 51) by omega) (Nat.le_of_ble_eq_true rfl) (Nat.le_of_ble_eq_true rfl) (Nat.le_of_ble_eq_true rfl) (fun A115 M115 xM115 hM115 => ?_)
            obtain ⟨hA, hM115⟩ := hM115
            replace hA := hA.symm
            subst hA
            refine V_bipush (q := 120) dX3_perform_118 rfl (by decide) ?_
            have eth : acE M (ev M n) k t nm v ob σ = (-6, thE M k t nm v σ) := by { rw [acE_X (by omega) hr hX, if_pos rfl, if_neg (by omega)] }
            rw [eth]
            exact V_iret dX3_perform_120 (Nat.le_of_ble_eq_true rfl) (Nat.le_of_ble_eq_true rfl) ⟨_, rfl, TQ.sfm fM25 ⟨rfl, hM115.1, hM115.2.1, hM115.2.2.1, hM115.2.2.2, rfl⟩⟩
          · refine V_iload (q := 86) dX3_perform_84 rfl rfl ?_
            refine V_if_lt (q := 89) (tgt := 113) dX3_perform_86 (by decide) rfl (fun c86 => ?_) (fun c86 => ?_)
            · refine V_aload_n (q := 114) dX3_perform_113 rfl rfl rfl ?_
              refine V_aload_n (q := 115) dX3_perform_114 rfl rfl rfl ?_
              have hgi := hi
              refine V_chV (q := 118) (As := [(3, a)]) (tX3_putThrough w DM25 TM25 hoa haM25 ht hnm hr (by omega) (by omega)) dX3_perform_115 rfl mlX3_69 mw_X3_putThrough im_X3_putThrough sl_X3_putThrough md_X3_putThrough rfl (by decide) (by decide) (congrArg Prod.fst (show _ = (4, 0) by rw [T.2.2.2.1.1])) rfl rfl (show _ + 1 ≤ 2 * n + 51 by omega) (show 8 + (3 + 11) + 64 * _ ≤ 64 * (2 * n + 51) by omega) (Nat.le_of_ble_eq_true rfl) (Nat.le_of_ble_eq_true rfl) (Nat.le_of_ble_eq_true rfl) (fun A115_2 M115_2 xM115_2 hM115_2 => ?_)
              obtain ⟨hA, hM115_2⟩ := hM115_2
              replace hA := hA.symm
              subst hA
              refine V_bipush (q := 120) dX3_perform_118 rfl (by decide) ?_
              have eth : acE M (ev M n) k t nm v ob σ = (-6, thE M k t nm v σ) := by { rw [acE_X (by omega) hr hX, if_pos rfl, if_neg (by omega)] }
              rw [eth]
              exact V_iret dX3_perform_120 (Nat.le_of_ble_eq_true rfl) (Nat.le_of_ble_eq_true rfl) ⟨_, rfl, TQ.sfm fM25 ⟨rfl, hM115_2.1, hM115_2.2.1, hM115_2.2.2.1, hM115_2.2.2.2, rfl⟩⟩
            · exfalso; omega
        · refine V_iload (q := 75) dX3_perform_73 rfl rfl ?_
          exact absurd rfl (by assumption)
      · refine V_aload_n (q := 52) dX3_perform_51 rfl rfl rfl ?_
        refine V_iload (q := 54) dX3_perform_52 rfl rfl ?_
        refine V_iload_n (q := 55) dX3_perform_54 rfl rfl rfl ?_
        refine V_iload_n (q := 56) dX3_perform_55 rfl rfl rfl ?_
        obtain ⟨hr0, hr, hst, hzz, hz3⟩ := hsb.resolve_left (fun q => by omega)
        have hzr : 0 ≤ z25 ∧ z25 < M 0 0 := by omega
        refine V_chVi (q := 59) (As := [(0, z25), (0, ob), (0, os)]) (hS σ M25 z25 ob os DM25 TM25 hzr hP hs0) dX3_perform_56 rfl mlX3_48 mw_X3_startType im_X3_startType sl_X3_startType md_X3_startType rfl (by decide) (by decide) (congrArg Prod.fst (show _ = (4, 0) by rw [T.2.2.2.1.1])) rfl rfl (show _ + 1 ≤ 2 * n + 51 by omega) (show 8 + (6 + 11) + 64 * _ ≤ 64 * (2 * n + 51) by omega) (Nat.le_of_ble_eq_true rfl) (Nat.le_of_ble_eq_true rfl) (Nat.le_of_ble_eq_true rfl) (fun z56 rz56 A56 M56 xM56 hM56 => ?_)
        obtain ⟨hA, hM56⟩ := hM56
        replace hA := hA.symm
        subst hA
        obtain ⟨q1, eq1⟩ : ∃ q : Int × Mem, ev M n true z25 ob σ = q := ⟨_, rfl⟩
        have hgd := ev_good w n true z25 ob 1 σ (fun _ => hzr) (fun a => absurd a (by decide)) pb.1 (by decide) pI p47 hs
        rw [eq1] at hgd
        replace hM56 : TQ M W α (-1) σ μ q1 z56 α M56 := TQ.sfm fM25 (by { rw [← eq1]; exact ⟨rfl, hM56⟩ })
        have hX : (if 0 ≤ STi M k t nm then ev M n true (STi M k t nm) ob σ else (-6, σ)) = q1 := by { rw [hst, if_pos hzr.1, eq1] }
        obtain ⟨-, FM56, DM56, TM56, KM56, eM56⟩ := id hM56
        have haM56 := AcR_TF hW hoa ha FM56
        refine V_goto (tgt := 64) dX3_perform_59 (by decide) ?_
        refine V_istore (q := 66) (lv1 := [(3, 150), (3, a), (0, ob), (0, os), (0, z25), (0, z56)]) dX3_perform_64 rfl (by decide) rfl rfl ?_
        refine V_iload (q := 68) dX3_perform_66 rfl rfl ?_
        refine V_bipush (q := 70) dX3_perform_68 rfl (by decide) ?_
        refine V_icmp_eq (q := 73) (tgt := 76) dX3_perform_70 (by decide) rfl (fun c70_2 => ?_) (fun c70_2 => ?_)
        · refine V_aload_n (q := 77) dX3_perform_76 rfl rfl rfl ?_
          refine V_getI (q := 80) 0 dX3_perform_77 rfl flX3_30 (by omega) (congrArg Prod.fst (show _ = (1, 0) by rw [ha.1])) rfl rfl (fun z77_2 ez77_2 rz77_2 => ?_)
          rw [haM56.2.1] at ez77_2
          obtain rfl : k = z77_2 := ez77_2.symm
          refine V_iconst (q := 81) dX3_perform_80 rfl (by decide) ?_
          refine V_icmp_ne (q := 84) (tgt := 113) dX3_perform_81 (by decide) rfl (fun c81_2 => ?_) (fun c81_2 => ?_)
          · refine V_aload_n (q := 114) dX3_perform_113 rfl rfl rfl ?_
            refine V_aload_n (q := 115) dX3_perform_114 rfl rfl rfl ?_
            have hq6 : q1.1 = -6 := by omega
            have hg5 := hgd.2.2.2.2.1 (by omega)
            have hgi := hgd.1.2.2.2
            refine V_chV (q := 118) (As := [(3, a)]) (tX3_putThrough w DM56 TM56 hoa haM56 ht hnm hr (by omega) (by omega)) dX3_perform_115 rfl mlX3_69 mw_X3_putThrough im_X3_putThrough sl_X3_putThrough md_X3_putThrough rfl (by decide) (by decide) (congrArg Prod.fst (show _ = (4, 0) by rw [T.2.2.2.1.1])) rfl rfl (show _ + 1 ≤ 2 * n + 51 by omega) (show 8 + (3 + 11) + 64 * _ ≤ 64 * (2 * n + 51) by omega) (Nat.le_of_ble_eq_true rfl) (Nat.le_of_ble_eq_true rfl) (Nat.le_of_ble_eq_true rfl) (fun A115_3 M115_3 xM115_3 hM115_3 => ?_)
            obtain ⟨hA, hM115_3⟩ := hM115_3
            replace hA := hA.symm
            subst hA
            refine V_bipush (q := 120) dX3_perform_118 rfl (by decide) ?_
            have eth : acE M (ev M n) k t nm v ob σ = (-6, thE M k t nm v q1.2) := by { rw [acE_X (by omega) hr hX, if_pos hq6, if_neg (by omega)] }
            rw [eth]
            exact V_iret dX3_perform_120 (Nat.le_of_ble_eq_true rfl) (Nat.le_of_ble_eq_true rfl) ⟨_, rfl, hM56.trans ⟨rfl, hM115_3.1, hM115_3.2.1, hM115_3.2.2.1, hM115_3.2.2.2, rfl⟩⟩
          · refine V_iload (q := 86) dX3_perform_84 rfl rfl ?_
            refine V_if_lt (q := 89) (tgt := 113) dX3_perform_86 (by decide) rfl (fun c86_2 => ?_) (fun c86_2 => ?_)
            · refine V_aload_n (q := 114) dX3_perform_113 rfl rfl rfl ?_
              refine V_aload_n (q := 115) dX3_perform_114 rfl rfl rfl ?_
              have hq6 : q1.1 = -6 := by omega
              have hg5 := hgd.2.2.2.2.1 (by omega)
              have hgi := hgd.1.2.2.2
              refine V_chV (q := 118) (As := [(3, a)]) (tX3_putThrough w DM56 TM56 hoa haM56 ht hnm hr (by omega) (by omega)) dX3_perform_115 rfl mlX3_69 mw_X3_putThrough im_X3_putThrough sl_X3_putThrough md_X3_putThrough rfl (by decide) (by decide) (congrArg Prod.fst (show _ = (4, 0) by rw [T.2.2.2.1.1])) rfl rfl (show _ + 1 ≤ 2 * n + 51 by omega) (show 8 + (3 + 11) + 64 * _ ≤ 64 * (2 * n + 51) by omega) (Nat.le_of_ble_eq_true rfl) (Nat.le_of_ble_eq_true rfl) (Nat.le_of_ble_eq_true rfl) (fun A115_4 M115_4 xM115_4 hM115_4 => ?_)
              obtain ⟨hA, hM115_4⟩ := hM115_4
              replace hA := hA.symm
              subst hA
              refine V_bipush (q := 120) dX3_perform_118 rfl (by decide) ?_
              have eth : acE M (ev M n) k t nm v ob σ = (-6, thE M k t nm v q1.2) := by { rw [acE_X (by omega) hr hX, if_pos hq6, if_neg (by omega)] }
              rw [eth]
              exact V_iret dX3_perform_120 (Nat.le_of_ble_eq_true rfl) (Nat.le_of_ble_eq_true rfl) ⟨_, rfl, hM56.trans ⟨rfl, hM115_4.1, hM115_4.2.1, hM115_4.2.2.1, hM115_4.2.2.2, rfl⟩⟩
            · obtain ⟨Tz, hTz⟩ : ∃ T : Int, T = tk z25 := ⟨_, rfl⟩
              obtain ⟨kTz, yTz⟩ := DM56.2.2.1 z25 hzr.1 hzr.2
              rw [← hTz] at kTz
              unfold TypR at yTz
              rw [← hTz] at yTz
              replace hTz : Tz = 1000 * (z25 + 1) := hTz
              refine V_aload_n (q := 90) dX3_perform_89 rfl rfl rfl ?_
              refine V_aload_n (q := 91) dX3_perform_90 rfl rfl rfl ?_
              refine V_getA (q := 94) 0 dX3_perform_91 rfl flX3_15 (by decide) (congrArg Prod.fst (show _ = (4, 0) by rw [T.2.2.2.1.1])) rfl rfl (fun z91 ez91 rz91 => ?_)
              rw [TM56.2.2.2.1.2.1] at ez91
              obtain rfl : z91 = 110 := ez91
              refine V_getA (q := 97) 0 dX3_perform_94 rfl flX3_52 (by decide) (congrArg Prod.fst (show _ = (3, 0) by rw [D.1.1.1])) rfl rfl (fun z94 ez94 rz94 => ?_)
              rw [DM56.1.2.1] at ez94
              obtain rfl : z94 = 111 := ez94
              refine V_iload (q := 99) dX3_perform_97 rfl rfl ?_
              refine V_aald (q := 100) (n := 40) (ta := 23) (ci := 4) dX3_perform_99 rfl (by decide) (by rw [D.1.1.2.1]) rfl (by decide) (by omega) (fun z99 ez99 rz99 => ?_)
              rw [kTz] at ez99
              obtain rfl : Tz = z99 := ez99.symm
              refine V_aload_n (q := 101) dX3_perform_100 rfl rfl rfl ?_
              refine V_getI (q := 104) 2 dX3_perform_101 rfl flX3_56 (by omega) (congrArg Prod.fst (show _ = (1, 0) by rw [ha.1])) rfl rfl (fun z101 ez101 rz101 => ?_)
              rw [haM56.2.2.2.1] at ez101
              obtain rfl : nm = z101 := ez101.symm
              have hk3 : k = 3 := by omega
              have hfm : ¬ FM M nm t < 0 := fun a => hr (by rw [hk3, RUi_3, if_pos a])
              have huz : z25 = FM M nm t / 5 := by { rw [← hst, hk3]; unfold STi; rw [if_neg (by rw [← hk3]; exact hr), if_neg (by decide), if_pos rfl] }
              obtain ⟨hbo, hbt, -⟩ := FM_bod w (ht (by omega) (by omega)).2 (hnm (by omega) (by omega)).1 (hnm (by omega) (by omega)).2 hfm huz
              refine V_rdVA (q := 107) (As := [(0, nm)]) (tX4_bodyOf w DM56 hzr (by unfold tk; omega)) dX3_perform_104 rfl mlX3_59 mw_X4_bodyOf im_X4_bodyOf sl_X4_bodyOf md_X4_bodyOf rfl (by decide) (by omega) (congrArg Prod.fst (show _ = (5, 0) by rw [yTz.1.1.1])) rfl rfl (show _ + 1 ≤ 2 * n + 51 by omega) (show 8 + (_ + 11) + 64 * _ ≤ 64 * (2 * n + 51) by omega) (Nat.le_of_ble_eq_true rfl) (Nat.le_of_ble_eq_true rfl) (Nat.le_of_ble_eq_true rfl) (fun z104 rz104 hz104 => ?_)
              rw [hbo] at hz104
              subst hz104
              refine V_iload_n (q := 108) dX3_perform_107 rfl rfl rfl ?_
              refine V_iload_n (q := 109) dX3_perform_108 rfl rfl rfl ?_
              have hq6 : q1.1 = -6 := by omega
              have hg5 := hgd.2.2.2.2.1 (by omega)
              have hPq : PR B M n ob os q1.2 := ⟨pb, ⟨po.1, by have := hgd.2.1; omega⟩, by have := hgd.2.1; omega, hgd.1, hg5.1, pB⟩
              refine V_chVi (q := 112) (As := [(3, (tk z25 + (20 + 2 * nm))), (0, ob), (0, os)]) (hR q1.2 M56 (FM M nm t) _ _ ob os DM56 TM56 hbt hPq (slk_1 hg5.2)) dX3_perform_109 rfl mlX3_65 mw_X3_runBody im_X3_runBody sl_X3_runBody md_X3_runBody rfl (by decide) (by decide) (congrArg Prod.fst (show _ = (4, 0) by rw [T.2.2.2.1.1])) rfl rfl (show _ + 1 ≤ 2 * n + 51 by omega) (show 8 + (8 + 11) + 64 * _ ≤ 64 * (2 * n + 51) by omega) (Nat.le_of_ble_eq_true rfl) (Nat.le_of_ble_eq_true rfl) (Nat.le_of_ble_eq_true rfl) (fun z109 rz109 A109 M109 xM109 hM109 => ?_)
              obtain ⟨hA, hM109⟩ := hM109
              replace hA := hA.symm
              subst hA
              have eth : acE M (ev M n) k t nm v ob σ = ev M n false (FM M nm t) ob q1.2 := by { rw [acE_X (by omega) hr hX, if_pos hq6, if_pos hk3] }
              rw [eth]
              exact V_iret dX3_perform_112 (Nat.le_of_ble_eq_true rfl) (Nat.le_of_ble_eq_true rfl) ⟨_, rfl, hM56.trans ⟨rfl, hM109⟩⟩
        · refine V_iload (q := 75) dX3_perform_73 rfl rfl ?_
          have hq6 : ¬ q1.1 = -6 := by omega
          have eth : acE M (ev M n) k t nm v ob σ = q1 := by { rw [acE_X (by omega) hr hX, if_neg hq6] }
          rw [eth]
          exact V_iret dX3_perform_75 (Nat.le_of_ble_eq_true rfl) (Nat.le_of_ble_eq_true rfl) ⟨_, rfl, hM56⟩
    · refine V_aload_n (q := 38) dX3_perform_37 rfl rfl rfl ?_
      refine V_bipush (q := 40) dX3_perform_38 rfl (by decide) ?_
      refine V_bipush (q := 42) dX3_perform_40 rfl (by decide) ?_
      refine V_chVi (q := 45) (As := [(0, 22), (0, (-6))]) (tX3_arise TM25 (by omega) (by omega)) dX3_perform_42 rfl mlX3_38 mw_X3_arise im_X3_arise sl_X3_arise md_X3_arise rfl (by decide) (by decide) (congrArg Prod.fst (show _ = (4, 0) by rw [T.2.2.2.1.1])) rfl rfl (show _ + 1 ≤ 2 * n + 51 by omega) (show 8 + (3 + 11) + 64 * _ ≤ 64 * (2 * n + 51) by omega) (Nat.le_of_ble_eq_true rfl) (Nat.le_of_ble_eq_true rfl) (Nat.le_of_ble_eq_true rfl) (fun z42 rz42 A42 M42 xM42 hM42 => ?_)
      obtain ⟨hA, hM42⟩ := hM42
      replace hA := hA.symm
      subst hA
      obtain ⟨-, hr⟩ := hsb.resolve_right (fun q => by omega)
      have eth : acE M (ev M n) k t nm v ob σ = arE 22 (-6) σ := by { unfold acE; rw [if_neg (by omega), if_pos hr] }
      rw [eth]
      exact V_iret dX3_perform_45 (Nat.le_of_ble_eq_true rfl) (Nat.le_of_ble_eq_true rfl) ⟨_, rfl, TQ.sfm fM25 (TQ_ar w hW DM25 hM42.1 hM42.2.1 hM42.2.2)⟩
  · refine V_aload_n (q := 10) dX3_perform_9 rfl rfl rfl ?_
    refine V_aload_n (q := 11) dX3_perform_10 rfl rfl rfl ?_
    refine V_getI (q := 14) 3 dX3_perform_11 rfl flX3_35 (by omega) (congrArg Prod.fst (show _ = (1, 0) by rw [ha.1])) rfl rfl (fun z11 ez11 rz11 => ?_)
    rw [ha.2.2.2.2] at ez11
    obtain rfl : v = z11 := ez11.symm
    refine V_bipush (q := 16) dX3_perform_14 rfl (by decide) ?_
    refine V_chVi (q := 19) (As := [(0, v), (0, (-6))]) (tX3_arise T (by omega) (by omega)) dX3_perform_16 rfl mlX3_38 mw_X3_arise im_X3_arise sl_X3_arise md_X3_arise rfl (by decide) (by decide) (congrArg Prod.fst (show _ = (4, 0) by rw [T.2.2.2.1.1])) rfl rfl (show _ + 1 ≤ 2 * n + 51 by omega) (show 8 + (3 + 11) + 64 * _ ≤ 64 * (2 * n + 51) by omega) (Nat.le_of_ble_eq_true rfl) (Nat.le_of_ble_eq_true rfl) (Nat.le_of_ble_eq_true rfl) (fun z16 rz16 A16 M16 xM16 hM16 => ?_)
    obtain ⟨hA, hM16⟩ := hM16
    replace hA := hA.symm
    subst hA
    have eth : acE M (ev M n) k t nm v ob σ = arE v (-6) σ := by { unfold acE; rw [if_pos (by omega)] }
    rw [eth]
    exact V_iret dX3_perform_19 (Nat.le_of_ble_eq_true rfl) (Nat.le_of_ble_eq_true rfl) ⟨_, rfl, TQ_ar w hW D hM16.1 hM16.2.1 hM16.2.2⟩
