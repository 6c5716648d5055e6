/-! THE CLASS'S TOUCH: what is started ahead of a start; its body -/
theorem seqF_cons (g : EvT) (ob x : Int) (l : List Int) (σ : Mem) : seqF g ob (x :: l) σ = if (g true x ob σ).1 = -6 then seqF g ob l (g true x ob σ).2 else g true x ob σ := rfl
theorem drop_cons {l : List Int} {i : Int} (h0 : 0 ≤ i) (h1 : i < l.length) : l.drop i.toNat = l.getD i.toNat 0 :: l.drop (i + 1).toNat := by
  rw [show (i + 1).toNat = i.toNat + 1 by omega, List.getD_eq_getElem?_getD, List.getElem?_eq_getElem (by omega), Option.getD_some]
  exact List.drop_eq_getElem_cons (by omega)
theorem LG_in {M : Mem} (w : WFD M) {t : Int} (ht : 0 ≤ t ∧ t < M 0 0) (h1 : M 1 t ≠ 1) : ∀ x ∈ LG M t, 0 ≤ x ∧ x < M 0 0 := fun x hx => LF_all w ht.1 ht.2 x (by rw [LF_LG h1]; exact List.mem_append_right _ hx)
/-- where startFirsts stands: q so far, the places of its row from i on still to come -/
def FsI (Γ : GC) (B : Int) (M : Mem) (W : Int) (α : Sh) (n : Nat) (ob t Tt : Int) (σ μ m : Mem) (f i : Int) (q : Int × Mem) : Prop :=
  TQ M W α t σ μ q f α m ∧ (m Tt 13 = (LG M t).length ∧ ∀ k : Int, 0 ≤ k → k < (LG M t).length → m (Tt + 7) k = (LG M t).getD k.toNat 0) ∧ (0 ≤ i ∧ i ≤ (LG M t).length) ∧
  (q.1 = -6 → seqF (ev M n) ob (LF M t) σ = seqF (ev M n) ob ((LG M t).drop i.toNat) q.2) ∧ (q.1 ≠ -6 → seqF (ev M n) ob (LF M t) σ = q) ∧ (q.1 = -6 → INV B M q.2 ∧ q.2 47 0 ≤ 40 ∧ slk B 0 q.2) ∧ Un M q.2 ≤ Un M σ ∧ q.2 28 t ≠ 0
theorem tX3_startFirsts {Γ : GC} {α : Sh} {μ : Mem} {B W ob os : Int} {n : Nat} {σ : Mem} {M : Mem} (w : WFD M) (D : DesR M α μ) {t Tt : Int} (hS : STC Γ B M W α n) (T : TR M σ W α μ) (ht : 0 ≤ t ∧ t < M 0 0) (eT : Tt = tk t) (hnz : σ 28 t ≠ 0) (hP : PR B M n ob os σ) (hs : slk B 0 σ) : MT Γ yX3_startFirsts cX3_startFirsts 6 (some .int) (2 * n + 51) 0 0 [(3, 150), (3, Tt), (0, ob), (0, os)] α μ (QI (TQ M W α t σ μ (seqF (ev M n) ob (LF M t) σ))) := by
  have hn := w.n
  have hW := T.1
  obtain ⟨pb, po, pf, pI, p47, pB⟩ := id hP
  have hi := pI.2.2.2
  have hTt : Tt = 1000 * (t + 1) := eT
  obtain ⟨kTt, yTt⟩ := D.2.2.1 t ht.1 ht.2
  rw [← eT] at kTt
  unfold TypR at yTt
  rw [← eT] at yTt
  refine MT_of (k := 2) [(3, 150), (3, Tt), (0, ob), (0, os), (9, 0), (9, 0)] pn_X3_startFirsts rfl rfl (fun ad0 => ?_)
  have loop : M 1 t ≠ 1 → (LG M t).length ≤ 40 → ∀ (m : Mem) (f i : Int) (q : Int × Mem), FsI Γ B M W α n ob t Tt σ μ m f i q → V Γ α ad0 (ZM Γ α ad0 (QI (TQ M W α t σ μ (seqF (ev M n) ob (LF M t) σ))) 0 0) (RM (2 * n + 51) 0 0) RX3 cX3_startFirsts 6 (some .int) yX3_startFirsts.name 45 [] [(3, 150), (3, Tt), (0, ob), (0, os), (0, f), (0, i)] α m 0 0 := by
    intro hf1 hl40
    refine loop4 _ (fun _ _ i _ => (LG M t).length - i.toNat) _ ?_
    rintro m f i q ⟨hQ, hrow, hi2, hq1, hq2, hq3, hq4, hq5⟩ ih
    obtain ⟨-, Fm, Dm, Tm, Km, hfq⟩ := id hQ
    obtain ⟨kTt, yTt⟩ := Dm.2.2.1 t ht.1 ht.2
    rw [← eT] at kTt
    unfold TypR at yTt
    rw [← eT] at yTt
    refine V_iload (q := 47) dX3_startFirsts_45 rfl rfl ?_
    refine V_aload_n (q := 48) dX3_startFirsts_47 rfl rfl rfl ?_
    refine V_getI (q := 51) 13 dX3_startFirsts_48 rfl flX3_117 (by omega) (congrArg Prod.fst (show _ = (5, 0) by rw [yTt.1.1.1])) rfl rfl (fun z48 ez48 rz48 => ?_)
    rw [hrow.1] at ez48
    refine V_icmp_ge (q := 54) (tgt := 82) dX3_startFirsts_51 (by decide) rfl (fun c51 => ?_) (fun c51 => ?_)
    · refine V_iload (q := 84) dX3_startFirsts_82 rfl rfl ?_
      have eth : seqF (ev M n) ob (LF M t) σ = q := by { rcases (show q.1 = -6 ∨ q.1 ≠ -6 by omega) with a | a; · { rw [hq1 a, List.drop_eq_nil_of_le (by omega)]; show (-6, q.2) = q; rw [← a] }; · { exact hq2 a } }
      rw [eth]
      exact V_iret dX3_startFirsts_84 (Nat.le_of_ble_eq_true rfl) (Nat.le_of_ble_eq_true rfl) ⟨_, rfl, hQ⟩
    · refine V_iload (q := 56) dX3_startFirsts_54 rfl rfl ?_
      refine V_bipush (q := 58) dX3_startFirsts_56 rfl (by decide) ?_
      refine V_icmp_ne (q := 61) (tgt := 82) dX3_startFirsts_58 (by decide) rfl (fun c58 => ?_) (fun c58 => ?_)
      · refine V_iload (q := 84) dX3_startFirsts_82 rfl rfl ?_
        have eth : seqF (ev M n) ob (LF M t) σ = q := by { rcases (show q.1 = -6 ∨ q.1 ≠ -6 by omega) with a | a; · { rw [hq1 a, List.drop_eq_nil_of_le (by omega)]; show (-6, q.2) = q; rw [← a] }; · { exact hq2 a } }
        rw [eth]
        exact V_iret dX3_startFirsts_84 (Nat.le_of_ble_eq_true rfl) (Nat.le_of_ble_eq_true rfl) ⟨_, rfl, hQ⟩
      · refine V_aload_n (q := 62) dX3_startFirsts_61 rfl rfl rfl ?_
        refine V_aload_n (q := 63) dX3_startFirsts_62 rfl rfl rfl ?_
        refine V_getA (q := 66) 12 dX3_startFirsts_63 rfl flX3_120 (by omega) (congrArg Prod.fst (show _ = (5, 0) by rw [yTt.1.1.1])) rfl rfl (fun z63 ez63 rz63 => ?_)
        rw [yTt.1.2.2.2.2.2.2.1] at ez63
        obtain rfl : z63 = (Tt + 7) := ez63
        refine V_iload (q := 68) dX3_startFirsts_66 rfl rfl ?_
        refine V_iald (q := 69) (n := 40) dX3_startFirsts_68 rfl (by omega) (by rw [yTt.1.1.2.2.2.2.2.2.2]) (by omega) (fun z68 ez68 rz68 => ?_)
        rw [hrow.2 i (by omega) (by omega)] at ez68
        refine V_iload_n (q := 70) dX3_startFirsts_69 rfl rfl rfl ?_
        refine V_iload_n (q := 71) dX3_startFirsts_70 rfl rfl rfl ?_
        have hq6 : q.1 = -6 := by omega
        obtain ⟨g1, g2, g3⟩ := hq3 hq6
        have hPq : PR B M n ob os q.2 := ⟨pb, ⟨po.1, by omega⟩, by omega, g1, g2, pB⟩
        have hxr : 0 ≤ z68 ∧ z68 < M 0 0 := by { rw [ez68]; exact LG_in w ht hf1 _ (by { rw [List.getD_eq_getElem?_getD, List.getElem?_eq_getElem (by omega), Option.getD_some]; exact List.getElem_mem _ }) }
        refine V_chVi (q := 74) (As := [(0, z68), (0, ob), (0, os)]) (hS q.2 m z68 ob os Dm Tm hxr hPq g3) dX3_startFirsts_71 rfl mlX3_48 mw_X3_startType im_X3_startType sl_X3_startType md_X3_startType rfl (by decide) (by decide) (congrArg Prod.fst (show _ = (4, 0) by rw [T.2.2.2.1.1])) rfl rfl (show _ + 1 ≤ 2 * n + 51 by omega) (show 8 + (6 + 11) + 64 * _ ≤ 64 * (2 * n + 51) by omega) (Nat.le_of_ble_eq_true rfl) (Nat.le_of_ble_eq_true rfl) (Nat.le_of_ble_eq_true rfl) (fun z71 rz71 A71 M71 xM71 hM71 => ?_)
        obtain ⟨hA, hM71⟩ := hM71
        replace hA := hA.symm
        subst hA
        have hgd := ev_good w n true z68 ob 0 q.2 (fun _ => hxr) (fun a => absurd a (by decide)) pb.1 (by decide) g1 g2 g3
        have hc : seqF (ev M n) ob (LF M t) σ = if (ev M n true z68 ob q.2).1 = -6 then seqF (ev M n) ob ((LG M t).drop (i + 1).toNat) (ev M n true z68 ob q.2).2 else ev M n true z68 ob q.2 := by { rw [hq1 hq6, drop_cons hi2.1 (by omega), seqF_cons, ← ez68] }
        obtain ⟨q1, eq1⟩ : ∃ q1 : Int × Mem, ev M n true z68 ob q.2 = q1 := ⟨_, rfl⟩
        rw [eq1] at hM71 hgd hc
        have hk := hM71.2.2.2.1 t ht.1 ht.2 (by omega) hq5
        rw [← eT] at hk
        have hQ1 : TQ M W α t σ μ q1 z71 α M71 := hQ.trans ⟨rfl, hM71.1, hM71.2.1, hM71.2.2.1, hM71.2.2.2.1.weak, hM71.2.2.2.2⟩
        refine V_istore (q := 76) (lv1 := [(3, 150), (3, Tt), (0, ob), (0, os), (0, z71), (0, i)]) dX3_startFirsts_74 rfl (by decide) rfl rfl ?_
        refine V_iinc (q := 79) dX3_startFirsts_76 rfl rfl (by decide) rfl (by omega) (fun z76 lz76 ez76 hlz76 => ?_)
        obtain rfl : lz76 = [(3, 150), (3, Tt), (0, ob), (0, os), (0, z71), (0, z76)] := hlz76
        refine V_goto (tgt := 45) dX3_startFirsts_79 (by decide) ?_
        exact ih M71 z71 z76 q1 ⟨hQ1, ⟨by rw [hk.2.1]; exact hrow.1, fun k a b => by rw [hk.2.2]; exact hrow.2 k a b⟩, ⟨by omega, by omega⟩, fun a => by { rw [hc, if_pos a, show z76 = i + 1 by omega] }, fun a => by rw [hc, if_neg a], fun a => by { have g5 := hgd.2.2.2.2.1 (by omega); exact ⟨hgd.1, g5.1, g5.2⟩ }, by { have := hgd.2.1; omega }, hk.1⟩ (by omega)
  refine V_aload_n (q := 1) dX3_startFirsts_0 rfl rfl rfl ?_
  refine V_getZ (q := 4) 0 dX3_startFirsts_1 rfl flX3_106 (by omega) (congrArg Prod.fst (show _ = (5, 0) by rw [yTt.1.1.1])) rfl rfl (fun z1 ez1 rz1 => ?_)
  rw [yTt.2.1.1] at ez1
  refine V_if_eq (q := 7) (tgt := 10) dX3_startFirsts_4 (by decide) rfl (fun c4 => ?_) (fun c4 => ?_)
  · refine V_aload_n (q := 11) dX3_startFirsts_10 rfl rfl rfl ?_
    refine V_getI (q := 14) 2 dX3_startFirsts_11 rfl flX3_110 (by omega) (congrArg Prod.fst (show _ = (5, 0) by rw [yTt.1.1.1])) rfl rfl (fun z11 ez11 rz11 => ?_)
    rw [yTt.2.1.2.2.1] at ez11
    refine V_if_lt (q := 17) (tgt := 30) dX3_startFirsts_14 (by decide) rfl (fun c14 => ?_) (fun c14 => ?_)
    · refine V_bipush (q := 32) dX3_startFirsts_30 rfl (by decide) ?_
      refine V_istore (q := 34) (lv1 := [(3, 150), (3, Tt), (0, ob), (0, os), (0, (-6)), (9, 0)]) dX3_startFirsts_32 rfl (by decide) rfl rfl ?_
      refine V_aload_n (q := 35) dX3_startFirsts_34 rfl rfl rfl ?_
      refine V_getA (q := 38) 0 dX3_startFirsts_35 rfl flX3_15 (by decide) (congrArg Prod.fst (show _ = (4, 0) by rw [T.2.2.2.1.1])) rfl rfl (fun z35 ez35 rz35 => ?_)
      rw [T.2.2.2.1.2.1] at ez35
      obtain rfl : z35 = 110 := ez35
      refine V_aload_n (q := 39) dX3_startFirsts_38 rfl rfl rfl ?_
      refine V_chV (q := 42) (As := [(3, Tt)]) (tX2_orderFirsts w D ht eT) dX3_startFirsts_39 rfl mlX3_113 mw_X2_orderFirsts im_X2_orderFirsts sl_X2_orderFirsts md_X2_orderFirsts rfl (by decide) (by decide) (congrArg Prod.fst (show _ = (3, 0) by rw [D.1.1.1])) rfl rfl (show _ + 1 ≤ 2 * n + 51 by omega) (show 8 + (5 + 11) + 64 * _ ≤ 64 * (2 * n + 51) by omega) (Nat.le_of_ble_eq_true rfl) (Nat.le_of_ble_eq_true rfl) (Nat.le_of_ble_eq_true rfl) (fun A39 M39 xM39 hM39 => ?_)
      obtain ⟨hA, fM39, hM39⟩ := hM39
      replace hA := hA.symm
      subst hA
      refine V_iconst (q := 43) dX3_startFirsts_42 rfl (by decide) ?_
      refine V_istore (q := 45) (lv1 := [(3, 150), (3, Tt), (0, ob), (0, os), (0, (-6)), (0, 0)]) dX3_startFirsts_43 rfl (by decide) rfl rfl ?_
      have h3 : M 3 t < 0 := by { rcases (show M 3 t < 0 ∨ ¬ M 3 t < 0 by omega) with q | q; · { exact q }; · { rw [if_neg q] at ez11; have := (w.above t ht.1 ht.2).1; omega } }
      exact loop (by omega) hM39.2.1 M39 (-6) 0 (-6, σ) ⟨⟨rfl, (fM39.sf hTt ht.1).tf, fM39.des hTt ht.1 w D, TR_SF T (fM39.sf hTt ht.1), KP.sf1 (by { rw [← eT]; exact fM39 }), rfl⟩, ⟨hM39.1, hM39.2.2⟩, ⟨by decide, by omega⟩, fun _ => by { rw [LF_LG (by omega), if_pos h3]; rfl }, fun a => absurd rfl a, fun _ => ⟨pI, p47, hs⟩, Int.le_refl _, hnz⟩
    · refine V_aload_n (q := 18) dX3_startFirsts_17 rfl rfl rfl ?_
      refine V_aload_n (q := 19) dX3_startFirsts_18 rfl rfl rfl ?_
      refine V_getI (q := 22) 2 dX3_startFirsts_19 rfl flX3_110 (by omega) (congrArg Prod.fst (show _ = (5, 0) by rw [yTt.1.1.1])) rfl rfl (fun z19 ez19 rz19 => ?_)
      rw [yTt.2.1.2.2.1] at ez19
      refine V_iload_n (q := 23) dX3_startFirsts_22 rfl rfl rfl ?_
      refine V_iload_n (q := 24) dX3_startFirsts_23 rfl rfl rfl ?_
      have h3 : ¬ M 3 t < 0 := by { intro q; rw [if_pos q] at ez19; omega }
      rw [if_neg h3] at ez19
      have hab := w.above t ht.1 ht.2
      have hxr : 0 ≤ z19 ∧ z19 < M 0 0 := by omega
      refine V_chVi (q := 27) (As := [(0, z19), (0, ob), (0, os)]) (hS σ μ z19 ob os D T hxr hP hs) dX3_startFirsts_24 rfl mlX3_48 mw_X3_startType im_X3_startType sl_X3_startType md_X3_startType rfl (by decide) (by decide) (congrArg Prod.fst (show _ = (4, 0) by rw [T.2.2.2.1.1])) rfl rfl (show _ + 1 ≤ 2 * n + 51 by omega) (show 8 + (6 + 11) + 64 * _ ≤ 64 * (2 * n + 51) by omega) (Nat.le_of_ble_eq_true rfl) (Nat.le_of_ble_eq_true rfl) (Nat.le_of_ble_eq_true rfl) (fun z24 rz24 A24 M24 xM24 hM24 => ?_)
      obtain ⟨hA, hM24⟩ := hM24
      replace hA := hA.symm
      subst hA
      have hgd := ev_good w n true z19 ob 0 σ (fun _ => hxr) (fun a => absurd a (by decide)) pb.1 (by decide) pI p47 hs
      have hc : seqF (ev M n) ob (LF M t) σ = if (ev M n true z19 ob σ).1 = -6 then seqF (ev M n) ob (LG M t) (ev M n true z19 ob σ).2 else ev M n true z19 ob σ := by { rw [LF_LG (by omega), if_neg h3, ← ez19]; exact seqF_cons _ _ _ _ _ }
      obtain ⟨q1, eq1⟩ : ∃ q1 : Int × Mem, ev M n true z19 ob σ = q1 := ⟨_, rfl⟩
      rw [eq1] at hM24 hgd hc
      have hk := hM24.2.2.2.1 t ht.1 ht.2 (by omega) hnz
      have hQ1 : TQ M W α t σ μ q1 z24 α M24 := ⟨rfl, hM24.1, hM24.2.1, hM24.2.2.1, hM24.2.2.2.1.weak, hM24.2.2.2.2⟩
      obtain ⟨-, FM24, DM24, TM24, KM24, eM24⟩ := id hQ1
      obtain ⟨kTt, yTt⟩ := DM24.2.2.1 t ht.1 ht.2
      rw [← eT] at kTt
      unfold TypR at yTt
      rw [← eT] at yTt
      refine V_goto (tgt := 32) dX3_startFirsts_27 (by decide) ?_
      refine V_istore (q := 34) (lv1 := [(3, 150), (3, Tt), (0, ob), (0, os), (0, z24), (9, 0)]) dX3_startFirsts_32 rfl (by decide) rfl rfl ?_
      refine V_aload_n (q := 35) dX3_startFirsts_34 rfl rfl rfl ?_
      refine V_getA (q := 38) 0 dX3_startFirsts_35 rfl flX3_15 (by decide) (congrArg Prod.fst (show _ = (4, 0) by rw [T.2.2.2.1.1])) rfl rfl (fun z35_2 ez35_2 rz35_2 => ?_)
      rw [TM24.2.2.2.1.2.1] at ez35_2
      obtain rfl : z35_2 = 110 := ez35_2
      refine V_aload_n (q := 39) dX3_startFirsts_38 rfl rfl rfl ?_
      refine V_chV (q := 42) (As := [(3, Tt)]) (tX2_orderFirsts w DM24 ht eT) dX3_startFirsts_39 rfl mlX3_113 mw_X2_orderFirsts im_X2_orderFirsts sl_X2_orderFirsts md_X2_orderFirsts rfl (by decide) (by decide) (congrArg Prod.fst (show _ = (3, 0) by rw [D.1.1.1])) rfl rfl (show _ + 1 ≤ 2 * n + 51 by omega) (show 8 + (5 + 11) + 64 * _ ≤ 64 * (2 * n + 51) by omega) (Nat.le_of_ble_eq_true rfl) (Nat.le_of_ble_eq_true rfl) (Nat.le_of_ble_eq_true rfl) (fun A39_2 M39_2 xM39_2 hM39_2 => ?_)
      obtain ⟨hA, fM39_2, hM39_2⟩ := hM39_2
      replace hA := hA.symm
      subst hA
      refine V_iconst (q := 43) dX3_startFirsts_42 rfl (by decide) ?_
      refine V_istore (q := 45) (lv1 := [(3, 150), (3, Tt), (0, ob), (0, os), (0, z24), (0, 0)]) dX3_startFirsts_43 rfl (by decide) rfl rfl ?_
      exact loop (by omega) hM39_2.2.1 M39_2 z24 0 q1 ⟨hQ1.trans ⟨rfl, (fM39_2.sf hTt ht.1).tf, fM39_2.des hTt ht.1 w DM24, TR_SF TM24 (fM39_2.sf hTt ht.1), KP.sf1 (by { rw [← eT]; exact fM39_2 }), eM24⟩, ⟨hM39_2.1, hM39_2.2.2⟩, ⟨by decide, by omega⟩, fun a => by { rw [hc, if_pos a]; rfl }, fun a => by rw [hc, if_neg a], fun a => by { have g5 := hgd.2.2.2.2.1 (by omega); exact ⟨hgd.1, g5.1, g5.2⟩ }, hgd.2.1, hk.1⟩
  · refine V_bipush (q := 9) dX3_startFirsts_7 rfl (by decide) ?_
    have eth : seqF (ev M n) ob (LF M t) σ = (-6, σ) := by { unfold LF; rw [if_pos (by omega)]; rfl }
    rw [eth]
    exact V_iret dX3_startFirsts_9 (Nat.le_of_ble_eq_true rfl) (Nat.le_of_ble_eq_true rfl) ⟨_, rfl, ⟨rfl, TF.rf, D, T, KP.rf, rfl⟩⟩
theorem tX3_runStart {Γ : GC} {α : Sh} {μ : Mem} {B W ob os : Int} {n : Nat} {σ : Mem} {M : Mem} (w : WFD M) (D : DesR M α μ) {t : Int} (hR : RBC Γ B M W α n) (T : TR M σ W α μ) (ht : 0 ≤ t ∧ t < M 0 0) (hP : PR B M n ob os σ) (hs : slk B 0 σ) (h39 : σ 32 0 + Un M σ ≤ 39) : MT Γ yX3_runStart cX3_runStart 4 (some .int) (2 * n + 51) 0 0 [(3, 150), (0, t), (0, ob), (0, os)] α μ (QI (TQ M W α (-1) σ μ (if 30 ≤ ob then (23, σ) else ev M n false (5 * t) ob (rowP t σ)))) := by
  have hn := w.n
  have hW := T.1
  obtain ⟨pb, po, pf, pI, p47, pB⟩ := id hP
  have hi := pI.2.2
  have hu0 := Un_0 M σ
  obtain ⟨T0, eT0⟩ : ∃ T0 : Int, T0 = tk t := ⟨_, rfl⟩
  have hT0 : T0 = 1000 * (t + 1) := eT0
  obtain ⟨kT0, yT0⟩ := D.2.2.1 t ht.1 ht.2
  rw [← eT0] at kT0
  unfold TypR at yT0
  rw [← eT0] at yT0
  refine MT_of (k := 0) [(3, 150), (0, t), (0, ob), (0, os)] pn_X3_runStart rfl rfl (fun ad0 => ?_)
  refine V_iload_n (q := 1) dX3_runStart_0 rfl rfl rfl ?_
  refine V_bipush (q := 3) dX3_runStart_1 rfl (by decide) ?_
  refine V_icmp_lt (q := 6) (tgt := 9) dX3_runStart_3 (by decide) rfl (fun c3 => ?_) (fun c3 => ?_)
  · refine V_aload_n (q := 10) dX3_runStart_9 rfl rfl rfl ?_
    refine V_getA (q := 13) 1 dX3_runStart_10 rfl flX3_19 (by decide) (congrArg Prod.fst (show _ = (4, 0) by rw [T.2.2.2.1.1])) rfl rfl (fun z10 ez10 rz10 => ?_)
    rw [T.2.2.2.1.2.2] at ez10
    obtain rfl : W = z10 := ez10.symm
    refine V_iload_n (q := 14) dX3_runStart_13 rfl rfl rfl ?_
    refine V_chV (q := 17) (As := [(0, t)]) (tX5_putInRow T (by omega) (by omega)) dX3_runStart_14 rfl mlX3_123 mw_X5_putInRow im_X5_putInRow sl_X5_putInRow md_X5_putInRow rfl (by decide) (by omega) (congrArg Prod.fst (show _ = (6, 0) by rw [T.2.1.1.1])) rfl rfl (show _ + 1 ≤ 2 * n + 51 by omega) (show 8 + (2 + 11) + 64 * _ ≤ 64 * (2 * n + 51) by omega) (Nat.le_of_ble_eq_true rfl) (Nat.le_of_ble_eq_true rfl) (Nat.le_of_ble_eq_true rfl) (fun A14 M14 xM14 hM14 => ?_)
    obtain ⟨hA, hM14⟩ := hM14
    replace hA := hA.symm
    subst hA
    have DM14 := hM14.1.des w hW D
    have h48 : mu (mu σ 33 (σ 32 0) t) 32 0 (σ 32 0 + 1) 48 0 = σ 48 0 := by rw [mu_ne (by omega), mu_ne (by omega)]
    obtain ⟨kT0, yT0⟩ := DM14.2.2.1 t ht.1 ht.2
    rw [← eT0] at kT0
    unfold TypR at yT0
    rw [← eT0] at yT0
    refine V_aload_n (q := 18) dX3_runStart_17 rfl rfl rfl ?_
    refine V_dup (q := 19) dX3_runStart_18 rfl (show (3 : Nat) ≠ 2 by decide) ?_
    refine V_getI (q := 22) 5 dX3_runStart_19 rfl flX3_126 (by decide) (congrArg Prod.fst (show _ = (4, 0) by rw [T.2.2.2.1.1])) rfl rfl (fun z19 ez19 rz19 => ?_)
    rw [(hM14.2.2.2.2.2.2.2.2.1.trans h48)] at ez19
    refine V_iconst (q := 23) dX3_runStart_22 rfl (by decide) ?_
    refine V_iadd (q := 24) dX3_runStart_23 rfl (by omega) (fun z23 ez23 => ?_)
    refine V_putI (q := 27) 5 dX3_runStart_24 rfl flX3_126 (Or.inl rfl) (by decide) (congrArg Prod.fst (show _ = (4, 0) by rw [T.2.2.2.1.1])) rfl rfl (fun M24 eM24 => ?_)
    refine V_aload_n (q := 28) dX3_runStart_27 rfl rfl rfl ?_
    refine V_aload_n (q := 29) dX3_runStart_28 rfl rfl rfl ?_
    refine V_getA (q := 32) 0 dX3_runStart_29 rfl flX3_15 (by decide) (congrArg Prod.fst (show _ = (4, 0) by rw [T.2.2.2.1.1])) rfl rfl (fun z29 ez29 rz29 => ?_)
    rw [eM24, mu_ne (by omega), hM14.2.2.2.2.1.2.1] at ez29
    obtain rfl : z29 = 110 := ez29
    refine V_getA (q := 35) 0 dX3_runStart_32 rfl flX3_52 (by decide) (congrArg Prod.fst (show _ = (3, 0) by rw [D.1.1.1])) rfl rfl (fun z32 ez32 rz32 => ?_)
    rw [eM24, mu_ne (by omega), DM14.1.2.1] at ez32
    obtain rfl : z32 = 111 := ez32
    refine V_iload_n (q := 36) dX3_runStart_35 rfl rfl rfl ?_
    refine V_aald (q := 37) (n := 40) (ta := 23) (ci := 4) dX3_runStart_36 rfl (by decide) (by rw [D.1.1.2.1]) rfl (by decide) (by omega) (fun z36 ez36 rz36 => ?_)
    rw [eM24, mu_ne (by omega), kT0] at ez36
    obtain rfl : T0 = z36 := ez36.symm
    refine V_getA (q := 40) 11 dX3_runStart_37 rfl flX3_129 (by omega) (congrArg Prod.fst (show _ = (5, 0) by rw [yT0.1.1.1])) rfl rfl (fun z37 ez37 rz37 => ?_)
    rw [eM24, mu_ne (by omega), yT0.1.2.2.2.2.2.1] at ez37
    obtain rfl : z37 = (T0 + 5) := ez37
    refine V_iload_n (q := 41) dX3_runStart_40 rfl rfl rfl ?_
    refine V_iload_n (q := 42) dX3_runStart_41 rfl rfl rfl ?_
    have hr := rowP_inv (t := t) pI h39
    have c28 : rowP t σ 28 = σ 28 := funext fun i => rowP_o (by decide) (by decide) (by decide)
    have hg : TWF W M14 M24 := by { rw [eM24]; exact TWF.put (by unfold tw; omega) }
    have DM24 := hg.des w hW DM14
    have TM24 : TR M (rowP t σ) W α M24 := by { rw [eM24, show z23 = σ 48 0 + 1 by omega]; exact TR_48 hM14.2 }
    have hPr : PR B M n ob os (rowP t σ) := ⟨pb, ⟨po.1, by rw [Un_same c28]; exact po.2⟩, by rw [Un_same c28]; exact pf, hr, by rw [rowP_o (by decide) (by decide) (by decide)]; exact p47, pB⟩
    have hsr : slk B 0 (rowP t σ) := by { unfold slk at hs ⊢; rw [rowP_o (by decide) (by decide) (by decide), rowP_o (by decide) (by decide) (by decide), rowP_o (by decide) (by decide) (by decide)]; exact hs }
    have hbt : bodT M (5 * t) (T0 + 5) (T0 + 100) := ⟨t, ht.1, ht.2, Or.inl ⟨rfl, by rw [eT0], by rw [eT0]⟩⟩
    refine V_chVi (q := 45) (As := [(3, (T0 + 5)), (0, ob), (0, os)]) (hR (rowP t σ) M24 (5 * t) _ _ ob os DM24 TM24 hbt hPr hsr) dX3_runStart_42 rfl mlX3_65 mw_X3_runBody im_X3_runBody sl_X3_runBody md_X3_runBody rfl (by decide) (by decide) (congrArg Prod.fst (show _ = (4, 0) by rw [T.2.2.2.1.1])) rfl rfl (show _ + 1 ≤ 2 * n + 51 by omega) (show 8 + (8 + 11) + 64 * _ ≤ 64 * (2 * n + 51) by omega) (Nat.le_of_ble_eq_true rfl) (Nat.le_of_ble_eq_true rfl) (Nat.le_of_ble_eq_true rfl) (fun z42 rz42 A42 M42 xM42 hM42 => ?_)
    obtain ⟨hA, hM42⟩ := hM42
    replace hA := hA.symm
    subst hA
    rw [if_neg (show ¬ 30 ≤ ob by omega)]
    exact V_iret dX3_runStart_45 (Nat.le_of_ble_eq_true rfl) (Nat.le_of_ble_eq_true rfl) ⟨_, rfl, TQ.twf hW (hM14.1.trans hg) (fun u hu => by rw [c28]; exact hu) ⟨rfl, hM42⟩⟩
  · refine V_bipush (q := 8) dX3_runStart_6 rfl (by decide) ?_
    rw [if_pos (show 30 ≤ ob by omega)]
    exact V_iret dX3_runStart_8 (Nat.le_of_ble_eq_true rfl) (Nat.le_of_ble_eq_true rfl) ⟨_, rfl, ⟨rfl, TF.rf, D, T, KP.rf, rfl⟩⟩
