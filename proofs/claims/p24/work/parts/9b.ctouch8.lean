/-! THE CLASS'S TOUCH: a Doing made and done -/
theorem tX3_init {Γ : GC} {α : Sh} {μ : Mem} {Dd W : Int} (h0 : α 150 = (4, 0)) (hD0 : 0 ≤ Dd) (hDs : (α Dd).1 = 3) (hW0 : 0 ≤ W) (hWs : (α W).1 = 6) : MT Γ yX3_init cX3_init 3 none 1 0 0 [(3, 150), (3, Dd), (3, W)] α μ (QN fun α1 μ1 => α1 = α ∧ (μ1 150 0 = Dd ∧ μ1 150 1 = W ∧ μ1 150 6 = -6) ∧ ∀ u i : Int, ¬ (u = 150 ∧ (i = 0 ∨ i = 1 ∨ i = 6)) → μ1 u i = μ u i) := by
  refine MT_of (k := 0) [(3, 150), (3, Dd), (3, W)] pn_X3_init rfl rfl (fun ad0 => ?_)
  refine V_aload_n (q := 1) dX3_init_0 rfl rfl rfl ?_
  refine V_objInit (q := 4) dX3_init_1 rfl mlX3_3 (by decide) (by decide) (by decide) ?_
  refine V_aload_n (q := 5) dX3_init_4 rfl rfl rfl ?_
  refine V_bipush (q := 7) dX3_init_5 rfl (by decide) ?_
  refine V_putI (q := 10) 6 dX3_init_7 rfl flX3_9 (Or.inl rfl) (by decide) (congrArg Prod.fst (show _ = (4, 0) by rw [h0])) rfl rfl (fun M7 eM7 => ?_)
  refine V_aload_n (q := 11) dX3_init_10 rfl rfl rfl ?_
  refine V_aload_n (q := 12) dX3_init_11 rfl rfl rfl ?_
  refine V_putA (q := 15) 0 dX3_init_12 rfl flX3_15 (Or.inr ⟨rfl, rfl, rfl⟩) (by decide) (congrArg Prod.fst (show _ = (4, 0) by rw [h0])) rfl rfl (fun M12 eM12 => ?_)
  refine V_aload_n (q := 16) dX3_init_15 rfl rfl rfl ?_
  refine V_aload_n (q := 17) dX3_init_16 rfl rfl rfl ?_
  refine V_putA (q := 20) 1 dX3_init_17 rfl flX3_19 (Or.inr ⟨rfl, rfl, rfl⟩) (by decide) (congrArg Prod.fst (show _ = (4, 0) by rw [h0])) rfl rfl (fun M17 eM17 => ?_)
  exact V_vret dX3_init_20 (Nat.le_of_ble_eq_true rfl) (Nat.le_of_ble_eq_true rfl) ⟨rfl, rfl, ⟨by rw [eM17, mu_ne (by decide), eM12, mu_s], by rw [eM17, mu_s], by rw [eM17, mu_ne (by decide), eM12, mu_ne (by decide), eM7, mu_s]⟩, fun u i h => by rw [eM17, mu_ne (by omega), eM12, mu_ne (by omega), eM7, mu_ne (by omega)]⟩
theorem tX3_doTouch {Γ : GC} {α : Sh} {μ : Mem} {B W : Int} {σ : Mem} {M : Mem} (w : WFD M) (D : DesR M α μ) {a k t nm v : Int} (hW : 200 ≤ W ∧ W ≤ 320) (sW : WoS W α μ) (hR : WrT M σ W μ) (hd : α 150 = (4, 0) ∧ μ 150 0 = 110 ∧ μ 150 1 = W) (hz : μ 150 3 = 0 ∧ μ 150 4 = 0 ∧ μ 150 5 = 0 ∧ μ 150 6 = -6) (hoa : okA a) (ha : AcR α μ a k t nm v) (hk : 1 ≤ k ∧ k ≤ 6) (ht : 0 ≤ t ∧ t < M 0 0) (hnm : 1 ≤ k → k ≤ 3 → 0 ≤ nm ∧ nm ≤ 9) (hP : PR B M 100 0 0 (beg σ)) (hs : slk B 1 (beg σ)) : MT Γ yX3_doTouch cX3_doTouch 2 (some .int) (252) 0 0 [(3, 150), (3, a)] α μ (QI (TQ M W α (-1) (beg σ) μ (tE M k t nm v σ))) := by
  refine MT_of (k := 0) [(3, 150), (3, a)] pn_X3_doTouch rfl rfl (fun ad0 => ?_)
  have hoa1 := hoa
  unfold okA at hoa1
  refine V_aload_n (q := 1) dX3_doTouch_0 rfl rfl rfl ?_
  refine V_iconst (q := 2) dX3_doTouch_1 rfl (by decide) ?_
  refine V_putI (q := 5) 2 dX3_doTouch_2 rfl flX3_23 (Or.inl rfl) (by decide) (congrArg Prod.fst (show _ = (4, 0) by rw [hd.1])) rfl rfl (fun M2 eM2 => ?_)
  refine V_aload_n (q := 6) dX3_doTouch_5 rfl rfl rfl ?_
  refine V_aload_n (q := 7) dX3_doTouch_6 rfl rfl rfl ?_
  refine V_iconst (q := 8) dX3_doTouch_7 rfl (by decide) ?_
  refine V_iconst (q := 9) dX3_doTouch_8 rfl (by decide) ?_
  have hg : TWF W μ M2 := by { rw [eM2]; exact TWF.put (by unfold tw; omega) }
  have hr : ∀ u i : Int, ¬ (u = 150 ∧ i = 2) → M2 u i = μ u i := fun u i h => by rw [eM2, mu_ne h]
  have TT : TR M (beg σ) W α M2 := ⟨hW, WoS_c (fun t a b => ⟨rfl, funext fun i => hr t i (by omega)⟩) sW, WrT_o hR (fun t a b => funext fun i => hr t i (by omega)) (fun k a b => by unfold beg; rw [mu_f _ _ _ _ (by omega), mu_f _ _ _ _ (by omega), mu_f _ _ _ _ (by omega), mu_f _ _ _ _ (by omega), mu_f _ _ _ _ (by omega)]), ⟨hd.1, by rw [hr _ _ (by omega)]; exact hd.2.1, by rw [hr _ _ (by omega)]; exact hd.2.2⟩, by rw [eM2, mu_s]; rfl, by rw [hr _ _ (by omega)]; exact hz.1, by rw [hr _ _ (by omega)]; exact hz.2.1, by rw [hr _ _ (by omega)]; exact hz.2.2.1, by rw [hr _ _ (by omega)]; exact hz.2.2.2⟩
  have ha1 := AcR_TF hW hoa ha hg.tf
  have D1 := hg.des w hW D
  refine V_chVi (q := 12) (As := [(3, a), (0, 0), (0, 0)]) (tX3_perform w D1 (touch_all w 100).1 (touch_all w 100).2 TT hoa ha1 (by omega) (fun _ _ => ht) hnm (fun q => by omega) hP hs) dX3_doTouch_9 rfl mlX3_26 mw_X3_perform im_X3_perform sl_X3_perform md_X3_perform rfl (by decide) (by decide) (congrArg Prod.fst (show _ = (4, 0) by rw [hd.1])) rfl rfl (show _ + 1 ≤ 252 by omega) (show 8 + (6 + 11) + 64 * _ ≤ 64 * (252) by omega) (Nat.le_of_ble_eq_true rfl) (Nat.le_of_ble_eq_true rfl) (Nat.le_of_ble_eq_true rfl) (fun z9 rz9 A9 M9 xM9 hM9 => ?_)
  obtain ⟨hA, hM9⟩ := hM9
  replace hA := hA.symm
  subst hA
  exact V_iret dX3_doTouch_12 (Nat.le_of_ble_eq_true rfl) (Nat.le_of_ble_eq_true rfl) ⟨_, rfl, TQ.twf hW hg (fun u hu => hu) ⟨rfl, hM9⟩⟩
/-- what always holds of the worlds; a touch may begin -/
def WFT (M : Mem) : Prop := ∀ x : Int, 0 ≤ x → x < M 17 0 → (∀ t : Int, 0 ≤ t → t < M 0 0 → 0 ≤ M 28 (40 * x + t) ∧ M 28 (40 * x + t) ≤ 3) ∧ (0 ≤ M 32 x ∧ M 32 x + Un M (vw M x) ≤ 40) ∧ 0 ≤ M 30 x
theorem beg_PR {M : Mem} {x : Int} (w : WFD M) (h : WFT M) (x0 : 0 ≤ x) (x1 : x < M 17 0) (hB : M 30 x ≤ 2000000000) : PR (M 30 x) M 100 0 0 (beg (vw M x)) ∧ slk (M 30 x) 1 (beg (vw M x)) := by
  obtain ⟨h1, h2, h3⟩ := h x x0 x1
  have hn := w.n
  have o : ∀ k : Int, 28 ≤ k → k ≤ 33 → beg (vw M x) k = vw M x k := fun k a b => by
    unfold beg
    rw [mu_f _ _ _ _ (by omega), mu_f _ _ _ _ (by omega), mu_f _ _ _ _ (by omega), mu_f _ _ _ _ (by omega), mu_f _ _ _ _ (by omega)]
  have hu : Un M (beg (vw M x)) = Un M (vw M x) := Un_same (o 28 (by decide) (by decide))
  have h0 := Un_0 M (vw M x)
  have e30 : beg (vw M x) 30 0 = M 30 x := by rw [o 30 (by decide) (by decide)]; rfl
  have e32 : beg (vw M x) 32 0 = M 32 x := by rw [o 32 (by decide) (by decide)]; rfl
  have e45 : beg (vw M x) 45 0 = 1 := rfl
  have e46 : beg (vw M x) 46 0 = 0 := rfl
  have e47 : beg (vw M x) 47 0 = 0 := rfl
  have e48 : beg (vw M x) 48 0 = 0 := rfl
  refine ⟨⟨⟨by decide, by decide⟩, ⟨by decide, by omega⟩, by omega, ⟨fun t t0 t1 => ?_, ?_, ?_, ?_, ?_, ?_, ?_⟩, ?_, h3, hB⟩, ?_⟩
  · rw [o 28 (by decide) (by decide)]; exact h1 t t0 t1
  · omega
  · omega
  · omega
  · omega
  · omega
  · omega
  · omega
  · unfold slk; omega
