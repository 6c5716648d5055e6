/-! BOTH TOUCHES: a whole action -/
theorem STi_7 {M : Mem} {t nm : Int} : ¬ 0 ≤ STi M 7 t nm := by
  have h : STi M 7 t nm = -6 := by
    unfold STi
    rw [RUi_o M t nm (by decide) (by decide) (by decide) (by decide), if_neg (by decide), if_neg (by decide), if_neg (by decide), if_neg (by decide)]
  rw [h]; decide
theorem acE_r {M σ : Mem} {g : EvT} {k t nm v ob : Int} (hr : ¬ RUi M k t nm = 1) (hs : ¬ 0 ≤ STi M k t nm) : acE M g k t nm v ob σ = rE M g k t nm v ob σ := by
  unfold acE rE
  by_cases k7 : k = 7
  · rw [if_pos k7, if_pos k7]
  · rw [if_neg k7, if_neg k7, if_neg hr]
    simp only [if_neg hs, if_true]
theorem acE_s {M σ : Mem} {g : EvT} {k t nm v ob : Int} (hr : ¬ RUi M k t nm = 1) (hs : 0 ≤ STi M k t nm) : acE M g k t nm v ob σ = if (g true (STi M k t nm) ob σ).1 = -6 then rE M g k t nm v ob (g true (STi M k t nm) ob σ).2 else g true (STi M k t nm) ob σ := by
  have k7 : k ≠ 7 := fun q => by rw [q] at hs; exact STi_7 hs
  unfold acE rE
  rw [if_neg k7, if_neg k7, if_neg hr]
  simp only [if_pos hs]
theorem acE_22 {M σ : Mem} {g : EvT} {k t nm v ob : Int} (hr : RUi M k t nm = 1) : acE M g k t nm v ob σ = arE 22 (-6) σ := by
  have k7 : k ≠ 7 := fun q => by rw [q, RUi_o M t nm (by decide) (by decide) (by decide) (by decide)] at hr; exact absurd hr (by decide)
  unfold acE
  rw [if_neg k7, if_pos hr]
/-- a body's turn that stands ahead of an action, or at the end -/
theorem gok_turn {G Q : Mem → Prop} {B : Int} {M0 Mb M σ : Mem} {x f ob o i c k t nm v : Int} {n : Nat} (C : CTX G Q B M0 x n) (hi : INV B M0 σ) (h : INS M0 x f ob Mb M σ) (h50 : M 50 0 = 0) (hf : FRs f o i c 0 0 M) (ok : FOK f ob o i)
    (hsz : i ≠ (if o < 0 then 1 else M0 12 o) → 0 ≤ o → i ≤ 11) (hA : ATq M0 o i k t nm v) (hk : i ≠ (if o < 0 then 1 else M0 12 o) → 1 ≤ k → k ≤ 6 → 0 ≤ t ∧ t < M0 0 0)
    (kont : ∀ M1, gokP k t nm v f M M1 → G M1) : G M := by
  obtain ⟨hM, w, hx, hB, -⟩ := C
  have hp := preB_of w hx hB hi h hf ok (fun q => absurd rfl q) hsz hA (fun q => hk (q.resolve_left (fun z => z rfl))) (fun q => absurd rfl q)
  obtain ⟨hr, h38, h44, h49, hb⟩ := h
  obtain ⟨f1, f2, f3, f4, f5, f6⟩ := hf
  have ok1 := ok.1
  exact hM.2.2.2 M k t nm v f (by omega) h49 h50 (by rw [h38, show f + 1 - 1 = f by omega]; exact f1) hp kont
theorem INS_45 {M0 Mb M σ : Mem} {x f ob : Int} (h : INS M0 x f ob Mb M σ) : INS M0 x f ob Mb (mu M 45 0 (M 45 0 + 1)) (mu σ 45 0 (σ 45 0 + 1)) := by
  obtain ⟨a, b, c, d, e⟩ := h
  have c45 := a.2.2.2.2.2.1
  refine ⟨?_, (mu_ne (by omega)).trans b, (mu_ne (by omega)).trans c, (mu_ne (by omega)).trans d, e.trans (BLW_c (fun k hk => mu_f _ _ _ _ (by omega)))⟩
  rw [← c45]
  exact RSg_45 a
theorem act_ok {G Q : Mem → Prop} {B : Int} {M0 Mb M σ : Mem} {x f ob o i c k t nm v : Int} {n : Nat} (C : CTX G Q B M0 x n) (hi : INV B M0 σ) (hp : PRr B M0 n ob (f + 1) (mu σ 45 0 (σ 45 0 + 1))) (hs1 : slk B 1 (mu σ 45 0 (σ 45 0 + 1))) (h : INS M0 x f ob Mb M σ) (h50 : M 50 0 = 0) (hf : FRs f o i c 0 0 M) (ok : FOK f ob o i)
    (hne : i ≠ (if o < 0 then 1 else M0 12 o)) (h11 : 0 ≤ o → i ≤ 11) (hA : ATq M0 o i k t nm v) (hk : 1 ≤ k → k ≤ 6 → 0 ≤ t ∧ t < M0 0 0) (h7 : k = 7 → 0 ≤ v ∧ v ≤ 22) (h45 : σ 45 0 < 1000) (k8 : k ≠ 8)
    (kont : ∀ M1, ACq M0 x f ob Mb o i c (acE M0 (ev M0 n) k t nm v ob (mu σ 45 0 (σ 45 0 + 1))) M1 → G M1) : G M := by
  obtain ⟨hM, w, hx, hB, hSs, hSb⟩ := id C
  refine gok_turn C hi h h50 hf ok (fun _ => h11) hA (fun _ => hk) (fun M1 hg => ?_)
  have sd := h.1.1.sd
  have c45 := h.1.2.2.2.2.2.1
  have hsz : M 41 f ≠ szM M f := by
    unfold szM
    rw [hf.2.2.1, hf.2.1, sd 12 (by decide) (by decide)]
    exact hne
  have keep : ∀ Ms, SCb (mu M 45 0 (M 45 0 + 1)) Ms → INS M0 x f ob Mb Ms (mu σ 45 0 (σ 45 0 + 1)) ∧ FRs f o i c 0 0 Ms ∧ Ms 50 0 = 0 := fun Ms hs => by
    refine ⟨INS_s (INS_45 h) hs, FRs_s (FRs_c hf (fun k hk => mu_f _ _ _ _ (by omega))) hs, ?_⟩
    rw [hs 50 (by decide) (by decide), mu_ne (by omega)]; exact h50
  have i1 := hp.2.2.2.1
  have h47 := hp.2.2.2.2.1
  rcases hg with ⟨g, _⟩ | ⟨_, g, _⟩ | ⟨_, _, g, _⟩ | ⟨_, _, _, g, _⟩ | ⟨_, _, _, _, hr, Ms, hs, rfl⟩ | ⟨_, _, _, _, hr, Ms, hs, rfl⟩
  · exact absurd hf.2.2.2.2.1 g
  · exact absurd g hsz
  · exfalso; omega
  · exact absurd g k8
  · rw [SD_RUi sd] at hr
    obtain ⟨k1, k2, k3⟩ := keep Ms hs
    rw [acE_22 hr] at kont
    have hE := END_fail (n := 22) (of := -6) k1.1 k1.2.1 k1.2.2.1 k1.2.2.2.1 (BLW.rf (f := f + 1)) h47 ⟨by decide, by decide⟩
    rcases END_in hE k1.2.2.2.2 with ho | ⟨hb, ⟨q6, -, -⟩ | hup⟩
    · exact kont _ (Or.inl ho)
    · exfalso
      rcases arE_1 (n := 22) (of := -6) (σ := mu σ 45 0 (σ 45 0 + 1)) with q | q <;> omega
    · have hf1 := k2.bl hb
      exact kont _ (Or.inr (Or.inr ⟨hup, hf1.1, hf1.2.1, hf1.2.2.1, hf1.2.2.2.1⟩))
  · rw [SD_RUi sd] at hr
    rw [SD_STi sd]
    obtain ⟨k1, k2, k3⟩ := keep Ms hs
    have m1 : INS M0 x f ob Mb (mu Ms 43 f 1) (mu σ 45 0 (σ 45 0 + 1)) := INS_c k1 (fun k hk => mu_f _ _ _ _ (by omega)) (fun j hj => ⟨mu_ne (by omega), mu_ne (by omega), mu_ne (by omega), mu_ne (by omega), mu_ne (by omega), mu_ne (by omega)⟩)
    have m2 : FRs f o i c 1 0 (mu Ms 43 f 1) := by
      obtain ⟨a1, a2, a3, a4, a5, a6⟩ := k2
      exact ⟨(mu_ne (by omega)).trans a1, (mu_ne (by omega)).trans a2, (mu_ne (by omega)).trans a3, (mu_ne (by omega)).trans a4, mu_s _ _ _ _, (mu_ne (by omega)).trans a6⟩
    have m3 : mu Ms 43 f 1 50 0 = 0 := (mu_ne (by omega)).trans k3
    by_cases hst : 0 ≤ STi M0 k t nm
    · rw [if_pos hst]
      have hrg : 0 ≤ STi M0 k t nm ∧ STi M0 k t nm < M0 0 0 := (STi_rng w hk).resolve_left (by omega)
      have hgd := ev_good (B := B) w n true (STi M0 k t nm) ob 1 (mu σ 45 0 (σ 45 0 + 1)) (fun _ => hrg) (fun q => absurd q (by decide)) hp.1.1 (by decide) i1 h47 hs1
      have he := acE_s (g := ev M0 n) (ob := ob) (v := v) (σ := mu σ 45 0 (σ 45 0 + 1)) hr hst
      refine hSs (STi M0 k t nm) (f + 1) ob (mu Ms 43 f 1) _ hrg ⟨m1.1, m1.2.1, m1.2.2.1, m1.2.2.2.1, m3⟩ hp (fun M1 hE => ?_)
      revert hE hgd he
      generalize ev M0 n true (STi M0 k t nm) ob (mu σ 45 0 (σ 45 0 + 1)) = q
      intro hgd he hE
      rw [he] at kont
      rcases END_in hE m1.2.2.2.2 with ho | ⟨hb, ⟨q6, hin, q50⟩ | hup⟩
      · rw [if_neg (by rw [ho.1]; decide)] at kont
        exact kont M1 (Or.inl ho)
      · rw [if_pos q6] at kont
        have h5 := hgd.2.2.2.2.1 (by rw [q6]; decide)
        have hu := hgd.2.1
        refine beh_0 C ⟨hp.1, ⟨by have := hp.2.1; omega, by have := hp.2.1; omega⟩, by have := hp.2.2.1; omega, hgd.1, h5.1, hB, slk_1 h5.2⟩ hin q50 (m2.bl hb) ok h11 hA hk h7 hr kont
      · rw [if_neg (by have := hup.1; omega)] at kont
        have hf1 := m2.bl hb
        exact kont M1 (Or.inr (Or.inr ⟨hup, hf1.1, hf1.2.1, hf1.2.2.1, hf1.2.2.2.1⟩))
    · rw [if_neg hst]
      rw [acE_r hr hst] at kont
      exact beh_0 C hp m1 m3 m2 ok h11 hA hk h7 hr kont
