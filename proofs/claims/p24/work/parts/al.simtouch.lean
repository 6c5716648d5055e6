/-! BOTH TOUCHES: the touch itself -/
theorem ev_sd {M M1 : Mem} (h : SD M M1) : ∀ n : Nat, ev M1 n = ev M n := by
  intro n
  induction n with
  | zero => rfl
  | succ n ih =>
    have hth : ∀ (k t nm v : Int) (σ : Mem), thE M1 k t nm v σ = thE M k t nm v σ := fun k t nm v σ => by
      unfold thE
      rw [SD_FF h, h 8 (by decide) (by decide), h 9 (by decide) (by decide)]
    have hac : ∀ (g : EvT) (k t nm v ob : Int) (σ : Mem), acE M1 g k t nm v ob σ = acE M g k t nm v ob σ := fun g k t nm v ob σ => by
      unfold acE
      rw [SD_RUi h, SD_STi h, SD_FM h]
      simp only [hth]
    have htk : ∀ (b fc i : Int) (q : Int × Mem), tkE M1 b fc i q = tkE M b fc i q := fun b fc i q => by
      unfold tkE
      rw [anC_c (h 16 (by decide) (by decide))]
    have hbd : ∀ (g : EvT) (b ob : Int) (kk : Nat) (i fc : Int) (σ : Mem), bdL M1 g b ob kk i fc σ = bdL M g b ob kk i fc σ := by
      intro g b ob kk
      induction kk with
      | zero => intro i fc σ; rfl
      | succ kk ihk =>
        intro i fc σ
        unfold bdL
        simp only [ihk, hac, htk, h 13 (by decide) (by decide), h 14 (by decide) (by decide), h 15 (by decide) (by decide), h 16 (by decide) (by decide)]
    funext s x ob σ
    cases s with
    | true =>
      show stE M1 (ev M1 n) x ob σ = stE M (ev M n) x ob σ
      unfold stE
      rw [ih, SD_LF h]
    | false =>
      show bdE M1 (ev M1 n) x ob σ = bdE M (ev M n) x ob σ
      unfold bdE
      rw [ih, hbd, h 12 (by decide) (by decide)]
theorem acE_sd {M M1 : Mem} (h : SD M M1) {g : EvT} {k t nm v ob : Int} {σ : Mem} : acE M1 g k t nm v ob σ = acE M g k t nm v ob σ := by
  have hth : ∀ (k t nm v : Int) (σ : Mem), thE M1 k t nm v σ = thE M k t nm v σ := fun k t nm v σ => by
    unfold thE
    rw [SD_FF h, h 8 (by decide) (by decide), h 9 (by decide) (by decide)]
  unfold acE
  rw [SD_RUi h, SD_STi h, SD_FM h]
  simp only [hth]
/-- where the machine stands at the touch's end -/
def TND (M0 : Mem) (x : Int) (q : Int × Mem) (M1 : Mem) : Prop :=
  (q.1 ≠ 23 ∧ M1 49 0 = 0 ∧ RSg M0 x M1 q.2 ∧ ((q.1 = -6 ∧ M1 50 0 = 0) ∨ (0 ≤ q.1 ∧ M1 50 0 = 1 ∧ M1 51 0 = q.1 ∧ M1 52 0 = q.2 52 0))) ∨ OVq M0 x q M1
theorem goM_o {M : Mem} {x k t nm v u : Int} (h : u < 37 ∨ 57 < u) : goM M x k t nm v u = M u := by
  funext i
  unfold goM
  rw [mu_ne (by omega), mu_ne (by omega), mu_ne (by omega), mu_ne (by omega), mu_ne (by omega), mu_ne (by omega), mu_ne (by omega), mu_ne (by omega), mu_ne (by omega), mu_ne (by omega), mu_ne (by omega), mu_ne (by omega), mu_ne (by omega), mu_ne (by omega), mu_ne (by omega), mu_ne (by omega), mu_ne (by omega), mu_ne (by omega), mu_ne (by omega), mu_ne (by omega)]
theorem goM_at {M : Mem} {x k t nm v : Int} : (goM M x k t nm v 37 0 = x ∧ goM M x k t nm v 38 0 = 1 ∧ goM M x k t nm v 44 0 = 0 ∧ goM M x k t nm v 45 0 = 0 ∧ goM M x k t nm v 46 0 = 0 ∧ goM M x k t nm v 47 0 = 0 ∧ goM M x k t nm v 48 0 = 0 ∧ goM M x k t nm v 49 0 = 0 ∧ goM M x k t nm v 50 0 = 0) ∧
    (goM M x k t nm v 53 0 = k ∧ goM M x k t nm v 54 0 = t ∧ goM M x k t nm v 55 0 = nm ∧ goM M x k t nm v 56 0 = v) ∧ FRs 0 (-1) 0 (-6) 0 0 (goM M x k t nm v) := by
  unfold FRs goM
  refine ⟨⟨?_, ?_, ?_, ?_, ?_, ?_, ?_, ?_, ?_⟩, ⟨?_, ?_, ?_, ?_⟩, ?_, ?_, ?_, ?_, ?_, ?_⟩ <;> rfl
/-- σ is how far the world x is -/
def VWa (M : Mem) (x : Int) (σ : Mem) : Prop := (∀ t : Int, 0 ≤ t → t < 40 → M 28 (40 * x + t) = σ 28 t) ∧ (∀ p : Int, 0 ≤ p → p < 240 → M 29 (240 * x + p) = σ 29 p) ∧ (M 30 x = σ 30 0 ∧ ∀ i : Int, 0 ≤ i → i < σ 30 0 → i < 300 → M 31 (300 * x + i) = σ 31 i) ∧ (M 32 x = σ 32 0 ∧ ∀ i : Int, 0 ≤ i → i < σ 32 0 → M 33 (40 * x + i) = σ 33 i)
theorem touch_ok {Q G : Mem → Prop} {B : Int} {Mx : Mem} {x k t nm v : Int} {σ : Mem} (hv : VWa Mx x σ) (w : WFD Mx) (hx : 0 ≤ x ∧ x ≤ 11) (hB : 0 ≤ B ∧ B ≤ 2000000000) (hi : INV B Mx (mu (beg σ) 45 0 0)) (hi1 : INV B Mx (beg σ)) (hs1 : slk B 1 (beg σ)) (hk : 1 ≤ k ∧ k ≤ 6) (ht : 0 ≤ t ∧ t < Mx 0 0)
    (hM : Mach Q G) (kont : ∀ M1, TND (goM Mx x k t nm v) x (tE Mx k t nm v σ) M1 → Q M1) : G (goM Mx x k t nm v) := by
  obtain ⟨⟨g37, g38, g44, g45, g46, g47, g48, g49, g50⟩, ⟨g53, g54, g55, g56⟩, gF⟩ := goM_at (M := Mx) (x := x) (k := k) (t := t) (nm := nm) (v := v)
  have go : ∀ u : Int, u < 37 → goM Mx x k t nm v u = Mx u := fun u h => goM_o (Or.inl h)
  have esd : SD Mx (goM Mx x k t nm v) := fun u a b => go u (by omega)
  have eT : tE Mx k t nm v σ = acE (goM Mx x k t nm v) (ev (goM Mx x k t nm v) 100) k t nm v 0 (beg σ) := by
    unfold tE
    rw [ev_sd esd, acE_sd esd]
  have eU : ∀ σ : Mem, Un (goM Mx x k t nm v) σ = Un Mx σ := fun σ => by unfold Un; rw [go 0 (by decide)]
  have eI : ∀ σ : Mem, INV B Mx σ → INV B (goM Mx x k t nm v) σ := fun σ h => by unfold INV at h ⊢; rw [eU, go 0 (by decide)]; exact h
  rw [eT] at kont
  have w0 := SD_WFD esd w
  have ht0 : 0 ≤ t ∧ t < goM Mx x k t nm v 0 0 := by rw [go 0 (by decide)]; exact ht
  have R0 : RSg (goM Mx x k t nm v) x (goM Mx x k t nm v) (mu (beg σ) 45 0 0) := by
    have b : ∀ u i : Int, 28 ≤ u → u ≤ 33 → mu (beg σ) 45 0 0 u i = σ u i := fun u i a c => by
      unfold beg
      rw [mu_ne (by omega), mu_ne (by omega), mu_ne (by omega), mu_ne (by omega), mu_ne (by omega), mu_ne (by omega)]
    obtain ⟨v1, v2, v3, v4⟩ := hv
    refine ⟨⟨fun _ _ _ => rfl, fun _ _ _ => rfl, fun _ _ _ => rfl, g37, fun _ _ => ⟨rfl, rfl⟩, fun _ _ => rfl, fun _ _ => ⟨rfl, rfl⟩, fun _ _ => rfl⟩, fun t a c => ?_, fun p a c => ?_, ⟨?_, fun i a c d => ?_⟩, ⟨?_, fun i a c => ?_⟩, g45.trans ?_, g46.trans ?_, g47.trans ?_, g48.trans ?_⟩
    · rw [b _ _ (by decide) (by decide), go 28 (by decide)]; exact v1 t a c
    · rw [b _ _ (by decide) (by decide), go 29 (by decide)]; exact v2 p a c
    · rw [b _ _ (by decide) (by decide), go 30 (by decide)]; exact v3.1
    · rw [b _ _ (by decide) (by decide)] at c ⊢; rw [go 31 (by decide)]; exact v3.2 i a c d
    · rw [b _ _ (by decide) (by decide), go 32 (by decide)]; exact v4.1
    · rw [b _ _ (by decide) (by decide)] at c ⊢; rw [go 33 (by decide)]; exact v4.2 i a c
    all_goals rfl
  obtain ⟨M0, hM0⟩ : ∃ M0 : Mem, goM Mx x k t nm v = M0 := ⟨_, rfl⟩
  rw [hM0] at g37 g38 g44 g45 g46 g47 g48 g49 g50 g53 g54 g55 g56 gF esd kont w0 ht0 R0 ⊢
  simp only [hM0] at go eU eI
  have hS := SIM_all (x := x) hM w0 ⟨hx.1, by omega⟩ hB 100
  have C : CTX G Q B M0 x 100 := ⟨hM, w0, ⟨hx.1, by omega⟩, hB, hS.1, hS.2⟩
  have e45 : mu (mu (beg σ) 45 0 0) 45 0 (mu (beg σ) 45 0 0 45 0 + 1) = beg σ := by
    funext u i
    rw [mu_s]
    by_cases h : u = 45 ∧ i = 0
    · rw [h.1, h.2, mu_s]; rfl
    · rw [mu_ne h, mu_ne h]
  have hu40 : Un M0 (beg σ) ≤ 40 := by
    have := (eI _ hi1).2.1
    omega
  have hu0 := Un_0 M0 (beg σ)
  have b47 : beg σ 47 0 = 0 := rfl
  have b45 : mu (beg σ) 45 0 0 45 0 = 0 := rfl
  have hp : PRr B M0 100 0 (0 + 1) (beg σ) := ⟨⟨by decide, by decide⟩, ⟨by decide, by omega⟩, by omega, eI _ hi1, by omega, hB, slk_1 hs1⟩
  have hgd := acE_gd (e := 0) (ob := 0) (k := k) (t := t) (v := v) (n := nm) (σ := beg σ) w0 (ev_good (B := B) w0 100) (fun _ _ => ht0) (fun q => by omega) (by decide) (by decide) (eI _ hi1) (by omega) hs1
  have ins : INS M0 x 0 0 M0 M0 (mu (beg σ) 45 0 0) := ⟨R0, g38, g44, g49, BLW.rf⟩
  have fok : ∀ i : Int, 0 ≤ i → i ≤ 12 → FOK 0 0 (-1) i := fun i a b => ⟨⟨by decide, by decide⟩, ⟨by decide, by decide⟩, ⟨by decide, by decide⟩, a, b⟩
  have atq : ∀ i : Int, ATq M0 (-1) i k t nm v := fun i => ⟨g53, g54, g55, g56⟩
  refine act_ok C (eI _ hi) (by rw [e45]; exact hp) (by rw [e45]; exact hs1) ins g50 gF (fok 0 (by decide) (by decide)) (show (0 : Int) ≠ 1 by decide) (fun h => absurd h (by decide)) (atq 0) (fun _ _ => ht0) (fun q => by omega) (by omega) (by omega) (fun M1 hq => ?_)
  rw [e45] at hq
  revert hq hgd kont
  generalize acE M0 (ev M0 100) k t nm v 0 (beg σ) = q
  intro kont hgd hq
  rcases hq with ho | ⟨q6, a1, a2, a3⟩ | ⟨hup, b1, b2, b3, b4⟩
  · exact hM.1 M1 (Or.inr (by rw [ho.2.1]; decide)) (kont M1 (Or.inr ho))
  · refine gok_turn C hgd.1 a1 a2 a3 (fok 1 (by decide) (by decide)) (fun h => absurd rfl h) (atq 1) (fun h => absurd rfl h) (fun M2 hg => ?_)
    obtain ⟨c1, c2, c3, c4, c5⟩ := a1
    obtain ⟨d1, d2, d3, d4, d5, d6⟩ := a3
    have hsz : M1 41 0 = szM M1 0 := by
      unfold szM
      rw [d3, d2]; rfl
    rcases hg with ⟨g, _⟩ | ⟨_, _, rfl⟩ | ⟨_, g, _⟩ | ⟨_, g, _⟩ | ⟨_, g, _⟩ | ⟨_, g, _⟩
    · exact absurd d5 g
    · refine hM.1 _ (Or.inl ?_) (kont _ (Or.inl ⟨by omega, ?_, ?_, Or.inl ⟨q6, ?_⟩⟩))
      · unfold popM; rw [mu_s]; omega
      · unfold popM; rw [mu_ne (by omega), mu_ne (by omega)]; exact c4
      · unfold popM; exact RSg_c c1 (fun k hk => by rw [mu_f _ _ _ _ (by omega), mu_f _ _ _ _ (by omega)])
      · unfold popM; rw [mu_ne (by omega), mu_ne (by omega)]; exact a2
    all_goals exact absurd hsz g
  · obtain ⟨q0, q23, hin, h50, h51, h52⟩ := hup
    obtain ⟨hr, h38, h44, h49, hb⟩ := id hin
    have q22 : q.1 ≤ 22 := by have := hgd.2.2.2.1; omega
    refine hM.2.1 M1 0 (by omega) h49 (by omega) ⟨SD_WFD hr.1.sd w0, RG_of ⟨hx.1, by omega⟩ hr hgd.1 hB h38 h44 (by decide) (by decide), by omega, by decide, fun z => absurd b1 z, by omega, fun _ => ⟨by omega, by omega, Or.inl b4⟩, by omega⟩ (fun M2 hd => ?_)
    rcases hd with ⟨g, _⟩ | ⟨_, _, rfl⟩ | ⟨_, g, _⟩ | ⟨_, g, _⟩
    · exact absurd b1 g
    · refine hM.1 _ (Or.inl ?_) (kont _ (Or.inl ⟨q23, ?_, ?_, Or.inr ⟨q0, ?_, ?_, ?_⟩⟩))
      · rw [mu_s]; omega
      · rw [mu_ne (by omega), mu_ne (by omega)]; exact h49
      · exact RSg_c hr (fun k hk => by rw [mu_f _ _ _ _ (by omega), mu_f _ _ _ _ (by omega)])
      · rw [mu_ne (by omega), mu_ne (by omega)]; exact h50
      · rw [mu_ne (by omega), mu_ne (by omega)]; exact h51
      · rw [mu_ne (by omega), mu_ne (by omega)]; exact h52
    all_goals (exfalso; omega)
