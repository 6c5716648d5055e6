/-! BOTH TOUCHES: what an action comes to behind its start -/
def rE (M : Mem) (g : EvT) (k t nm v ob : Int) (σ : Mem) : Int × Mem := if k = 7 then arE v (-6) σ else if k = 3 then g false (FM M nm t) ob σ else (-6, thE M k t nm v σ)
def CTX (G Q : Mem → Prop) (B : Int) (M0 : Mem) (x : Int) (n : Nat) : Prop := Mach Q G ∧ WFD M0 ∧ (0 ≤ x ∧ x ≤ 12) ∧ (0 ≤ B ∧ B ≤ 2000000000) ∧ SIMs G B M0 x n ∧ SIMb G B M0 x n
def ATq (M0 : Mem) (o i k t nm v : Int) : Prop := (if o < 0 then M0 53 0 else M0 13 (12 * o + i)) = k ∧ (if o < 0 then M0 54 0 else M0 14 (12 * o + i)) = t ∧ (if o < 0 then M0 55 0 else M0 15 (12 * o + i)) = nm ∧ (if o < 0 then M0 56 0 else M0 16 (12 * o + i)) = v
def FOK (f ob o i : Int) : Prop := (0 ≤ f ∧ f ≤ 98) ∧ (0 ≤ ob ∧ ob ≤ 30) ∧ (-1 ≤ o ∧ o < 200) ∧ (0 ≤ i ∧ i ≤ 12)
theorem preB_of {M0 Mb M σ : Mem} {B x f ob o i c hh a k t nm v : Int} (w : WFD M0) (hx : 0 ≤ x ∧ x ≤ 12) (hB : 0 ≤ B ∧ B ≤ 2000000000) (hi : INV B M0 σ) (h : INS M0 x f ob Mb M σ) (hf : FRs f o i c hh a M) (ok : FOK f ob o i)
    (h11 : hh ≠ 0 → 0 ≤ o → i ≤ 11) (hsz : i ≠ (if o < 0 then 1 else M0 12 o) → 0 ≤ o → i ≤ 11) (hA : ATq M0 o i k t nm v) (hk : (hh ≠ 0 ∨ i ≠ (if o < 0 then 1 else M0 12 o)) → 1 ≤ k → k ≤ 6 → 0 ≤ t ∧ t < M0 0 0) (hff : hh ≠ 0 → 1 ≤ k → k ≤ 2 → 0 ≤ FF M0 nm t) : preB k t nm v f M := by
  obtain ⟨hr, h38, h44, h49, hb⟩ := h
  obtain ⟨f1, f2, f3, f4, f5, f6⟩ := hf
  obtain ⟨k1, k2, k3, k4⟩ := ok
  have sd := hr.1.sd
  obtain ⟨ks1, ks2, ks3, ks4, -⟩ := hr.1
  obtain ⟨a1, a2, a3, a4⟩ := hA
  have i5 := hi.2.2.2.1
  have c45 := hr.2.2.2.2.2.1
  refine ⟨SD_WFD sd w, RG_of hx hr hi hB h38 h44 (by omega) k2, by omega, ⟨by omega, by rw [f2]; exact k3, by rw [f3]; exact k4⟩, ?_, ?_, by omega, ?_, ?_, ?_, ?_, ?_, ?_, ?_⟩
  · rw [f5, f2, f3]; exact h11
  · unfold szM; rw [f2, f3, ks1 12 (by decide) (by decide)]; exact hsz
  · unfold atM; rw [f2, f3, ks3 53 (by decide) (by decide), ks1 13 (by decide) (by decide)]; exact a1
  · unfold atM; rw [f2, f3, ks3 54 (by decide) (by decide), ks1 14 (by decide) (by decide)]; exact a2
  · unfold atM; rw [f2, f3, ks3 55 (by decide) (by decide), ks1 15 (by decide) (by decide)]; exact a3
  · unfold atM; rw [f2, f3, ks3 56 (by decide) (by decide), ks1 16 (by decide) (by decide)]; exact a4
  · rw [f5, ks1 0 (by decide) (by decide)]; exact fun q0 q1 q2 => hk (Or.inl q0) q1 (by omega)
  · unfold szM; rw [f2, f3, ks1 12 (by decide) (by decide), ks1 0 (by decide) (by decide)]; exact fun q0 => hk (Or.inr q0)
  · rw [f5, SD_FF sd]; exact hff
/-- a body's turn that stands behind its start -/
theorem beh_turn {G Q : Mem → Prop} {B : Int} {M0 Mb M σ : Mem} {x f ob o i c hh a k t nm v : Int} {n : Nat} (C : CTX G Q B M0 x n) (hi : INV B M0 σ) (h : INS M0 x f ob Mb M σ) (h50 : M 50 0 = 0) (hf : FRs f o i c hh a M) (h1 : hh ≠ 0) (ok : FOK f ob o i)
    (h11 : 0 ≤ o → i ≤ 11) (hA : ATq M0 o i k t nm v) (hk : 1 ≤ k → k ≤ 6 → 0 ≤ t ∧ t < M0 0 0) (hff : 1 ≤ k → k ≤ 2 → 0 ≤ FF M0 nm t)
    (kont : ∀ Ms, SCb M Ms → G (gobM k t nm v f M Ms)) : G M := by
  obtain ⟨hM, w, hx, hB, -⟩ := C
  have hp := preB_of w hx hB hi h hf ok (fun _ => h11) (fun _ => h11) hA (fun _ => hk) (fun _ => hff)
  obtain ⟨hr, h38, h44, h49, hb⟩ := h
  obtain ⟨f1, f2, f3, f4, f5, f6⟩ := hf
  have ok1 := ok.1
  refine hM.2.2.2 M k t nm v f (by omega) h49 h50 (by rw [h38, show f + 1 - 1 = f by omega]; exact f1) hp (fun M1 hg => ?_)
  rcases hg with ⟨_, Ms, hs, rfl⟩ | ⟨g, _⟩ | ⟨g, _⟩ | ⟨g, _⟩ | ⟨g, _⟩ | ⟨g, _⟩
  · exact kont Ms hs
  all_goals exact absurd (f5.symm.trans g) h1
theorem INS_s {M0 Mb M M1 σ : Mem} {x f ob : Int} (h : INS M0 x f ob Mb M σ) (hs : SCb M M1) : INS M0 x f ob Mb M1 σ := INS_c h (fun k hk => hs k (by omega) (by omega)) (BLW_c (fun k hk => hs k (by omega) (by omega)))
theorem FRs_s {M M1 : Mem} {f o i c h a : Int} (hf : FRs f o i c h a M) (hs : SCb M M1) : FRs f o i c h a M1 := FRs_c hf (fun k hk => hs k (by omega) (by omega))
/-- the called body is over -/
theorem beh_1 {G Q : Mem → Prop} {B : Int} {M0 Mb M σ : Mem} {x f ob o i c k t nm v : Int} {n : Nat} (C : CTX G Q B M0 x n) (hi : INV B M0 σ) (h : INS M0 x f ob Mb M σ) (h50 : M 50 0 = 0) (hf : FRs f o i c 1 1 M) (ok : FOK f ob o i)
    (h11 : 0 ≤ o → i ≤ 11) (hA : ATq M0 o i k t nm v) (hk : 1 ≤ k → k ≤ 6 → 0 ≤ t ∧ t < M0 0 0) (hff : 1 ≤ k → k ≤ 2 → 0 ≤ FF M0 nm t) (k3 : k = 3)
    (kont : ∀ M1, ACq M0 x f ob Mb o i c (-6, σ) M1 → G M1) : G M := by
  refine beh_turn C hi h h50 hf (by decide) ok h11 hA hk hff (fun Ms hs => ?_)
  have h' := INS_s h hs
  have hf' := FRs_s hf hs
  have e : gobM k t nm v f M Ms = didM f (mu Ms 57 f 0) := by
    unfold gobM
    rw [if_neg (by omega), if_neg (by omega), if_neg (by omega), if_pos k3, if_pos hf'.2.2.2.2.2]
  rw [e]
  refine kont _ (Or.inr (Or.inl ⟨rfl, INS_did (INS_c h' (fun k hk => mu_f _ _ _ _ (by omega)) (fun j hj => ?_)), ?_, didM_at (c := c) (h := 1) ?_⟩))
  · exact ⟨mu_ne (by omega), mu_ne (by omega), mu_ne (by omega), mu_ne (by omega), mu_ne (by omega), mu_ne (by omega)⟩
  · rw [didM_o (by decide) (by decide) (by decide), mu_ne (by omega), hs 50 (by decide) (by decide)]; exact h50
  · obtain ⟨a1, a2, a3, a4, a5, a6⟩ := hf'
    exact ⟨(mu_ne (by omega)).trans a1, (mu_ne (by omega)).trans a2, (mu_ne (by omega)).trans a3, (mu_ne (by omega)).trans a4, (mu_ne (by omega)).trans a5, mu_s _ _ _ _⟩
theorem beh_0 {G Q : Mem → Prop} {B : Int} {M0 Mb M σ : Mem} {x f ob o i c k t nm v : Int} {n : Nat} (C : CTX G Q B M0 x n) (hp : PRr B M0 n ob (f + 1) σ) (h : INS M0 x f ob Mb M σ) (h50 : M 50 0 = 0) (hf : FRs f o i c 1 0 M) (ok : FOK f ob o i)
    (h11 : 0 ≤ o → i ≤ 11) (hA : ATq M0 o i k t nm v) (hk : 1 ≤ k → k ≤ 6 → 0 ≤ t ∧ t < M0 0 0) (h7 : k = 7 → 0 ≤ v ∧ v ≤ 22) (hr : ¬ RUi M0 k t nm = 1)
    (kont : ∀ M1, ACq M0 x f ob Mb o i c (rE M0 (ev M0 n) k t nm v ob σ) M1 → G M1) : G M := by
  have hi := hp.2.2.2.1
  have hff : 1 ≤ k → k ≤ 2 → 0 ≤ FF M0 nm t := fun q1 q2 => by
    by_cases k1 : k = 1
    · rw [k1, RUi_1] at hr
      by_cases hc : FF M0 nm t < 0
      · rw [if_pos hc] at hr; exact absurd rfl hr
      · omega
    · rw [show k = 2 by omega, RUi_2] at hr
      by_cases hc : FF M0 nm t < 0
      · rw [if_pos hc] at hr; exact absurd rfl hr
      · omega
  refine beh_turn C hi h h50 hf (by decide) ok h11 hA hk hff (fun Ms hs => ?_)
  obtain ⟨hM, w, hx, hB, hSs, hSb⟩ := id C
  have h' := INS_s h hs
  have hf' := FRs_s hf hs
  have h50' : Ms 50 0 = 0 := by rw [hs 50 (by decide) (by decide)]; exact h50
  have h30 : 0 ≤ σ 30 0 := hi.2.2.2.2.2.2.1
  have sd := h'.1.1.sd
  have sdM := h.1.1.sd
  have hn := w.n
  -- a plain action
  have plain : ∀ (M1 : Mem), k ≠ 7 → k ≠ 3 → INS M0 x f ob Mb M1 (thE M0 k t nm v σ) → M1 50 0 = 0 → FRs f o (i + 1) (-6) 0 0 M1 → G M1 := fun M1 q7 q3 a b d => by
    refine kont M1 (Or.inr (Or.inl ?_))
    unfold rE
    rw [if_neg q7, if_neg q3]
    exact ⟨rfl, a, b, d⟩
  have hd := INS_did h'
  have hfd := didM_at hf'
  have hd50 : didM f Ms 50 0 = 0 := by rw [didM_o (by decide) (by decide) (by decide)]; exact h50'
  have on : ∀ v1 : Int, thE M0 k t nm v σ = onT v1 σ → k ≠ 7 → k ≠ 3 → G (onTM v1 (didM f Ms)) := fun v1 he q7 q3 => by
    refine plain _ q7 q3 (by rw [he]; exact INS_on hd h30) ?_ (FRs_c hfd (fun k hk => onTM_o (by omega) (by omega)))
    rw [onTM_o (by decide) (by decide)]; exact hd50
  by_cases k0 : k = 0
  · have e : gobM k t nm v f M Ms = onTM v (didM f Ms) := by unfold gobM; rw [if_pos k0]
    rw [e]
    exact on v (by unfold thE; rw [if_pos k0]) (by omega) (by omega)
  by_cases k1 : k = 1
  · have hp0 := hff (by omega) (by omega)
    rcases FF_rng (nm := nm) w (hk (by omega) (by omega)).1 (hk (by omega) (by omega)).2 with hh | ⟨u, u0, u1, -, u3, u4, u5⟩
    · omega
    · have e : gobM k t nm v f M Ms = onTM (if M0 8 (FF M0 nm t) = 1 then M0 9 (FF M0 nm t) else σ 29 (FF M0 nm t)) (didM f Ms) := by
        unfold gobM
        rw [if_neg k0, if_pos k1, SD_FF sdM, sd 8 (by decide) (by decide), sd 9 (by decide) (by decide), h'.1.1.2.2.2.1, h'.1.2.2.1 _ hp0 (by omega)]
      rw [e]
      exact on _ (by unfold thE; rw [if_neg k0, if_pos k1]) (by omega) (by omega)
  by_cases k2 : k = 2
  · have hp0 := hff (by omega) (by omega)
    rcases FF_rng (nm := nm) w (hk (by omega) (by omega)).1 (hk (by omega) (by omega)).2 with hh | ⟨u, u0, u1, -, u3, u4, u5⟩
    · omega
    · have e : gobM k t nm v f M Ms = didM f (mu Ms 29 (240 * x + FF M0 nm t) v) := by
        unfold gobM
        rw [if_neg k0, if_neg k1, if_pos k2, SD_FF sdM, h'.1.1.2.2.2.1]
      rw [e]
      have hi29 : INS M0 x f ob Mb (mu Ms 29 (240 * x + FF M0 nm t) v) (mu σ 29 (FF M0 nm t) v) := by
        obtain ⟨a, b, c1, d, e1⟩ := h'
        exact ⟨RSg_29 a rfl hp0 (by omega), (mu_ne (by omega)).trans b, (mu_ne (by omega)).trans c1, (mu_ne (by omega)).trans d, e1.trans (BLW_c (fun k hk => mu_f _ _ _ _ (by omega)))⟩
      refine plain _ (by omega) (by omega) ?_ ?_ (didM_at (FRs_c hf' (fun k hk => mu_f _ _ _ _ (by omega))))
      · have he : thE M0 k t nm v σ = mu σ 29 (FF M0 nm t) v := by unfold thE; rw [if_neg k0, if_neg k1, if_pos k2]
        rw [he]
        exact INS_did hi29
      · rw [didM_o (by decide) (by decide) (by decide), mu_ne (by omega)]; exact h50'
  by_cases k3 : k = 3
  · have e : gobM k t nm v f M Ms = pushM (FM M0 nm t) (mu Ms 57 f 1) := by
      unfold gobM
      rw [if_neg k0, if_neg k1, if_neg k2, if_pos k3, if_neg (by rw [hf'.2.2.2.2.2]; decide), SD_FM sdM]
    rw [e]
    have er : rE M0 (ev M0 n) k t nm v ob σ = ev M0 n false (FM M0 nm t) ob σ := by unfold rE; rw [if_neg (by omega), if_pos k3]
    rw [er] at kont
    have ht := hk (by omega) (by omega)
    have hfm : 0 ≤ FM M0 nm t := by
      rw [k3, RUi_3] at hr
      by_cases hc : FM M0 nm t < 0
      · rw [if_pos hc] at hr; exact absurd rfl hr
      · omega
    have hfb : 0 ≤ FM M0 nm t ∧ FM M0 nm t < 200 := by
      rcases FM_rng (nm := nm) w ht.2 with hh | ⟨u, u0, u1, u2, u3, u4⟩
      · omega
      · have := w.cnt u u0 (by omega)
        omega
    have h57 : INS M0 x f ob Mb (mu Ms 57 f 1) σ := INS_c h' (fun k hk => mu_f _ _ _ _ (by omega)) (fun j hj => ⟨mu_ne (by omega), mu_ne (by omega), mu_ne (by omega), mu_ne (by omega), mu_ne (by omega), mu_ne (by omega)⟩)
    have hf57 : FRs f o i c 1 1 (mu Ms 57 f 1) := by
      obtain ⟨a1, a2, a3, a4, a5, a6⟩ := hf'
      exact ⟨(mu_ne (by omega)).trans a1, (mu_ne (by omega)).trans a2, (mu_ne (by omega)).trans a3, (mu_ne (by omega)).trans a4, (mu_ne (by omega)).trans a5, mu_s _ _ _ _⟩
    have hgd := ev_good (B := B) w n false (FM M0 nm t) ob 0 σ (fun q => absurd q (by decide)) (fun _ => hfb) hp.1.1 (by decide) hi hp.2.2.2.2.1 hp.2.2.2.2.2.2
    refine hSb (FM M0 nm t) (f + 1) ob (mu Ms 57 f 1) σ hfb ⟨h57.1, h57.2.1, h57.2.2.1, h57.2.2.2.1, (mu_ne (by omega)).trans h50'⟩ hp (fun M1 hE => ?_)
    rcases END_in hE h57.2.2.2.2 with ho | ⟨hb, ⟨q6, hin, q50⟩ | hup⟩
    · exact kont M1 (Or.inl ho)
    · refine beh_1 C hgd.1 hin q50 (hf57.bl hb) ok h11 hA hk hff k3 (fun M2 hq => kont M2 ?_)
      rw [show ev M0 n false (FM M0 nm t) ob σ = (-6, (ev M0 n false (FM M0 nm t) ob σ).2) from Prod.ext q6 rfl]
      exact hq
    · have hf1 := hf57.bl hb
      exact kont M1 (Or.inr (Or.inr ⟨hup, hf1.1, hf1.2.1, hf1.2.2.1, hf1.2.2.2.1⟩))
  by_cases k7 : k = 7
  · have e : gobM k t nm v f M Ms = failM v (-6) Ms := by
      unfold gobM
      rw [if_neg k0, if_neg k1, if_neg k2, if_neg k3, if_pos k7]
    rw [e]
    have er : rE M0 (ev M0 n) k t nm v ob σ = arE v (-6) σ := by unfold rE; rw [if_pos k7]
    rw [er] at kont
    have hE := END_fail (n := v) (of := -6) h'.1 h'.2.1 h'.2.2.1 h'.2.2.2.1 (BLW.rf (f := f + 1)) hp.2.2.2.2.1 (h7 k7)
    rcases END_in hE h'.2.2.2.2 with ho | ⟨hb, ⟨q6, -, -⟩ | hup⟩
    · exact kont _ (Or.inl ho)
    · exfalso
      have h7' := h7 k7
      rcases arE_1 (n := v) (of := -6) (σ := σ) with q | q <;> omega
    · have hf1 := hf'.bl hb
      exact kont _ (Or.inr (Or.inr ⟨hup, hf1.1, hf1.2.1, hf1.2.2.1, hf1.2.2.2.1⟩))
  · have e : gobM k t nm v f M Ms = didM f Ms := by
      unfold gobM
      rw [if_neg k0, if_neg k1, if_neg k2, if_neg k3, if_neg k7]
    rw [e]
    refine plain _ k7 k3 ?_ hd50 hfd
    have he : thE M0 k t nm v σ = σ := by unfold thE; rw [if_neg k0, if_neg k1, if_neg k2]
    rw [he]
    exact hd
