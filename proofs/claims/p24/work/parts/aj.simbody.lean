/-! BOTH TOUCHES: a body -/
theorem anC_c {M M1 : Mem} (h : M1 16 = M 16) (p r : Int) : ∀ n : Nat, anC M1 p r n = anC M p r n := by
  intro n
  induction n with
  | zero => rfl
  | succ n ih => unfold anC; rw [ih, h]
/-- a failure comes up to a body's frame: caught there, or further up -/
theorem body_up {G Q : Mem → Prop} {B : Int} {M0 Mb M : Mem} {x f ob b i fc : Int} {n : Nat} {q : Int × Mem} (C : CTX G Q B M0 x n) (hi : INV B M0 q.2) (h : UPq M0 x f (ob + 1) Mb q M) (q22 : q.1 ≤ 22)
    (h39 : M 39 f = 0) (h40 : M 40 f = b) (h41 : M 41 f = i) (h42 : M 42 f = if fc < i then fc else -6) (ok : FOK f (ob + 1) b i) (b0 : 0 ≤ b) (fc0 : 0 ≤ fc) (fc1 : fc ≤ i)
    (k1 : ∀ M2, INS M0 x f (ob + 1) Mb M2 (onT (1000 + q.1) q.2) → M2 50 0 = 0 → FRs f b (i + 1) (-6) 0 0 M2 → tkE M0 b fc i q = (-6, onT (1000 + q.1) q.2) → G M2)
    (k2 : ∀ M2, ENDq M0 x f ob Mb q M2 → tkE M0 b fc i q = q → G M2) : G M := by
  obtain ⟨hM, w, hx, hB, -⟩ := id C
  obtain ⟨q0, q23, hin, h50, h51, h52⟩ := h
  obtain ⟨hr, h38, h44, h49, hb⟩ := id hin
  have sd := hr.1.sd
  obtain ⟨o1, o2, o3, o4⟩ := ok
  have hpre : preD f M := by
    refine ⟨SD_WFD sd w, RG_of hx hr hi hB h38 h44 (by omega) o2, by omega, o1.1, fun z => absurd h39 z, by omega, fun _ => ⟨by omega, by omega, ?_⟩, by omega⟩
    rw [h42, h41]
    split
    · right; omega
    · left; rfl
  have tk : tkE M0 b fc i q = if anC M0 (12 * b + fc) q.1 (i - fc).toNat = true then (-6, onT (1000 + q.1) q.2) else q := by
    unfold tkE
    rw [if_neg (by omega)]
  have cg : cgt M f ↔ anC M0 (12 * b + fc) q.1 (i - fc).toNat = true := by
    unfold cgt
    rw [h42, h40, h41, h51, anC_c (hr.1.sd 16 (by decide) (by decide))]
    by_cases hc : fc < i
    · rw [if_pos hc]
      exact ⟨fun a => a.2, fun a => ⟨by omega, a⟩⟩
    · rw [if_neg hc, show (i - fc).toNat = 0 by omega]
      refine ⟨fun a => absurd rfl a.1, fun a => ?_⟩
      unfold anC at a
      exact absurd a (by decide)
  refine hM.2.1 M f (by omega) h49 (by omega) hpre (fun M2 hd => ?_)
  have m57 : INS M0 x f (ob + 1) Mb (mu M 57 f 0) q.2 := INS_c hin (fun k hk => mu_f _ _ _ _ (by omega)) (fun j hj => ⟨mu_ne (by omega), mu_ne (by omega), mu_ne (by omega), mu_ne (by omega), mu_ne (by omega), mu_ne (by omega)⟩)
  rcases hd with ⟨g, _⟩ | ⟨_, g, _⟩ | ⟨_, _, g, rfl⟩ | ⟨_, _, g, rfl⟩
  · exact absurd h39 g
  · exfalso; omega
  · rw [h51]
    have h30 : 0 ≤ q.2 30 0 := hi.2.2.2.2.2.2.1
    have m50 : INS M0 x f (ob + 1) Mb (mu (mu M 57 f 0) 50 0 0) q.2 := INS_c m57 (fun k hk => mu_f _ _ _ _ (by omega)) (BLW_c (fun k hk => mu_f _ _ _ _ (by omega)))
    have mon := INS_on (v := 1000 + q.1) m50 h30
    refine k1 _ (INS_did mon) ?_ ?_ (by rw [tk, if_pos (cg.mp g)])
    · rw [didM_o (by decide) (by decide) (by decide), onTM_o (by decide) (by decide), mu_s]
    · have e3 : onTM (1000 + q.1) (mu (mu M 57 f 0) 50 0 0) 41 f = i := by rw [onTM_o (by decide) (by decide), mu_ne (by omega), mu_ne (by omega)]; exact h41
      have e1 : onTM (1000 + q.1) (mu (mu M 57 f 0) 50 0 0) 39 f = 0 := by rw [onTM_o (by decide) (by decide), mu_ne (by omega), mu_ne (by omega)]; exact h39
      have e2 : onTM (1000 + q.1) (mu (mu M 57 f 0) 50 0 0) 40 f = b := by rw [onTM_o (by decide) (by decide), mu_ne (by omega), mu_ne (by omega)]; exact h40
      have e4 : onTM (1000 + q.1) (mu (mu M 57 f 0) 50 0 0) 57 f = 0 := by rw [onTM_o (by decide) (by decide), mu_ne (by omega), mu_s]
      exact didM_at ⟨e1, e2, e3, rfl, rfl, e4⟩
  · refine k2 _ (Or.inl ⟨q23, ?_, ?_, ?_, ?_, ?_, Or.inr ⟨q0, ?_, ?_, ?_⟩⟩) (by rw [tk, if_neg (fun z => g (cg.mpr z))])
    · rw [mu_s]; omega
    · rw [mu_ne (by omega), mu_s]; omega
    · rw [mu_ne (by omega), mu_ne (by omega), mu_ne (by omega)]; exact h49
    · exact RSg_c m57.1 (fun k hk => by rw [mu_f _ _ _ _ (by omega), mu_f _ _ _ _ (by omega)])
    · exact m57.2.2.2.2.trans (BLW_c (fun k hk => by rw [mu_f _ _ _ _ (by omega), mu_f _ _ _ _ (by omega)]))
    · rw [mu_ne (by omega), mu_ne (by omega), mu_ne (by omega)]; exact h50
    · rw [mu_ne (by omega), mu_ne (by omega), mu_ne (by omega)]; exact h51
    · rw [mu_ne (by omega), mu_ne (by omega), mu_ne (by omega)]; exact h52
/-- the actions of a body from the i-th on -/
theorem body_loop {G Q : Mem → Prop} {B : Int} {M0 Mb : Mem} {x f ob b U : Int} {n : Nat} (C : CTX G Q B M0 x n) (hf : 0 ≤ f ∧ f + (30 - ob) + U ≤ 75) (hn : (30 - ob) + U + 1 ≤ n + 1) (hob : 0 ≤ ob ∧ ob < 30) (hb : 0 ≤ b ∧ b < 200) (hU : 0 ≤ U) : ∀ (kk : Nat) (i fc : Int) (M σ : Mem), i + kk = M0 12 b → 0 ≤ fc → fc ≤ i →
    INS M0 x f (ob + 1) Mb M σ → M 50 0 = 0 → FRs f b i (if fc < i then fc else -6) 0 0 M → INV B M0 σ → σ 47 0 ≤ 40 → slk B 0 σ → Un M0 σ ≤ U → (∀ M1, ENDq M0 x f ob Mb (bdL M0 (ev M0 n) b ob kk i fc σ) M1 → G M1) → G M := by
  obtain ⟨hM, w, hx, hB, -⟩ := id C
  have h12 := w.size b hb.1 hb.2
  intro kk
  induction kk with
  | zero =>
    intro i fc M σ hik fc0 fc1 h h50 hfr hi h47 hs hu kont
    have hi12 : i = M0 12 b := by omega
    have hbn : (if b < 0 then 1 else M0 12 b) = M0 12 b := if_neg (by omega)
    refine gok_turn (k := if b < 0 then M0 53 0 else M0 13 (12 * b + i)) (t := if b < 0 then M0 54 0 else M0 14 (12 * b + i)) (nm := if b < 0 then M0 55 0 else M0 15 (12 * b + i)) (v := if b < 0 then M0 56 0 else M0 16 (12 * b + i)) C hi h h50 hfr ⟨⟨hf.1, by omega⟩, ⟨by omega, by omega⟩, ⟨by omega, hb.2⟩, ⟨by omega, by omega⟩⟩ (fun q => absurd (hi12.trans hbn.symm) q) ⟨rfl, rfl, rfl, rfl⟩ (fun q => absurd (hi12.trans hbn.symm) q) (fun M1 hg => ?_)
    obtain ⟨hr, h38, h44, h49, hbl⟩ := h
    obtain ⟨g1, g2, g3, g4, g5, g6⟩ := hfr
    have hsz : M 41 f = szM M f := by
      unfold szM
      rw [g3, g2, hr.1.sd 12 (by decide) (by decide), hbn]
      exact hi12
    rcases hg with ⟨g, _⟩ | ⟨_, _, rfl⟩ | ⟨_, g, _⟩ | ⟨_, g, _⟩ | ⟨_, g, _⟩ | ⟨_, g, _⟩
    · exact absurd g5 g
    · refine kont _ (Or.inl ⟨by show (-6 : Int) ≠ 23; decide, ?_, ?_, ?_, ?_, ?_, Or.inl ⟨rfl, ?_⟩⟩)
      · unfold popM; rw [mu_s]; omega
      · unfold popM; rw [mu_ne (by omega), mu_s, g2, if_neg (by omega)]; omega
      · unfold popM; rw [mu_ne (by omega), mu_ne (by omega)]; exact h49
      · unfold popM; exact RSg_c hr (fun k hk => by rw [mu_f _ _ _ _ (by omega), mu_f _ _ _ _ (by omega)])
      · unfold popM; exact hbl.trans (BLW_c (fun k hk => by rw [mu_f _ _ _ _ (by omega), mu_f _ _ _ _ (by omega)]))
      · unfold popM; rw [mu_ne (by omega), mu_ne (by omega)]; exact h50
    all_goals exact absurd hsz g
  | succ kk ih =>
    intro i fc M σ hik fc0 fc1 h h50 hfr hi h47 hs hu kont
    have hbn : (if b < 0 then 1 else M0 12 b) = M0 12 b := if_neg (by omega)
    have hact := w.act b i hb.1 hb.2 (by omega) (by omega)
    have ok : FOK f (ob + 1) b i := ⟨⟨hf.1, by omega⟩, ⟨by omega, by omega⟩, ⟨by omega, hb.2⟩, ⟨by omega, by omega⟩⟩
    have hA : ATq M0 b i (M0 13 (12 * b + i)) (M0 14 (12 * b + i)) (M0 15 (12 * b + i)) (M0 16 (12 * b + i)) := ⟨if_neg (by omega), if_neg (by omega), if_neg (by omega), if_neg (by omega)⟩
    have hsz : M 41 f ≠ szM M f := by
      unfold szM
      rw [hfr.2.2.1, hfr.2.1, h.1.1.sd 12 (by decide) (by decide), hbn]
      omega
    have c45 := h.1.2.2.2.2.2.1
    have i45 := hi.2.2.2.1
    unfold bdL at kont
    by_cases h1000 : 1000 ≤ σ 45 0
    · rw [if_pos h1000] at kont
      refine gok_turn C hi h h50 hfr ok (fun _ _ => by omega) hA (fun _ => hact.2.1) (fun M1 hg => ?_)
      rcases hg with ⟨g, _⟩ | ⟨_, g, _⟩ | ⟨_, _, _, rfl⟩ | ⟨_, _, g, _⟩ | ⟨_, _, g, _⟩ | ⟨_, _, g, _⟩
      · exact absurd hfr.2.2.2.2.1 g
      · exact absurd g hsz
      · exact kont _ (over_end h.1)
      all_goals (exfalso; omega)
    · rw [if_neg h1000] at kont
      have ha := act45_inv hi (by omega) hs
      have hu45 : Un M0 (mu σ 45 0 (σ 45 0 + 1)) = Un M0 σ := Un_same (ha.2.2 28 (by decide))
      have h47' : mu σ 45 0 (σ 45 0 + 1) 47 0 ≤ 40 := by rw [ha.2.2 47 (by decide)]; exact h47
      by_cases k8 : M0 13 (12 * b + i) = 8
      · rw [if_pos k8] at kont
        refine gok_turn C hi h h50 hfr ok (fun _ _ => by omega) hA (fun _ => hact.2.1) (fun M1 hg => ?_)
        rcases hg with ⟨g, _⟩ | ⟨_, g, _⟩ | ⟨_, _, g, _⟩ | ⟨_, _, _, _, rfl⟩ | ⟨_, _, _, g, _⟩ | ⟨_, _, _, g, _⟩
        · exact absurd hfr.2.2.2.2.1 g
        · exact absurd g hsz
        · exfalso; omega
        · obtain ⟨g1, g2, g3, g4, g5, g6⟩ := hfr
          refine ih (i + 1) fc _ _ (by omega) fc0 (by omega) (INS_c (INS_45 h) (M1 := catM f M) (fun k hk => ?_) (fun j hj => ?_)) ?_ ?_ ha.1 h47' (slk_1 ha.2.1) (by omega) kont
          · unfold catM; rw [mu_f _ _ _ _ (by omega), mu_f _ _ _ _ (by omega)]
          · unfold catM
            exact ⟨by rw [mu_ne (by omega), mu_ne (by omega)], by rw [mu_ne (by omega), mu_ne (by omega)], by rw [mu_ne (by omega), mu_ne (by omega)], by rw [mu_ne (by omega), mu_ne (by omega)], by rw [mu_ne (by omega), mu_ne (by omega)], by rw [mu_ne (by omega), mu_ne (by omega)]⟩
          · unfold catM; rw [mu_ne (by omega), mu_ne (by omega), mu_ne (by omega)]; exact h50
          · unfold catM
            refine ⟨?_, ?_, ?_, ?_, ?_, ?_⟩
            · rw [mu_ne (by omega), mu_ne (by omega), mu_ne (by omega)]; exact g1
            · rw [mu_ne (by omega), mu_ne (by omega), mu_ne (by omega)]; exact g2
            · rw [mu_s, g3]
            · rw [mu_ne (by omega), mu_s, g4, g3, if_pos (show fc < i + 1 by omega)]
              by_cases hc : fc < i
              · rw [if_pos hc, if_neg (by omega)]
              · rw [if_neg hc, if_pos rfl]; omega
            · rw [mu_ne (by omega), mu_ne (by omega), mu_ne (by omega)]; exact g5
            · rw [mu_ne (by omega), mu_ne (by omega), mu_ne (by omega)]; exact g6
        all_goals exact absurd k8 g
      · rw [if_neg k8] at kont
        have hp : PRr B M0 n (ob + 1) (f + 1) (mu σ 45 0 (σ 45 0 + 1)) := ⟨⟨by omega, by omega⟩, ⟨by omega, by omega⟩, by omega, ha.1, h47', hB, slk_1 ha.2.1⟩
        have h7 : M0 13 (12 * b + i) = 7 → 0 ≤ M0 16 (12 * b + i) ∧ M0 16 (12 * b + i) ≤ 22 := fun a => by have := hact.2.2.2.1 a; omega
        have hgd := acE_gd (e := 0) (n := M0 15 (12 * b + i)) (ob := ob + 1) (σ := mu σ 45 0 (σ 45 0 + 1)) w (ev_good (B := B) w n) hact.2.1 h7 (by omega) (by decide) ha.1 h47' ha.2.1
        have hgt := tkE_gd (b := b) (fc := fc) (i := i) (by decide) hgd
        refine act_ok C hi hp ha.2.1 h h50 hfr ok (by rw [hbn]; omega) (fun _ => by omega) hA hact.2.1 h7 (by omega) k8 (fun M1 hq => ?_)
        revert hq hgd hgt kont
        generalize acE M0 (ev M0 n) (M0 13 (12 * b + i)) (M0 14 (12 * b + i)) (M0 15 (12 * b + i)) (M0 16 (12 * b + i)) (ob + 1) (mu σ 45 0 (σ 45 0 + 1)) = q
        intro kont hgd hgt hq
        have next : ∀ (M2 τ : Mem), tkE M0 b fc i q = (-6, τ) → INS M0 x f (ob + 1) Mb M2 τ → M2 50 0 = 0 → FRs f b (i + 1) (-6) 0 0 M2 → G M2 := fun M2 τ et a1 a2 a3 => by
          rw [et] at kont hgt
          have h5 := hgt.2.2.2.2.1 (by show (-6 : Int) ≠ 23; decide)
          have hu2 := hgt.2.1
          exact ih (i + 1) (i + 1) M2 τ (by omega) (by omega) (Int.le_refl _) a1 a2 (by rw [if_neg (by omega)]; exact a3) hgt.1 h5.1 h5.2 (by have : Un M0 τ ≤ _ := hu2; omega) kont
        rcases hq with ho | ⟨q6, a1, a2, a3⟩ | ⟨hup, b1, b2, b3, b4⟩
        · have et : tkE M0 b fc i q = q := by unfold tkE; rw [if_pos (Or.inr ho.1)]
          rw [et, if_neg (by rw [ho.1]; decide)] at kont
          exact kont M1 ho.en
        · have et : tkE M0 b fc i q = q := by unfold tkE; rw [if_pos (Or.inl q6)]
          exact next M1 q.2 (by rw [et]; exact Prod.ext q6 rfl) a1 a2 a3
        · have q22 : q.1 ≤ 22 := by have := hgd.2.2.2.1; have := hup.2.1; omega
          refine body_up C hgd.1 hup q22 b1 b2 b3 b4 ok hb.1 fc0 fc1 (fun M2 c1 c2 c3 c4 => next M2 _ c4 c1 c2 c3) (fun M2 c1 c2 => ?_)
          rw [c2, if_neg (by have := hup.1; omega)] at kont
          exact kont M2 c1
theorem SIMb_s {G Q : Mem → Prop} {B : Int} {M0 : Mem} {x : Int} {n : Nat} (C : CTX G Q B M0 x n) : SIMb G B M0 x (n + 1) := by
  intro b f ob M σ hb ⟨hr, h38, h44, h49, h50⟩ ⟨p1, p2, p3, p4, p5, p6, p7⟩ kont
  obtain ⟨hM, w, hx, hB, -⟩ := id C
  have e : ev M0 (n + 1) false b ob σ = bdE M0 (ev M0 n) b ob σ := rfl
  rw [e] at kont
  unfold bdE at kont
  by_cases h30 : 30 ≤ ob
  · rw [if_pos h30] at kont
    exact kont _ (push_over hr h44 (by omega))
  · rw [if_neg h30] at kont
    have hv : 0 ≤ (if σ 46 0 < ob + 1 then ob + 1 else σ 46 0) ∧ (if σ 46 0 < ob + 1 then ob + 1 else σ 46 0) ≤ 30 := by
      have := p4.2.2.2.2.2.1
      split <;> omega
    have hm := mu46_inv p4 hv
    obtain ⟨k1, k2, ⟨k3, k4, k5, k6, k7, k8⟩, k9, k10, k11, k12⟩ := push_ok (b := b) hr h38 h44 h30 p1.2
    have hz := (w.size b hb.1 hb.2).1
    have hu : Un M0 (mu σ 46 0 (if σ 46 0 < ob + 1 then ob + 1 else σ 46 0)) = Un M0 σ := Un_same (hm.2 28 (by decide))
    refine body_loop (Mb := M) (U := Un M0 σ) C ⟨by omega, p2.2⟩ (by omega) ⟨p1.1, by omega⟩ hb (Un_0 _ _) (M0 12 b).toNat 0 0 _ _ (by omega) (by decide) (by decide) ⟨k1, k9, k10, k11.trans h49, k2⟩ (k12.trans h50) ⟨k3, k4, k5, by rw [if_neg (by decide)]; exact k6, k7, k8⟩ hm.1 (by rw [hm.2 47 (by decide)]; exact p5) ?_ (by omega) kont
    unfold slk at p7 ⊢
    rw [hm.2 30 (by decide), hm.2 45 (by decide), hm.2 47 (by decide)]
    exact p7
