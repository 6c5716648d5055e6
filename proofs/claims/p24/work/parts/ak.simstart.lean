/-! BOTH TOUCHES: a start -/
def FSs (f t k : Int) (M : Mem) : Prop := M 39 f = 1 ∧ M 40 f = t ∧ M 41 f = k
theorem FSs.bl {M M1 : Mem} {f t k : Int} (hf : FSs f t k M) (hb : BLW (f + 1) M M1) : FSs f t k M1 := by
  have b := hb f (by omega)
  exact ⟨b.1.trans hf.1, b.2.1.trans hf.2.1, b.2.2.1.trans hf.2.2⟩
theorem INS_f {M0 Mb M M1 σ : Mem} {x f ob : Int} (h : INS M0 x f ob Mb M σ) (hs : SCf M M1) : INS M0 x f ob Mb M1 σ := INS_c h (fun k hk => hs k (by omega) (by omega) (by omega) (by omega) (by omega)) (BLW_c (fun k hk => hs k (by omega) (by omega) (by omega) (by omega) (by omega)))
theorem gos_turn {G Q : Mem → Prop} {B : Int} {M0 Mb M σ : Mem} {x f ob t k : Int} {n : Nat} (C : CTX G Q B M0 x n) (hi : INV B M0 σ) (h : INS M0 x f ob Mb M σ) (h50 : M 50 0 = 0) (hf : FSs f t k M) (ok : (0 ≤ f ∧ f ≤ 98) ∧ (0 ≤ ob ∧ ob ≤ 30)) (ht : 0 ≤ t ∧ t < M0 0 0) (hk : 0 ≤ k ∧ k ≤ 100) (h39 : k = (LF M0 t).length → σ 32 0 ≤ 39)
    (kont : ∀ Ms, SCf M Ms → G (gosM (LF M0 t) t f Ms)) : G M := by
  obtain ⟨hM, w, hx, hB, -⟩ := C
  obtain ⟨hr, h38, h44, h49, hb⟩ := h
  obtain ⟨f1, f2, f3⟩ := hf
  have sd := hr.1.sd
  have x37 := hr.1.2.2.2.1
  have c32 := hr.2.2.2.2.1.1
  have c48 := hr.2.2.2.2.2.2.2.2
  have i2 := hi.2.1
  have i3 := hi.2.2.1
  have hu := Un_0 M0 σ
  refine hM.2.2.1 M t f (by omega) h49 h50 ?_ ⟨SD_WFD sd w, RG_of hx hr hi hB h38 h44 (by omega) ok.2, by omega, ok.1.1, f2, ?_, by omega, ?_, ?_, by omega⟩ (fun Ms hs => ?_)
  · rw [h38, show f + 1 - 1 = f by omega, f1]; decide
  · rw [sd 0 (by decide) (by decide)]; exact ht
  · rw [x37, c32]; omega
  · rw [x37, c32, f3, SD_LF sd]; exact h39
  · rw [SD_LF sd]; exact kont Ms hs
theorem seE_ar {of t : Int} {σ : Mem} : seE t (arE 20 of σ) = arE 20 of (mu σ 28 t 3) := by
  have h : (arE 20 of σ).1 ≠ -6 := by rcases arE_1 (n := 20) (of := of) (σ := σ) with q | q <;> omega
  have h47 : mu σ 28 t 3 47 0 = σ 47 0 := mu_ne (by omega)
  refine Prod.ext ?_ ?_
  · show (if 40 < σ 47 0 + 1 then (23 : Int) else 20) = (if 40 < mu σ 28 t 3 47 0 + 1 then (23 : Int) else 20)
    rw [h47]
  · show mu (arE 20 of σ).2 28 t (if (arE 20 of σ).1 = -6 then 2 else 3) = mu (mu (mu σ 28 t 3) 47 0 (mu σ 28 t 3 47 0 + 1)) 52 0 of
    rw [if_neg h, h47]
    show mu (mu (mu σ 47 0 (σ 47 0 + 1)) 52 0 of) 28 t 3 = _
    funext k i
    unfold mu
    by_cases h1 : k = 28 ∧ i = t
    · rw [if_pos h1, if_neg (by omega), if_neg (by omega), if_pos h1]
    · rw [if_neg h1]
      by_cases h2 : k = 52 ∧ i = 0
      · rw [if_pos h2, if_pos h2]
      · rw [if_neg h2, if_neg h2]
        by_cases h3 : k = 47 ∧ i = 0
        · rw [if_pos h3, if_pos h3]
        · rw [if_neg h3, if_neg h3, if_neg h1]
theorem OVq_se {M0 M1 : Mem} {x t : Int} {q : Int × Mem} (h : OVq M0 x q M1) : OVq M0 x (seE t (sfE q)) M1 := by
  have e : sfE q = q := by unfold sfE; rw [if_neg (by rw [h.1]; decide)]
  rw [e]
  obtain ⟨a, b, c, d, e1, g, i⟩ := h
  have o : ∀ k : Int, k ≠ 28 → (seE t q).2 k = q.2 k := fun k hk => mu_f _ _ _ _ hk
  exact ⟨a, b, c, by rw [o 45 (by decide)]; exact d, by rw [o 46 (by decide)]; exact e1, by rw [o 47 (by decide)]; exact g, by rw [o 48 (by decide)]; exact i⟩
theorem over_ov {M0 M σ : Mem} {x : Int} (h : RSg M0 x M σ) : OVq M0 x (23, σ) (mu M 49 0 1) := by
  rcases over_end (Mb := M) (f := 0) (ob := 0) h with a | a
  · exact absurd rfl a.1
  · exact a
/-- a failure comes up to a start's frame -/
theorem st_down {G Q : Mem → Prop} {B : Int} {M0 Mb M : Mem} {x f ob t k : Int} {n : Nat} {q : Int × Mem} (C : CTX G Q B M0 x n) (hi : INV B M0 q.2) (hup : UPq M0 x f ob Mb q M) (q22 : q.1 ≤ 22) (h47 : q.2 47 0 ≤ 40) (hf : FSs f t k M) (ok : (0 ≤ f ∧ f ≤ 98) ∧ (0 ≤ ob ∧ ob ≤ 30)) (ht : 0 ≤ t ∧ t < M0 0 0) (hk : 0 ≤ k ∧ k ≤ 100)
    (kont : ∀ M2, ENDq M0 x f ob Mb (seE t (if k = (LF M0 t).length + 1 then sfE q else q)) M2 → G M2) : G M := by
  obtain ⟨hM, w, hx, hB, -⟩ := C
  obtain ⟨q0, q23, hin, h50, h51, h52⟩ := hup
  obtain ⟨hr, h38, h44, h49, hb⟩ := id hin
  obtain ⟨f1, f2, f3⟩ := hf
  have sd := hr.1.sd
  have hn := w.n
  have x37 := hr.1.2.2.2.1
  refine hM.2.1 M f (by omega) h49 (by omega) ⟨SD_WFD sd w, RG_of hx hr hi hB h38 h44 (by omega) ok.2, by omega, ok.1.1, fun _ => ?_, by omega, fun z => absurd (f1.symm.trans z) (by decide), by omega⟩ (fun M2 hd => ?_)
  · rw [f2, sd 0 (by decide) (by decide)]; exact ht
  rcases hd with ⟨_, Ms, hs, rfl⟩ | ⟨g, _⟩ | ⟨g, _⟩ | ⟨g, _⟩
  · rw [x37, f2] at hs
    rw [f2, SD_LF sd]
    have m57 : INS M0 x f ob Mb (mu M 57 f 0) q.2 := INS_c hin (fun k hk => mu_f _ _ _ _ (by omega)) (fun j hj => ⟨mu_ne (by omega), mu_ne (by omega), mu_ne (by omega), mu_ne (by omega), mu_ne (by omega), mu_ne (by omega)⟩)
    have m28 : INS M0 x f ob Mb (mu (mu M 57 f 0) 28 (40 * x + t) 3) (mu q.2 28 t 3) :=
      ⟨RSg_28 m57.1 rfl ht.1 (by omega), (mu_ne (by omega)).trans m57.2.1, (mu_ne (by omega)).trans m57.2.2.1, (mu_ne (by omega)).trans m57.2.2.2.1, m57.2.2.2.2.trans (BLW_c (fun k hk => mu_f _ _ _ _ (by omega)))⟩
    have ms := INS_f m28 hs
    have e : ∀ u i : Int, u ≠ 18 → u ≠ 20 → u ≠ 21 → u ≠ 22 → u ≠ 23 → u ≠ 28 → u ≠ 57 → Ms u i = M u i := fun u i a b c d g g1 g2 => by rw [hs u a b c d g, mu_ne (by omega), mu_ne (by omega)]
    have e41 : Ms 41 f = k := (e 41 f (by decide) (by decide) (by decide) (by decide) (by decide) (by decide) (by decide)).trans f3
    have e51 : Ms 51 0 = q.1 := (e 51 0 (by decide) (by decide) (by decide) (by decide) (by decide) (by decide) (by decide)).trans h51
    have e50 : Ms 50 0 = 1 := (e 50 0 (by decide) (by decide) (by decide) (by decide) (by decide) (by decide) (by decide)).trans h50
    have e52 : Ms 52 0 = q.2 52 0 := (e 52 0 (by decide) (by decide) (by decide) (by decide) (by decide) (by decide) (by decide)).trans h52
    have p38 : RSg M0 x (mu Ms 38 0 (Ms 38 0 - 1)) (mu q.2 28 t 3) := RSg_c ms.1 (fun k hk => mu_f _ _ _ _ (by omega))
    have pb : BLW f Mb (mu Ms 38 0 (Ms 38 0 - 1)) := ms.2.2.2.2.trans (BLW_c (fun k hk => mu_f _ _ _ _ (by omega)))
    have p1 : mu Ms 38 0 (Ms 38 0 - 1) 38 0 = f := by rw [mu_s, ms.2.1]; omega
    have p2 : mu Ms 38 0 (Ms 38 0 - 1) 44 0 = ob := (mu_ne (by omega)).trans ms.2.2.1
    have p3 : mu Ms 38 0 (Ms 38 0 - 1) 49 0 = 0 := (mu_ne (by omega)).trans ms.2.2.2.1
    have seq : seE t q = (q.1, mu q.2 28 t 3) := by unfold seE; rw [if_neg (by omega)]
    have plain : ENDq M0 x f ob Mb (seE t q) (mu Ms 38 0 (Ms 38 0 - 1)) := by
      rw [seq]
      exact Or.inl ⟨q23, p1, p2, p3, p38, pb, Or.inr ⟨q0, (mu_ne (by omega)).trans e50, (mu_ne (by omega)).trans e51, ((mu_ne (by omega)).trans e52).trans (mu_ne (μ := q.2) (x := 3) (show ¬ ((52 : Int) = 28 ∧ (0 : Int) = t) by omega)).symm⟩⟩
    unfold dnS
    rw [e41, e51]
    by_cases hk1 : k = (LF M0 t).length + 1
    · rw [if_pos hk1] at kont
      by_cases h20 : q.1 < 20
      · rw [if_pos ⟨hk1, h20⟩]
        have esf : sfE q = arE 20 q.1 q.2 := by unfold sfE; rw [if_pos ⟨q0, h20⟩]
        rw [esf, seE_ar] at kont
        exact kont _ (END_fail p38 p1 p2 p3 pb (by rw [mu_ne (by omega)]; exact h47) ⟨by decide, by decide⟩)
      · rw [if_neg (fun z => h20 z.2)]
        have esf : sfE q = q := by unfold sfE; rw [if_neg (fun z => h20 z.2)]
        rw [esf] at kont
        exact kont _ plain
    · rw [if_neg hk1] at kont
      rw [if_neg (fun z => hk1 z.1)]
      exact kont _ plain
  all_goals exact absurd (f1.symm.trans g) (by decide)
theorem start_loop {G Q : Mem → Prop} {B : Int} {M0 Mb : Mem} {x f ob t U : Int} {n : Nat} (C : CTX G Q B M0 x n) (hf : 0 ≤ f ∧ f + 1 + (30 - ob) + U ≤ 75) (hn : (30 - ob) + U + 1 ≤ n) (hob : 0 ≤ ob ∧ ob ≤ 30) (ht : 0 ≤ t ∧ t < M0 0 0) (hU : 0 ≤ U) : ∀ (l : List Int) (k : Int) (M σ : Mem), l = (LF M0 t).drop k.toNat → 0 ≤ k → k ≤ (LF M0 t).length →
    INS M0 x f ob Mb M σ → M 50 0 = 0 → FSs f t k M → INV B M0 σ → σ 47 0 ≤ 40 → slk B 0 σ → Un M0 σ ≤ U → σ 32 0 + Un M0 σ ≤ 39 → (∀ M1, ENDq M0 x f ob Mb (seE t (sfE (sbE (ev M0 n) t ob (seqF (ev M0 n) ob l σ)))) M1 → G M1) → G M := by
  obtain ⟨hM, w, hx, hB, hSs, hSb⟩ := id C
  have hlen := LF_len w ht.1 ht.2
  have ok : (0 ≤ f ∧ f ≤ 98) ∧ (0 ≤ ob ∧ ob ≤ 30) := ⟨⟨hf.1, by omega⟩, hob⟩
  have hn40 := w.n
  intro l
  induction l with
  | nil =>
    intro k M σ hl k0 k1 h h50 hfs hi h47 hs hu h39 kont
    have hk : k = (LF M0 t).length := by
      have := congrArg List.length hl
      rw [List.length_drop, List.length_nil] at this
      omega
    have u0 := Un_0 M0 σ
    refine gos_turn C hi h h50 hfs ok ht (by omega) (fun _ => by omega) (fun Ms hms => ?_)
    have ms := INS_f h hms
    have e : ∀ u : Int, u ≠ 18 → u ≠ 20 → u ≠ 21 → u ≠ 22 → u ≠ 23 → Ms u = M u := hms
    have e41 : Ms 41 f = k := by rw [hms 41 (by decide) (by decide) (by decide) (by decide) (by decide)]; exact hfs.2.2
    have x37 := ms.1.1.2.2.2.1
    have m41 : INS M0 x f ob Mb (mu Ms 41 f (k + 1)) σ := INS_c ms (fun k hk => mu_f _ _ _ _ (by omega)) (fun j hj => ⟨mu_ne (by omega), mu_ne (by omega), mu_ne (by omega), mu_ne (by omega), mu_ne (by omega), mu_ne (by omega)⟩)
    have f41 : FSs f t (k + 1) (mu Ms 41 f (k + 1)) := ⟨by rw [mu_ne (by omega), hms 39 (by decide) (by decide) (by decide) (by decide) (by decide)]; exact hfs.1, by rw [mu_ne (by omega), hms 40 (by decide) (by decide) (by decide) (by decide) (by decide)]; exact hfs.2.1, mu_s _ _ _ _⟩
    have s50 : Ms 50 0 = 0 := by rw [hms 50 (by decide) (by decide) (by decide) (by decide) (by decide)]; exact h50
    have eq0 : sbE (ev M0 n) t ob (seqF (ev M0 n) ob [] σ) = if 30 ≤ ob then (23, σ) else ev M0 n false (5 * t) ob (rowP t σ) := by
      show sbE (ev M0 n) t ob (-6, σ) = _
      unfold sbE
      rw [if_pos rfl]
    rw [eq0] at kont
    unfold gosM
    rw [e41, if_neg (by omega), if_pos hk, ms.2.2.1]
    by_cases h30 : ob = 30
    · rw [if_pos h30]
      rw [if_pos (by omega)] at kont
      exact kont _ (OVq_se (over_ov m41.1)).en
    · rw [if_neg h30, x37]
      rw [if_neg (by omega)] at kont
      have r0 : 0 ≤ σ 32 0 := hi.2.1.1
      have c28 : rowP t σ 28 = σ 28 := funext fun i => rowP_o (by decide) (by decide) (by decide)
      have hro := rowP_inv (t := t) hi h39
      have hur : Un M0 (rowP t σ) = Un M0 σ := Un_same c28
      have h47r : rowP t σ 47 0 ≤ 40 := by rw [rowP_o (by decide) (by decide) (by decide)]; exact h47
      have hsr : slk B 0 (rowP t σ) := by
        unfold slk at hs ⊢
        rw [rowP_o (by decide) (by decide) (by decide), rowP_o (by decide) (by decide) (by decide), rowP_o (by decide) (by decide) (by decide)]
        exact hs
      have rr := RSg_row (t := t) m41.1 r0 (by omega)
      rw [show mu Ms 41 f (k + 1) 32 x = Ms 32 x from mu_ne (by omega), show mu Ms 41 f (k + 1) 48 0 = Ms 48 0 from mu_ne (by omega)] at rr
      have oth : ∀ u i : Int, u ≠ 33 → u ≠ 32 → u ≠ 48 → mu (mu (mu (mu Ms 41 f (k + 1)) 33 (40 * x + Ms 32 x) t) 32 x (Ms 32 x + 1)) 48 0 (Ms 48 0 + 1) u i = mu Ms 41 f (k + 1) u i := fun u i a b c => by rw [mu_ne (by omega), mu_ne (by omega), mu_ne (by omega)]
      have ok' : ∀ u : Int, u ≠ 33 → u ≠ 32 → u ≠ 48 → mu (mu (mu (mu Ms 41 f (k + 1)) 33 (40 * x + Ms 32 x) t) 32 x (Ms 32 x + 1)) 48 0 (Ms 48 0 + 1) u = mu Ms 41 f (k + 1) u := fun u a b c => funext fun i => oth u i a b c
      revert rr oth ok'
      generalize mu (mu (mu (mu Ms 41 f (k + 1)) 33 (40 * x + Ms 32 x) t) 32 x (Ms 32 x + 1)) 48 0 (Ms 48 0 + 1) = N
      intro rr oth ok'
      have mN : INS M0 x f ob Mb N (rowP t σ) := ⟨rr, (oth 38 0 (by decide) (by decide) (by decide)).trans m41.2.1, (oth 44 0 (by decide) (by decide) (by decide)).trans m41.2.2.1, (oth 49 0 (by decide) (by decide) (by decide)).trans m41.2.2.2.1, m41.2.2.2.2.trans (BLW_c (fun u hu => ok' u (by omega) (by omega) (by omega)))⟩
      have fN : FSs f t (k + 1) N := ⟨(oth 39 f (by decide) (by decide) (by decide)).trans f41.1, (oth 40 f (by decide) (by decide) (by decide)).trans f41.2.1, (oth 41 f (by decide) (by decide) (by decide)).trans f41.2.2⟩
      have N50 : N 50 0 = 0 := ((oth 50 0 (by decide) (by decide) (by decide)).trans (mu_ne (by omega))).trans s50
      have hgd := ev_good (B := B) w n false (5 * t) ob 0 (rowP t σ) (fun q => absurd q (by decide)) (fun _ => by omega) hob.1 (by decide) hro h47r hsr
      refine hSb (5 * t) (f + 1) ob N (rowP t σ) (by omega) ⟨mN.1, mN.2.1, mN.2.2.1, mN.2.2.2.1, N50⟩ ⟨hob, ⟨by omega, by omega⟩, by omega, hro, h47r, hB, hsr⟩ (fun M1 hE => ?_)
      revert hE hgd kont
      generalize ev M0 n false (5 * t) ob (rowP t σ) = q
      intro kont hgd hE
      rcases END_in hE mN.2.2.2.2 with ho | ⟨hb, ⟨q6, hin, q50⟩ | hup⟩
      · exact kont M1 (OVq_se ho).en
      · refine gos_turn C hgd.1 hin q50 (fN.bl hb) ok ht (by omega) (fun z => by omega) (fun M2 hm2 => ?_)
        have m2 := INS_f hin hm2
        have e42 : M2 41 f = k + 1 := by rw [hm2 41 (by decide) (by decide) (by decide) (by decide) (by decide)]; exact (fN.bl hb).2.2
        have e50 : M2 50 0 = 0 := by rw [hm2 50 (by decide) (by decide) (by decide) (by decide) (by decide)]; exact q50
        have esf : sfE q = q := by unfold sfE; rw [if_neg (by rw [q6]; decide)]
        have ese : seE t q = (-6, mu q.2 28 t 2) := by unfold seE; rw [if_pos q6, q6]
        rw [esf, ese] at kont
        unfold gosM
        rw [e42, if_neg (by omega), if_neg (by omega), m2.1.1.2.2.2.1]
        have m3 : INS M0 x f ob Mb (mu M2 41 f (k + 1 + 1)) q.2 := INS_c m2 (fun k hk => mu_f _ _ _ _ (by omega)) (fun j hj => ⟨mu_ne (by omega), mu_ne (by omega), mu_ne (by omega), mu_ne (by omega), mu_ne (by omega), mu_ne (by omega)⟩)
        have p28 := RSg_28 (v := 2) m3.1 rfl ht.1 (show t < 40 by omega)
        refine kont _ (Or.inl ⟨by show (-6 : Int) ≠ 23; decide, ?_, ?_, ?_, RSg_c p28 (fun k hk => mu_f _ _ _ _ (by omega)), ?_, Or.inl ⟨rfl, ?_⟩⟩)
        · rw [mu_s, m2.2.1]; omega
        · rw [mu_ne (by omega), mu_ne (by omega)]; exact m3.2.2.1
        · rw [mu_ne (by omega), mu_ne (by omega)]; exact m3.2.2.2.1
        · exact m3.2.2.2.2.trans (BLW_c (fun k hk => by rw [mu_f _ _ _ _ (by omega), mu_f _ _ _ _ (by omega)]))
        · rw [mu_ne (by omega), mu_ne (by omega), mu_ne (by omega)]; exact e50
      · have q22 : q.1 ≤ 22 := by have := hgd.2.2.2.1; have := hup.2.1; omega
        refine st_down C hgd.1 hup q22 (hgd.2.2.2.2.1 hup.2.1).1 (fN.bl hb) ok ht (by omega) (fun M2 h2 => kont M2 ?_)
        rw [if_pos (by omega)] at h2
        exact h2
  | cons a l ih =>
    intro k M σ hl k0 k1 h h50 hfs hi h47 hs hu h39 kont
    have hk : k < (LF M0 t).length := by
      have := congrArg List.length hl
      rw [List.length_drop, List.length_cons] at this
      omega
    have hd := drop_cons k0 hk
    rw [← hl] at hd
    obtain ⟨ea, el⟩ := List.cons.inj hd
    have hain : 0 ≤ a ∧ a < M0 0 0 := LF_all w ht.1 ht.2 a (List.mem_of_mem_drop (i := k.toNat) (by rw [← hl]; exact List.mem_cons_self))
    refine gos_turn C hi h h50 hfs ok ht (by omega) (fun z => by omega) (fun Ms hms => ?_)
    have ms := INS_f h hms
    have e41 : Ms 41 f = k := by rw [hms 41 (by decide) (by decide) (by decide) (by decide) (by decide)]; exact hfs.2.2
    have m41 : INS M0 x f ob Mb (mu Ms 41 f (k + 1)) σ := INS_c ms (fun k hk => mu_f _ _ _ _ (by omega)) (fun j hj => ⟨mu_ne (by omega), mu_ne (by omega), mu_ne (by omega), mu_ne (by omega), mu_ne (by omega), mu_ne (by omega)⟩)
    have f41 : FSs f t (k + 1) (mu Ms 41 f (k + 1)) := ⟨by rw [mu_ne (by omega), hms 39 (by decide) (by decide) (by decide) (by decide) (by decide)]; exact hfs.1, by rw [mu_ne (by omega), hms 40 (by decide) (by decide) (by decide) (by decide) (by decide)]; exact hfs.2.1, mu_s _ _ _ _⟩
    have s50 : mu Ms 41 f (k + 1) 50 0 = 0 := by rw [mu_ne (by omega), hms 50 (by decide) (by decide) (by decide) (by decide) (by decide)]; exact h50
    unfold gosM
    rw [e41, if_pos hk, ← ea]
    have hgd := ev_good (B := B) w n true a ob 0 σ (fun _ => hain) (fun q => absurd q (by decide)) hob.1 (by decide) hi h47 hs
    have h20 := ev_20 (M := M0) (n := n) (t := a) (ob := ob) (σ := σ)
    have es : seqF (ev M0 n) ob (a :: l) σ = if (ev M0 n true a ob σ).1 = -6 then seqF (ev M0 n) ob l (ev M0 n true a ob σ).2 else ev M0 n true a ob σ := rfl
    rw [es] at kont
    refine hSs a (f + 1) ob _ σ hain ⟨m41.1, m41.2.1, m41.2.2.1, m41.2.2.2.1, s50⟩ ⟨hob, ⟨by omega, by omega⟩, by omega, hi, h47, hB, hs⟩ (fun M1 hE => ?_)
    revert hE hgd h20 kont
    generalize ev M0 n true a ob σ = q
    intro kont hgd h20 hE
    rcases END_in hE m41.2.2.2.2 with ho | ⟨hb, ⟨q6, hin, q50⟩ | hup⟩
    · have q1 := ho.1
      rw [if_neg (by omega)] at kont
      have esb : sbE (ev M0 n) t ob q = q := by unfold sbE; rw [if_neg (by omega)]
      rw [esb] at kont
      exact kont M1 (OVq_se ho).en
    · rw [if_pos q6] at kont
      have h5 := hgd.2.2.2.2.1 (by rw [q6]; decide)
      have hu2 := hgd.2.1
      have h32 := hgd.2.2.1
      exact ih (k + 1) M1 q.2 el (by omega) (by omega) hin q50 (f41.bl hb) hgd.1 h5.1 h5.2 (by omega) (by omega) kont
    · have q0 := hup.1
      have q22 : q.1 ≤ 22 := by have := hgd.2.2.2.1; have := hup.2.1; omega
      rw [if_neg (by omega)] at kont
      have esb : sbE (ev M0 n) t ob q = q := by unfold sbE; rw [if_neg (by omega)]
      have esf : sfE q = q := by unfold sfE; rw [if_neg h20]
      rw [esb, esf] at kont
      refine st_down C hgd.1 hup q22 (hgd.2.2.2.2.1 hup.2.1).1 (f41.bl hb) ok ht (by omega) (fun M2 h2 => kont M2 ?_)
      rw [if_neg (by omega)] at h2
      exact h2
theorem SIMs_s {G Q : Mem → Prop} {B : Int} {M0 : Mem} {x : Int} {n : Nat} (C : CTX G Q B M0 x n) : SIMs G B M0 x (n + 1) := by
  intro t f ob M σ ht ⟨hr, h38, h44, h49, h50⟩ ⟨p1, p2, p3, p4, p5, p6, p7⟩ kont
  obtain ⟨hM, w, hx, hB, -⟩ := id C
  have hn40 := w.n
  have e : ev M0 (n + 1) true t ob σ = stE M0 (ev M0 n) t ob σ := rfl
  rw [e] at kont
  unfold stE at kont
  by_cases h3 : σ 28 t = 3
  · rw [if_pos h3] at kont
    exact kont _ (start_3 hr ht.1 (by omega) h38 h44 h49 BLW.rf p5 h3)
  · rw [if_neg h3] at kont
    by_cases h0 : σ 28 t = 0
    · rw [if_neg (fun z => z h0)] at kont
      obtain ⟨k1, k2, ⟨k3, k4, k5⟩, k6, k7, k8, k9⟩ := start_ok hr ht.1 (show t < 40 by omega) h38 h0
      have hm := mu28_inv (t := t) p4 (v := 1) ⟨by decide, by decide⟩
      have hu := Un_set (M := M0) ht.1 ht.2 h0
      have hb := p4.2.1.2
      have e32 : mu σ 28 t 1 32 0 = σ 32 0 := by rw [hm.2 32 (by decide)]
      refine start_loop (Mb := M) (U := Un M0 (mu σ 28 t 1)) C ⟨by omega, by omega⟩ (by omega) p1 ht (Un_0 _ _) (LF M0 t) 0 _ _ rfl (by decide) (by omega) ⟨k1, k6, k7.trans h44, k8.trans h49, k2⟩ (k9.trans h50) ⟨k3, k4, k5⟩ hm.1 (by rw [hm.2 47 (by decide)]; exact p5) ?_ (by omega) (by omega) kont
      unfold slk at p7 ⊢
      rw [hm.2 30 (by decide), hm.2 45 (by decide), hm.2 47 (by decide)]
      exact p7
    · rw [if_pos h0] at kont
      rw [start_n hr ht.1 (by omega) h3 h0]
      exact kont _ (Or.inl ⟨by show (-6 : Int) ≠ 23; decide, h38, h44, h49, hr, BLW.rf, Or.inl ⟨rfl, h50⟩⟩)
theorem SIM_all {G Q : Mem → Prop} {B : Int} {M0 : Mem} {x : Int} (hM : Mach Q G) (w : WFD M0) (hx : 0 ≤ x ∧ x ≤ 12) (hB : 0 ≤ B ∧ B ≤ 2000000000) : ∀ n : Nat, SIMs G B M0 x n ∧ SIMb G B M0 x n := by
  intro n
  induction n with
  | zero =>
    refine ⟨fun t f ob M σ _ _ hp _ => ?_, fun t f ob M σ _ _ hp _ => ?_⟩
    all_goals
      have h1 := hp.2.2.1
      have h2 := hp.1.2
      have h3 := Un_0 M0 σ
      exfalso; omega
  | succ n ih => exact ⟨SIMs_s ⟨hM, w, hx, hB, ih.1, ih.2⟩, SIMb_s ⟨hM, w, hx, hB, ih.1, ih.2⟩⟩
