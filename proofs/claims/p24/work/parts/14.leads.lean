/-- what holds as the reference goes through the ways: n places wait, a is where it began -/
def LI (M : Mem) (a n : Int) (M1 : Mem) : Prop :=
  (∀ k : Int, k ≠ 18 → k ≠ 19 → M1 k = M k) ∧ 0 ≤ n ∧ n + 5 * (cntz (M1 19) (M 0 0).toNat : Int) ≤ 201 ∧
  (∀ i : Int, 0 ≤ i → i < n → (M1 18 i < 0 ∨ (0 ≤ M1 18 i ∧ M1 18 i < M 0 0 ∧ RS M a (M1 18 i)))) ∧
  (∀ x : Int, 0 ≤ x → x < M 0 0 → M1 19 x = 1 → RS M a x) ∧
  (∀ x y : Int, 0 ≤ x → x < M 0 0 → M1 19 x = 1 → edge M x y → M1 19 y = 1 ∨ ∃ i : Int, 0 ≤ i ∧ i < n ∧ M1 18 i = y) ∧
  (M1 19 a = 1 ∨ ∃ i : Int, 0 ≤ i ∧ i < n ∧ M1 18 i = a)
theorem LI_skip {M : Mem} {a n m : Int} {M1 : Mem} (w : WFD M) (h : LI M a n M1) (ha : 0 ≤ a) (hn : 0 < n) (hm : m = n - 1) (hs : M1 18 m < 0 ∨ M1 19 (M1 18 m) = 1) : LI M a m M1 := by
  subst hm
  obtain ⟨h1, h2, h3, h4, h5, h6, h7⟩ := h
  refine ⟨h1, by omega, by omega, fun i hi hj => h4 i hi (by omega), h5, fun x y hx hy hz he => ?_, ?_⟩
  · rcases h6 x y hx hy hz he with h | ⟨i, i0, i1, i2⟩
    · exact Or.inl h
    · by_cases hi : i = n - 1
      · subst hi
        have := WFD_edge w he
        rcases hs with hs | hs
        · omega
        · rw [i2] at hs; exact Or.inl hs
      · exact Or.inr ⟨i, i0, by omega, i2⟩
  · rcases h7 with h | ⟨i, i0, i1, i2⟩
    · exact Or.inl h
    · by_cases hi : i = n - 1
      · subst hi
        rcases hs with hs | hs
        · omega
        · rw [i2] at hs; exact Or.inl hs
      · exact Or.inr ⟨i, i0, by omega, i2⟩
theorem LI_push {M : Mem} {a n t m : Int} {M1 M2 : Mem} (w : WFD M) (h : LI M a n M1) (hn : 0 < n) (hm : m = n - 1) (ht : M1 18 m = t) (h0 : 0 ≤ t) (hz : M1 19 t = 0)
    (e1 : ∀ k : Int, k ≠ 18 → k ≠ 19 → M2 k = M k) (e2 : M2 19 t = 1) (e3 : ∀ x, x ≠ t → M2 19 x = M1 19 x) (e4 : ∀ i : Int, 0 ≤ i → i < m → M2 18 i = M1 18 i) (e5 : M2 18 m = M 3 t) (e6 : ∀ j : Int, 0 ≤ j → j < M 4 t → M2 18 (n + j) = M 5 (4 * t + j)) :
    LI M a (n + M 4 t) M2 ∧ cntz (M2 19) (M 0 0).toNat + 1 = cntz (M1 19) (M 0 0).toNat := by
  subst hm
  obtain ⟨h1, h2, h3, h4, h5, h6, h7⟩ := h
  have hn0 := w.n
  obtain ⟨t0, t1, tR⟩ : 0 ≤ t ∧ t < M 0 0 ∧ RS M a t := by
    rcases h4 (n - 1) (by omega) (by omega) with h | h
    · omega
    · rw [ht] at h; exact h
  have hc := (w.cnt t t0 (by omega)).1
  have hcz := cntz_upd (f := M1 19) (g := M2 19) (i := t) hz (by rw [e2]; decide) (fun j hj => e3 j hj) (M 0 0).toNat t0 (by omega)
  have hab := w.above t t0 t1
  refine ⟨⟨e1, by omega, by omega, fun i hi hj => ?_, fun x hx hy hs => ?_, fun x y hx hy hs he => ?_, ?_⟩, hcz⟩
  · by_cases c1 : i < n - 1
    · rw [e4 i hi c1]; exact h4 i hi (by omega)
    · by_cases c2 : i = n - 1
      · subst c2
        rw [e5]
        by_cases c3 : M 3 t < 0
        · exact Or.inl c3
        · exact Or.inr ⟨by omega, by omega, tR.tail ⟨t0, t1, Or.inl ⟨rfl, by omega⟩⟩⟩
      · have hf := w.face t (i - n) t0 t1 (by omega) (by omega)
        have := e6 (i - n) (by omega) (by omega)
        rw [show n + (i - n) = i by omega] at this
        rw [this]
        exact Or.inr ⟨hf.1, hf.2.1, tR.tail ⟨t0, t1, Or.inr ⟨i - n, by omega, by omega, rfl⟩⟩⟩
  · by_cases hxt : x = t
    · rw [hxt]; exact tR
    · rw [e3 x hxt] at hs; exact h5 x hx hy hs
  · by_cases hxt : x = t
    · subst hxt
      obtain ⟨-, -, ⟨hb, hb2⟩ | ⟨k, k0, k1, k2⟩⟩ := he
      · exact Or.inr ⟨n - 1, by omega, by omega, by rw [e5, hb]⟩
      · exact Or.inr ⟨n + k, by omega, by omega, by rw [e6 k k0 k1, k2]⟩
    · rw [e3 x hxt] at hs
      by_cases hyt : y = t
      · subst hyt; exact Or.inl e2
      · rcases h6 x y hx hy hs he with h | ⟨i, i0, i1, i2⟩
        · exact Or.inl (by rw [e3 y hyt]; exact h)
        · have : i ≠ n - 1 := fun hh => hyt (by rw [← i2, hh, ht])
          exact Or.inr ⟨i, i0, by omega, by rw [e4 i i0 (by omega)]; exact i2⟩
  · by_cases hat : a = t
    · exact Or.inl (by rw [hat]; exact e2)
    · rcases h7 with h | ⟨i, i0, i1, i2⟩
      · exact Or.inl (by rw [e3 a hat]; exact h)
      · have : i ≠ n - 1 := fun hh => hat (by rw [← i2, hh, ht])
        exact Or.inr ⟨i, i0, by omega, by rw [e4 i i0 (by omega)]; exact i2⟩
theorem LI_end {M : Mem} {a b n : Int} {M1 : Mem} (w : WFD M) (h : LI M a n M1) (hn : n ≤ 0) (hb : 0 ≤ b) (hb1 : b < M 0 0) : M1 19 b = 1 ↔ RS M a b := by
  obtain ⟨h1, h2, h3, h4, h5, h6, h7⟩ := h
  refine ⟨h5 b hb hb1, fun hr => ?_⟩
  refine RS.closed (P := fun x => M1 19 x = 1) hr ?_ (fun x y hx he => ?_)
  · rcases h7 with h | ⟨i, i0, i1, -⟩
    · exact h
    · omega
  · rcases h6 x y he.1 he.2.1 hx he with h | ⟨i, i0, i1, -⟩
    · exact h
    · omega
theorem tX7_leads {Γ : GC} {αC : Sh} {C M : Mem} {a b : Int} (w : WFD M) (ha : 0 ≤ a ∧ a < M 0 0) (hb : 0 ≤ b ∧ b < M 0 0) : MM Γ yX7_leads cX7_leads 6 (some .boolean) 0 [(0, a), (0, b)] αC C M (mI fun r M1 => (∀ k : Int, k ≠ 18 → k ≠ 19 → M1 k = M k) ∧ (0 ≤ r ∧ r ≤ 1) ∧ (r = 1 ↔ (a ≠ b ∧ RS M a b))) := by
  have hn0 := w.n
  refine MM_of (k := 3) [(3, 0), (0, a), (0, b), (9, 0), (9, 0), (9, 0)] pn_X7_leads rfl rfl rfl (fun ad0 => ?_)
  have outer : ∀ (n : Int) (M1 : Mem), LI M a n M1 → V Γ (gα αC) ad0 (ZM Γ (gα αC) ad0 (mQ αC C (mI fun r M1 => (∀ k : Int, k ≠ 18 → k ≠ 19 → M1 k = M k) ∧ (0 ≤ r ∧ r ≤ 1) ∧ (r = 1 ↔ (a ≠ b ∧ RS M a b)))) 0 0) (RM 0 0 0) RX7 cX7_leads 6 (some .boolean) yX7_leads.name 32 [] [(3, 0), (0, a), (0, b), (0, n), (9, 0), (9, 0)] (gα αC) (mm M1 C) 0 0 := by
    refine loop2 _ (fun n M1 => 6 * cntz (M1 19) (M 0 0).toNat + n.toNat) _ ?_
    intro n M1 hI ih
    have fM1 := hI.1
    have fl := hI.1
    have hsz0 := hI.2.2.1
    refine V_iload_n (q := 33) dX7_leads_32 rfl rfl rfl ?_
    refine V_if_le (q := 36) (tgt := 134) dX7_leads_33 (by decide) rfl (fun c33 => ?_) (fun c33 => ?_)
    · refine V_iload_n (q := 135) dX7_leads_134 rfl rfl rfl ?_
      refine V_iload_n (q := 136) dX7_leads_135 rfl rfl rfl ?_
      refine V_icmp_eq (q := 139) (tgt := 152) dX7_leads_136 (by decide) rfl (fun c136 => ?_) (fun c136 => ?_)
      · refine V_iconst (q := 153) dX7_leads_152 rfl (by decide) ?_
        exact VM_zret dX7_leads_153 (by decide) ⟨_, rfl, fl, by decide, ⟨fun h => absurd h (by decide), fun h => absurd c136 h.1⟩⟩
      · refine V_aload_n (q := 140) dX7_leads_139 rfl rfl rfl ?_
        refine VM_getA (q := 143) 20 dX7_leads_140 rfl flX7_62 rfl rfl (Nat.succ_ne_zero _) ?_
        refine V_iload_n (q := 144) dX7_leads_143 rfl rfl rfl ?_
        refine VM_zald (q := 145) 19 dX7_leads_144 rfl rfl (by decide) rfl rfl (by omega) (fun z144 ez144 rz144 => ?_)
        refine V_if_eq (q := 148) (tgt := 152) dX7_leads_145 (by decide) rfl (fun c145 => ?_) (fun c145 => ?_)
        · refine V_iconst (q := 153) dX7_leads_152 rfl (by decide) ?_
          exact VM_zret dX7_leads_153 (by decide) ⟨_, rfl, fl, by decide, ⟨fun h => absurd h (by decide), fun h => absurd ((LI_end w hI (by omega) hb.1 hb.2).mpr h.2) (by rw [← ez144]; omega)⟩⟩
        · refine V_iconst (q := 149) dX7_leads_148 rfl (by decide) ?_
          refine V_goto (tgt := 153) dX7_leads_149 (by decide) ?_
          exact VM_zret dX7_leads_153 (by decide) ⟨_, rfl, fl, by decide, ⟨fun _ => ⟨c136, (LI_end w hI (by omega) hb.1 hb.2).mp (by rw [← ez144]; omega)⟩, fun _ => rfl⟩⟩
    · refine V_iinc (q := 39) dX7_leads_36 rfl rfl (by decide) rfl (by omega) (fun z36 lz36 ez36 hlz36 => ?_)
      obtain rfl : lz36 = [(3, 0), (0, a), (0, b), (0, z36), (9, 0), (9, 0)] := hlz36
      have hpos : 0 < n := by omega
      refine V_aload_n (q := 40) dX7_leads_39 rfl rfl rfl ?_
      refine VM_getA (q := 43) 19 dX7_leads_40 rfl flX7_59 rfl rfl (Nat.succ_ne_zero _) ?_
      refine V_iload_n (q := 44) dX7_leads_43 rfl rfl rfl ?_
      refine VM_iald (q := 45) 18 dX7_leads_44 rfl rfl (by decide) rfl rfl (by omega) (fun z44 ez44 rz44 => ?_)
      refine V_istore (q := 47) (lv1 := [(3, 0), (0, a), (0, b), (0, z36), (0, z44), (9, 0)]) dX7_leads_45 rfl (by decide) rfl rfl ?_
      have hIn := hI.2.2.2.1 z36 (by omega) (by omega)
      rw [← ez44] at hIn
      refine V_iload (q := 49) dX7_leads_47 rfl rfl ?_
      refine V_if_lt (q := 52) (tgt := 32) dX7_leads_49 (by decide) rfl (fun c49 => ?_) (fun c49 => ?_)
      · refine V_fgt [(3, 0), (0, a), (0, b), (0, z36), (9, 0), (9, 0)] ⟨Or.inl rfl, Or.inl rfl, Or.inl rfl, Or.inl rfl, Or.inr rfl, Or.inr rfl, trivial⟩ ?_
        exact ih (z36) M1 (LI_skip w hI ha.1 hpos (by omega) (Or.inl (by rw [← ez44]; exact c49))) (by omega)
      · have hlt : 0 ≤ z44 ∧ z44 < 40 := by omega
        refine V_aload_n (q := 53) dX7_leads_52 rfl rfl rfl ?_
        refine VM_getA (q := 56) 20 dX7_leads_53 rfl flX7_62 rfl rfl (Nat.succ_ne_zero _) ?_
        refine V_iload (q := 58) dX7_leads_56 rfl rfl ?_
        refine VM_zald (q := 59) 19 dX7_leads_58 rfl rfl (by decide) rfl rfl (by omega) (fun z58 ez58 rz58 => ?_)
        refine V_if_eq (q := 62) (tgt := 65) dX7_leads_59 (by decide) rfl (fun c59 => ?_) (fun c59 => ?_)
        · have t0 : 0 ≤ z44 := by omega
          have t1 : z44 < M 0 0 := by omega
          have hc4 := (w.cnt z44 t0 (by omega)).1
          have hsz := hI.2.2.1
          refine V_aload_n (q := 66) dX7_leads_65 rfl rfl rfl ?_
          refine VM_getA (q := 69) 20 dX7_leads_66 rfl flX7_62 rfl rfl (Nat.succ_ne_zero _) ?_
          refine V_iload (q := 71) dX7_leads_69 rfl rfl ?_
          refine V_iconst (q := 72) dX7_leads_71 rfl (by decide) ?_
          refine VM_zast (q := 73) 19 dX7_leads_72 rfl rfl (by decide) rfl rfl (by omega) (by omega) (fun M72 eM72 => ?_)
          have fM72 : ∀ k : Int, k ≠ 18 → k ≠ 19 → M72 k = M k := by intro k h1 h2; rw [eM72, mu_f _ _ _ _ h2]; exact fM1 k h1 h2
          refine V_aload_n (q := 74) dX7_leads_73 rfl rfl rfl ?_
          refine VM_getA (q := 77) 19 dX7_leads_74 rfl flX7_59 rfl rfl (Nat.succ_ne_zero _) ?_
          refine V_iload_n (q := 78) dX7_leads_77 rfl rfl rfl ?_
          refine V_aload_n (q := 79) dX7_leads_78 rfl rfl rfl ?_
          refine VM_getA (q := 82) 4 dX7_leads_79 rfl flX7_16 rfl rfl (Nat.succ_ne_zero _) ?_
          refine V_iload (q := 84) dX7_leads_82 rfl rfl ?_
          refine VM_iald (q := 85) 3 dX7_leads_84 rfl rfl (by decide) rfl rfl (by omega) (fun z84 ez84 rz84 => ?_)
          rw [fM72 3 (by decide) (by decide)] at ez84
          refine VM_iast (q := 86) 18 dX7_leads_85 rfl rfl (by decide) rfl rfl (by omega) (fun M85 eM85 => ?_)
          have fM85 : ∀ k : Int, k ≠ 18 → k ≠ 19 → M85 k = M k := by intro k h1 h2; rw [eM85, mu_f _ _ _ _ h1]; exact fM72 k h1 h2
          refine V_iinc (q := 89) dX7_leads_86 rfl rfl (by decide) rfl (by omega) (fun z86 lz86 ez86 hlz86 => ?_)
          obtain rfl : lz86 = [(3, 0), (0, a), (0, b), (0, z86), (0, z44), (9, 0)] := hlz86
          refine V_iconst (q := 90) dX7_leads_89 rfl (by decide) ?_
          refine V_istore (q := 92) (lv1 := [(3, 0), (0, a), (0, b), (0, z86), (0, z44), (0, 0)]) dX7_leads_90 rfl (by decide) rfl rfl ?_
          have inner : ∀ (k n1 : Int) (M2 : Mem), (0 ≤ k ∧ k ≤ M 4 z44 ∧ n1 = n + k ∧ (∀ k : Int, k ≠ 18 → k ≠ 19 → M2 k = M k) ∧ M2 19 z44 = 1 ∧ (∀ x, x ≠ z44 → M2 19 x = M1 19 x) ∧ (∀ i : Int, 0 ≤ i → i < z36 → M2 18 i = M1 18 i) ∧ M2 18 z36 = M 3 z44 ∧ (∀ j : Int, 0 ≤ j → j < k → M2 18 (n + j) = M 5 (4 * z44 + j))) → V Γ (gα αC) ad0 (ZM Γ (gα αC) ad0 (mQ αC C (mI fun r M1 => (∀ k : Int, k ≠ 18 → k ≠ 19 → M1 k = M k) ∧ (0 ≤ r ∧ r ≤ 1) ∧ (r = 1 ↔ (a ≠ b ∧ RS M a b)))) 0 0) (RM 0 0 0) RX7 cX7_leads 6 (some .boolean) yX7_leads.name 92 [] [(3, 0), (0, a), (0, b), (0, n1), (0, z44), (0, k)] (gα αC) (mm M2 C) 0 0 := by
            refine loop3 _ (fun k _ _ => (M 4 z44 - k).toNat) _ ?_
            rintro k n1 M2 ⟨j0, j1, jn, j2, j3, j4, j5, j6, j7⟩ ih2
            have fM2 := j2
            refine V_iload (q := 94) dX7_leads_92 rfl rfl ?_
            refine V_aload_n (q := 95) dX7_leads_94 rfl rfl rfl ?_
            refine VM_getA (q := 98) 5 dX7_leads_95 rfl flX7_20 rfl rfl (Nat.succ_ne_zero _) ?_
            refine V_iload (q := 100) dX7_leads_98 rfl rfl ?_
            refine VM_iald (q := 101) 4 dX7_leads_100 rfl rfl (by decide) rfl rfl (by omega) (fun z100 ez100 rz100 => ?_)
            rw [fM2 4 (by decide) (by decide)] at ez100
            refine V_icmp_ge (q := 104) (tgt := 131) dX7_leads_101 (by decide) rfl (fun c101 => ?_) (fun c101 => ?_)
            · refine V_goto (tgt := 32) dX7_leads_131 (by decide) ?_
              refine V_fgt [(3, 0), (0, a), (0, b), (0, n1), (9, 0), (9, 0)] ⟨Or.inl rfl, Or.inl rfl, Or.inl rfl, Or.inl rfl, Or.inr rfl, Or.inr rfl, trivial⟩ ?_
              obtain ⟨hL, hcz⟩ := LI_push w hI hpos (show z36 = n - 1 by omega) ez44.symm t0 (by rw [← ez58]; exact c59) j2 j3 j4 j5 j6 (by rw [show k = M 4 z44 by omega] at j7; exact j7)
              exact ih n1 M2 (by rw [show n1 = n + M 4 z44 by omega]; exact hL) (by omega)
            · refine V_aload_n (q := 105) dX7_leads_104 rfl rfl rfl ?_
              refine VM_getA (q := 108) 19 dX7_leads_105 rfl flX7_59 rfl rfl (Nat.succ_ne_zero _) ?_
              refine V_iload_n (q := 109) dX7_leads_108 rfl rfl rfl ?_
              refine V_aload_n (q := 110) dX7_leads_109 rfl rfl rfl ?_
              have hfc := w.face z44 k t0 t1 (by omega) (by omega)
              refine VM_getA (q := 113) 6 dX7_leads_110 rfl flX7_23 rfl rfl (Nat.succ_ne_zero _) ?_
              refine V_iconst (q := 114) dX7_leads_113 rfl (by decide) ?_
              refine V_iload (q := 116) dX7_leads_114 rfl rfl ?_
              refine V_imul (q := 117) dX7_leads_116 rfl (by omega) (fun z116 ez116 => ?_)
              refine V_iload (q := 119) dX7_leads_117 rfl rfl ?_
              refine V_iadd (q := 120) dX7_leads_119 rfl (by omega) (fun z119 ez119 => ?_)
              refine VM_iald (q := 121) 5 dX7_leads_120 rfl rfl (by decide) rfl rfl (by omega) (fun z120 ez120 rz120 => ?_)
              rw [fM2 5 (by decide) (by decide)] at ez120
              refine VM_iast (q := 122) 18 dX7_leads_121 rfl rfl (by decide) rfl rfl (by omega) (fun M121 eM121 => ?_)
              have fM121 : ∀ k : Int, k ≠ 18 → k ≠ 19 → M121 k = M k := by intro k h1 h2; rw [eM121, mu_f _ _ _ _ h1]; exact fM2 k h1 h2
              refine V_iinc (q := 125) dX7_leads_122 rfl rfl (by decide) rfl (by omega) (fun z122 lz122 ez122 hlz122 => ?_)
              obtain rfl : lz122 = [(3, 0), (0, a), (0, b), (0, z122), (0, z44), (0, k)] := hlz122
              refine V_iinc (q := 128) dX7_leads_125 rfl rfl (by decide) rfl (by omega) (fun z125 lz125 ez125 hlz125 => ?_)
              obtain rfl : lz125 = [(3, 0), (0, a), (0, b), (0, z122), (0, z44), (0, z125)] := hlz125
              refine V_goto (tgt := 92) dX7_leads_128 (by decide) ?_
              exact ih2 (z125) (z122) M121 ⟨by omega, by omega, by omega, fM121, by { rw [eM121, mu_f _ _ _ _ (by decide)]; exact j3 }, fun x hx => by { rw [eM121, mu_f _ _ _ _ (by decide)]; exact j4 x hx }, fun i i0 i1 => by { rw [eM121, mu_i _ _ _ _ (by omega)]; exact j5 i i0 i1 }, by { rw [eM121, mu_i _ _ _ _ (by omega)]; exact j6 }, fun j j0 jl => by { rw [eM121]; by_cases hj : j = k; { rw [hj, show n + k = n1 by omega, mu_s, ez120, show z119 = 4 * z44 + k by omega] }; { rw [mu_i _ _ _ _ (by omega)]; exact j7 j j0 (by omega) } }⟩ (by omega)
          exact inner (0) (z86) M85 ⟨by omega, by omega, by omega, fM85, by { rw [eM85, mu_f _ _ _ _ (by decide), eM72, mu_s] }, fun x hx => by { rw [eM85, mu_f _ _ _ _ (by decide), eM72, mu_i _ _ _ _ hx] }, fun i i0 i1 => by { rw [eM85, mu_i _ _ _ _ (by omega), eM72, mu_f _ _ _ _ (by decide)] }, by { rw [eM85, mu_s, ez84] }, fun j j0 j1 => absurd j1 (by omega)⟩
        · refine V_goto (tgt := 32) dX7_leads_62 (by decide) ?_
          refine V_fgt [(3, 0), (0, a), (0, b), (0, z36), (9, 0), (9, 0)] ⟨Or.inl rfl, Or.inl rfl, Or.inl rfl, Or.inl rfl, Or.inr rfl, Or.inr rfl, trivial⟩ ?_
          exact ih (z36) M1 (LI_skip w hI ha.1 hpos (by omega) (Or.inr (by rw [← ez44, ← ez58]; omega))) (by omega)
  have clr : ∀ (t : Int) (M1 : Mem), (0 ≤ t ∧ t ≤ M 0 0 ∧ (∀ k : Int, k ≠ 18 → k ≠ 19 → M1 k = M k) ∧ (∀ i : Int, 0 ≤ i → i < t → M1 19 i = 0)) → V Γ (gα αC) ad0 (ZM Γ (gα αC) ad0 (mQ αC C (mI fun r M1 => (∀ k : Int, k ≠ 18 → k ≠ 19 → M1 k = M k) ∧ (0 ≤ r ∧ r ≤ 1) ∧ (r = 1 ↔ (a ≠ b ∧ RS M a b)))) 0 0) (RM 0 0 0) RX7 cX7_leads 6 (some .boolean) yX7_leads.name 2 [] [(3, 0), (0, a), (0, b), (0, t), (9, 0), (9, 0)] (gα αC) (mm M1 C) 0 0 := by
    refine loop2 _ (fun t _ => (M 0 0 - t).toNat) _ ?_
    rintro t M1 ⟨g1, g2, g3, g4⟩ ih
    have fM1 := g3
    refine V_iload_n (q := 3) dX7_leads_2 rfl rfl rfl ?_
    refine V_aload_n (q := 4) dX7_leads_3 rfl rfl rfl ?_
    refine VM_getI (q := 7) 0 dX7_leads_4 rfl flX7_128 rfl rfl rfl (fun z4 ez4 rz4 => ?_)
    rw [fM1 0 (by decide) (by decide)] at ez4
    refine V_icmp_ge (q := 10) (tgt := 23) dX7_leads_7 (by decide) rfl (fun c7 => ?_) (fun c7 => ?_)
    · refine V_iconst (q := 24) dX7_leads_23 rfl (by decide) ?_
      refine V_istore_n (q := 25) (lv1 := [(3, 0), (0, a), (0, b), (0, 1), (9, 0), (9, 0)]) dX7_leads_24 rfl rfl (by decide) rfl rfl ?_
      refine V_aload_n (q := 26) dX7_leads_25 rfl rfl rfl ?_
      refine VM_getA (q := 29) 19 dX7_leads_26 rfl flX7_59 rfl rfl (Nat.succ_ne_zero _) ?_
      refine V_iconst (q := 30) dX7_leads_29 rfl (by decide) ?_
      refine V_iload_n (q := 31) dX7_leads_30 rfl rfl rfl ?_
      refine VM_iast (q := 32) 18 dX7_leads_31 rfl rfl (by decide) rfl rfl (by omega) (fun M31 eM31 => ?_)
      have fM31 : ∀ k : Int, k ≠ 18 → k ≠ 19 → M31 k = M k := by intro k h1 h2; rw [eM31, mu_f _ _ _ _ h1]; exact fM1 k h1 h2
      exact outer (1) M31 ⟨fM31, by decide, by { have := cntz_le (M31 19) (M 0 0).toNat; omega }, fun i h0 h1 => by { rw [show i = 0 by omega, eM31, mu_s]; exact Or.inr ⟨ha.1, ha.2, Or.inl rfl⟩ }, fun x h0 h1 h2 => by { rw [eM31, mu_f _ _ _ _ (by decide), g4 x h0 (by omega)] at h2; exact absurd h2 (by decide) }, fun x y h0 h1 h2 _ => by { rw [eM31, mu_f _ _ _ _ (by decide), g4 x h0 (by omega)] at h2; exact absurd h2 (by decide) }, Or.inr ⟨0, by decide, by decide, by { rw [eM31, mu_s] }⟩⟩
    · refine V_aload_n (q := 11) dX7_leads_10 rfl rfl rfl ?_
      refine VM_getA (q := 14) 20 dX7_leads_11 rfl flX7_62 rfl rfl (Nat.succ_ne_zero _) ?_
      refine V_iload_n (q := 15) dX7_leads_14 rfl rfl rfl ?_
      refine V_iconst (q := 16) dX7_leads_15 rfl (by decide) ?_
      refine VM_zast (q := 17) 19 dX7_leads_16 rfl rfl (by decide) rfl rfl (by omega) (by omega) (fun M16 eM16 => ?_)
      have fM16 : ∀ k : Int, k ≠ 18 → k ≠ 19 → M16 k = M k := by intro k h1 h2; rw [eM16, mu_f _ _ _ _ h2]; exact fM1 k h1 h2
      refine V_iinc (q := 20) dX7_leads_17 rfl rfl (by decide) rfl (by omega) (fun z17 lz17 ez17 hlz17 => ?_)
      obtain rfl : lz17 = [(3, 0), (0, a), (0, b), (0, z17), (9, 0), (9, 0)] := hlz17
      refine V_goto (tgt := 2) dX7_leads_20 (by decide) ?_
      exact ih (z17) M16 ⟨by omega, by omega, fM16, fun i h0 h1 => by { rw [eM16]; by_cases hi : i = t; { rw [hi, mu_s] }; { rw [mu_i _ _ _ _ hi]; exact g4 i h0 (by omega) } }⟩ (by omega)
  refine V_iconst (q := 1) dX7_leads_0 rfl (by decide) ?_
  refine V_istore_n (q := 2) (lv1 := [(3, 0), (0, a), (0, b), (0, 0), (9, 0), (9, 0)]) dX7_leads_1 rfl rfl (by decide) rfl rfl ?_
  exact clr 0 M ⟨by decide, hn0.1, fun _ _ _ => rfl, fun i h0 h1 => absurd h1 (by omega)⟩
