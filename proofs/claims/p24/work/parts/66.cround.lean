/-! THE CLASS: rounds; the calls of the description that read -/
/-- what is come to by way of the first k types -/
def WR (M : Mem) : Nat → Int → Int → Prop
  | 0 => fun a b => b ∈ LA M a
  | k + 1 => fun a c => WR M k a c ∨ (WR M k a k ∧ WR M k k c)
theorem WR_row {M : Mem} {k : Nat} {x : Int} : WR M (k + 1) k x ↔ WR M k k x := ⟨fun h => h.elim id (fun q => q.2), Or.inl⟩
theorem WR_tr {M : Mem} : ∀ (k : Nat) (a b c : Int), 0 ≤ b → b < k → WR M k a b → WR M k b c → WR M k a c := by
  intro k
  induction k with
  | zero => intro a b c b0 b1; omega
  | succ k ih =>
    intro a b c b0 b1 h1 h2
    by_cases hb : b = k
    · subst hb
      have g1 : WR M k a k := h1.elim id (fun q => q.1)
      have g2 : WR M k k c := WR_row.mp h2
      exact Or.inr ⟨g1, g2⟩
    · have hk : b < k := by omega
      rcases h1 with h1 | ⟨h1, h1'⟩
      · rcases h2 with h2 | ⟨h2, h2'⟩
        · exact Or.inl (ih a b c b0 hk h1 h2)
        · exact Or.inr ⟨ih a b k b0 hk h1 h2, h2'⟩
      · rcases h2 with h2 | ⟨h2, h2'⟩
        · exact Or.inr ⟨h1, ih k b c b0 hk h1' h2⟩
        · exact Or.inr ⟨h1, h2'⟩
theorem WR_mono {M : Mem} {a b : Int} (h : b ∈ LA M a) : ∀ k : Nat, WR M k a b := by
  intro k
  induction k with
  | zero => exact h
  | succ k ih => exact Or.inl ih
theorem WR_AT {M : Mem} (w : WFD M) : ∀ (k : Nat) (a b : Int), k ≤ M 0 0 → 0 ≤ a → a < M 0 0 → WR M k a b → AT M a b := by
  intro k
  induction k with
  | zero => intro a b _ a0 a1 h; exact .single ⟨a0, a1, h⟩
  | succ k ih =>
    intro a b hk a0 a1 h
    rcases h with h | ⟨h1, h2⟩
    · exact ih a b (by omega) a0 a1 h
    · exact (ih a k (by omega) a0 a1 h1).trans (ih k b (by omega) (by omega) (by omega) h2)
theorem AT_WR {M : Mem} (w : WFD M) {a b : Int} (h : AT M a b) : WR M (M 0 0).toNat a b := by
  induction h with
  | single e => exact WR_mono e.2.2 _
  | tail _ e ih => exact WR_tr _ _ _ _ e.1 (by have := e.2.1; omega) ih (WR_mono e.2.2 _)
theorem LA_self {M : Mem} {t : Int} : t ∉ LA M t := by
  have hf : ∀ k, t ∉ LAf (LF M t) t k := by
    intro k
    induction k with
    | zero => exact List.not_mem_nil
    | succ k ih => intro h; rcases AD_mem.mp h with q | ⟨hx, -, q⟩
                   · exact ih q
                   · exact q hx.symm
  have key : ∀ j, t ∉ LAa M t j := by
    intro j
    induction j with
    | zero => exact hf _
    | succ j ih => intro h; rcases AD_mem.mp h with q | ⟨hx, -, q⟩
                   · exact ih q
                   · exact q hx.symm
  exact key _
theorem nthP_none {p : Int → Prop} {i : Int} (hi : i < 0) : ∀ n : Nat, nthP p i n = -6 := by
  intro n
  induction n with
  | zero => rfl
  | succ n ih =>
    unfold nthP
    rw [if_neg (by omega), if_neg (fun h => by have := h.2; omega)]
theorem lw_m1 : Cond.constantLong RX2 149 (-1) ∈ lw_tbl := List.mem_of_getElem? (i := 443) (by decide +kernel)
theorem nthP_m6 (p : Int → Prop) (i : Int) : ∀ n : Nat, nthP p i n < 0 → nthP p i n = -6 := by
  intro n
  induction n with
  | zero => intro _; rfl
  | succ n ih =>
    intro h
    unfold nthP at h ⊢
    split
    · rename_i q; rw [if_pos q] at h; omega
    · rename_i q
      rw [if_neg q] at h
      split
      · rename_i q2; rw [if_pos q2] at h; omega
      · rfl
theorem tX2_inRound {Γ : GC} {α : Sh} {μ : Mem} {i : Int} {M : Mem} (w : WFD M) (D : DesR M α μ) (hi : 0 ≤ i) : MT Γ yX2_inRound cX2_inRound 4 (some .int) 45 0 0 [(3, 110), (0, i)] α μ (QI fun r α1 μ1 => α1 = α ∧ SF μ μ1 ∧ DesR M α μ1 ∧ r = roundS M i) := by
  have hn := w.n
  refine MT_of (k := 2) [(3, 110), (0, i), (9, 0), (9, 0)] pn_X2_inRound rfl rfl (fun ad0 => ?_)
  have loopD : ∀ (m : Mem) (c t : Int), (DesR M α m ∧ SF μ m ∧ (∀ u x : Int, 0 ≤ u → u < M 0 0 → 0 ≤ x → x < M 0 0 → (bt (m 114 u) x.toNat = true ↔ WR M (M 0 0).toNat u x)) ∧ 0 ≤ t ∧ t ≤ M 0 0 ∧ c = (cntP (fun t => AT M t t) t.toNat : Int) ∧ nthP (fun t => AT M t t) i t.toNat < 0) → V Γ α ad0 (ZM Γ α ad0 (QI fun r α1 μ1 => α1 = α ∧ SF μ μ1 ∧ DesR M α μ1 ∧ r = roundS M i) 0 0) (RM 45 0 0) RX2 cX2_inRound 4 (some .int) yX2_inRound.name 105 [] [(3, 110), (0, i), (0, c), (0, t)] α m 0 0 := by
    intro m
    refine loop2 _ (fun _ t => (M 0 0 - t).toNat) _ ?_
    rintro c t ⟨Dm, fm, hr, h1, h2, h4, h5⟩ ih
    have hcl := cntP_le (fun t => AT M t t) t.toNat
    refine V_iload_n (q := 106) dX2_inRound_105 rfl rfl rfl ?_
    refine V_aload_n (q := 107) dX2_inRound_106 rfl rfl rfl ?_
    refine V_getI (q := 110) 1 dX2_inRound_107 rfl flX2_34 (by decide) (congrArg Prod.fst (show _ = (3, 0) by rw [D.1.1.1])) rfl rfl (fun z107 ez107 rz107 => ?_)
    rw [Dm.2.1] at ez107
    refine V_icmp_ge (q := 113) (tgt := 144) dX2_inRound_110 (by decide) rfl (fun c110 => ?_) (fun c110 => ?_)
    · refine V_bipush (q := 146) dX2_inRound_144 rfl (by decide) ?_
      have hlt := nthP_lt (fun t => AT M t t) i (M 0 0).toNat
      rw [show t.toNat = (M 0 0).toNat by omega] at h5
      exact V_iret dX2_inRound_146 (Nat.le_of_ble_eq_true rfl) (Nat.le_of_ble_eq_true rfl) ⟨_, rfl, rfl, fm, Dm, by { have e6 := nthP_m6 (fun t => AT M t t) i (M 0 0).toNat h5; exact e6.symm }⟩
    · refine V_aload_n (q := 114) dX2_inRound_113 rfl rfl rfl ?_
      refine V_getA (q := 117) 6 dX2_inRound_114 rfl flX2_24 (by decide) (congrArg Prod.fst (show _ = (3, 0) by rw [D.1.1.1])) rfl rfl (fun z114 ez114 rz114 => ?_)
      rw [Dm.1.2.2.2.2] at ez114
      obtain rfl : z114 = 114 := ez114
      refine V_iload_n (q := 118) dX2_inRound_117 rfl rfl rfl ?_
      refine V_lald (q := 119) (n := 40) dX2_inRound_118 rfl (by decide) (by rw [D.1.1.2.2.2.2]) (by omega) (fun z118 ez118 rz118 => ?_)
      refine V_iload_n (q := 120) dX2_inRound_119 rfl rfl rfl ?_
      refine V_lshr (q := 121) dX2_inRound_120 rfl (by omega) (fun z120 ez120 rz120 => ?_)
      refine V_lconst (q := 122) (x := 1) dX2_inRound_121 rfl rfl ?_
      refine V_land (q := 123) dX2_inRound_122 rfl (fun z122 ez122 rz122 => ?_)
      refine V_lconst (q := 124) (x := 0) dX2_inRound_123 rfl rfl ?_
      refine V_lcmp0 (q := 125) dX2_inRound_124 rfl (fun z124 ez124 => ?_)
      have hbt := not_congr (ez124.trans (bt_test (s := t.toNat) (by omega) ez120 ez122 rz122))
      rw [Bool.not_eq_false, ez118, hr t t h1 (by omega) h1 (by omega)] at hbt
      have hat : z124 ≠ 0 ↔ AT M t t := hbt.trans ⟨WR_AT w _ t t (by omega) h1 (by omega), AT_WR w⟩
      refine V_if_eq (q := 128) (tgt := 138) dX2_inRound_125 (by decide) rfl (fun c125 => ?_) (fun c125 => ?_)
      · refine V_iinc (q := 141) dX2_inRound_138 rfl rfl (by decide) rfl (by omega) (fun z138 lz138 ez138 hlz138 => ?_)
        obtain rfl : lz138 = [(3, 110), (0, i), (0, c), (0, z138)] := hlz138
        refine V_goto (tgt := 105) dX2_inRound_141 (by decide) ?_
        exact ih c z138 ⟨Dm, fm, hr, by omega, by omega, by { rw [ez138, cntP_0 (p := fun t => AT M t t) h1 (fun q => absurd (hat.mpr q) (by omega))]; exact h4 }, by { rw [ez138, nthP_s h1, if_neg (by omega), if_neg (fun hh => absurd (hat.mpr hh.1) (by omega))]; decide }⟩ (by omega)
      · refine V_iload_n (q := 129) dX2_inRound_128 rfl rfl rfl ?_
        refine V_iload_n (q := 130) dX2_inRound_129 rfl rfl rfl ?_
        refine V_icmp_ne (q := 133) (tgt := 135) dX2_inRound_130 (by decide) rfl (fun c130 => ?_) (fun c130 => ?_)
        · refine V_iinc (q := 138) dX2_inRound_135 rfl rfl (by decide) rfl (by omega) (fun z135 lz135 ez135 hlz135 => ?_)
          obtain rfl : lz135 = [(3, 110), (0, i), (0, z135), (0, t)] := hlz135
          refine V_iinc (q := 141) dX2_inRound_138 rfl rfl (by decide) rfl (by omega) (fun z138_2 lz138_2 ez138_2 hlz138_2 => ?_)
          obtain rfl : lz138_2 = [(3, 110), (0, i), (0, z135), (0, z138_2)] := hlz138_2
          refine V_goto (tgt := 105) dX2_inRound_141 (by decide) ?_
          exact ih z135 z138_2 ⟨Dm, fm, hr, by omega, by omega, by { rw [ez138_2, cntP_1 (p := fun t => AT M t t) h1 (hat.mp (by omega))]; omega }, by { rw [ez138_2, nthP_s h1, if_neg (by omega), if_neg (fun hh => by have := hh.2; omega)]; decide }⟩ (by omega)
        · refine V_iload_n (q := 134) dX2_inRound_133 rfl rfl rfl ?_
          exact V_iret dX2_inRound_134 (Nat.le_of_ble_eq_true rfl) (Nat.le_of_ble_eq_true rfl) ⟨_, rfl, rfl, fm, Dm, by { have e1 := nthP_s (p := fun t => AT M t t) (i := i) h1; rw [if_neg (by omega), if_pos ⟨hat.mp (by omega), by omega⟩] at e1; have e2 := nthP_stay (p := fun t => AT M t t) (i := i) (t + 1).toNat (by rw [e1]; exact h1) ((M 0 0).toNat - (t + 1).toNat); rw [show (t + 1).toNat + ((M 0 0).toNat - (t + 1).toNat) = (M 0 0).toNat by omega, e1] at e2; exact e2.symm }⟩
  have loopB : ∀ (m : Mem) (by_ : Int), (DesR M α m ∧ SF μ m ∧ 0 ≤ by_ ∧ by_ ≤ M 0 0 ∧ ∀ u x : Int, 0 ≤ u → u < M 0 0 → 0 ≤ x → x < M 0 0 → (bt (m 114 u) x.toNat = true ↔ WR M by_.toNat u x)) → V Γ α ad0 (ZM Γ α ad0 (QI fun r α1 μ1 => α1 = α ∧ SF μ μ1 ∧ DesR M α μ1 ∧ r = roundS M i) 0 0) (RM 45 0 0) RX2 cX2_inRound 4 (some .int) yX2_inRound.name 41 [] [(3, 110), (0, i), (0, by_), (9, 0)] α m 0 0 := by
    refine loop2 _ (fun _ b => (M 0 0 - b).toNat) _ ?_
    rintro m by_ ⟨Dm, fm, h1, h2, hr⟩ ihB
    have loopC : by_ < M 0 0 → ∀ (m : Mem) (t : Int), (DesR M α m ∧ SF μ m ∧ 0 ≤ t ∧ t ≤ M 0 0 ∧ ∀ u x : Int, 0 ≤ u → u < M 0 0 → 0 ≤ x → x < M 0 0 → (bt (m 114 u) x.toNat = true ↔ (if u < t then WR M (by_.toNat + 1) u x else WR M by_.toNat u x))) → V Γ α ad0 (ZM Γ α ad0 (QI fun r α1 μ1 => α1 = α ∧ SF μ μ1 ∧ DesR M α μ1 ∧ r = roundS M i) 0 0) (RM 45 0 0) RX2 cX2_inRound 4 (some .int) yX2_inRound.name 51 [] [(3, 110), (0, i), (0, by_), (0, t)] α m 0 0 := by
      intro hby
      refine loop2 _ (fun _ t => (M 0 0 - t).toNat) _ ?_
      rintro m t ⟨Dm, fm, g1, g2, hr⟩ ih
      refine V_iload_n (q := 52) dX2_inRound_51 rfl rfl rfl ?_
      refine V_aload_n (q := 53) dX2_inRound_52 rfl rfl rfl ?_
      refine V_getI (q := 56) 1 dX2_inRound_53 rfl flX2_34 (by decide) (congrArg Prod.fst (show _ = (3, 0) by rw [D.1.1.1])) rfl rfl (fun z53 ez53 rz53 => ?_)
      rw [Dm.2.1] at ez53
      refine V_icmp_ge (q := 59) (tgt := 95) dX2_inRound_56 (by decide) rfl (fun c56 => ?_) (fun c56 => ?_)
      · refine V_iinc (q := 98) dX2_inRound_95 rfl rfl (by decide) rfl (by omega) (fun z95 lz95 ez95 hlz95 => ?_)
        obtain rfl : lz95 = [(3, 110), (0, i), (0, z95), (0, t)] := hlz95
        refine V_goto (tgt := 41) dX2_inRound_98 (by decide) ?_
        refine V_fgt [(3, 110), (0, i), (0, z95), (9, 0)] ⟨Or.inl rfl, Or.inl rfl, Or.inl rfl, Or.inr rfl, trivial⟩ ?_
        exact ihB m z95 ⟨Dm, fm, by omega, by omega, fun u x u0 u1 x0 x1 => by { have q := hr u x u0 u1 x0 x1; rw [if_pos (by omega)] at q; rw [ez95, show (by_ + 1).toNat = by_.toNat + 1 by omega]; exact q }⟩ (by omega)
      · refine V_aload_n (q := 60) dX2_inRound_59 rfl rfl rfl ?_
        refine V_getA (q := 63) 6 dX2_inRound_60 rfl flX2_24 (by decide) (congrArg Prod.fst (show _ = (3, 0) by rw [D.1.1.1])) rfl rfl (fun z60 ez60 rz60 => ?_)
        rw [Dm.1.2.2.2.2] at ez60
        obtain rfl : z60 = 114 := ez60
        refine V_iload_n (q := 64) dX2_inRound_63 rfl rfl rfl ?_
        refine V_lald (q := 65) (n := 40) dX2_inRound_64 rfl (by decide) (by rw [D.1.1.2.2.2.2]) (by omega) (fun z64 ez64 rz64 => ?_)
        refine V_iload_n (q := 66) dX2_inRound_65 rfl rfl rfl ?_
        refine V_lshr (q := 67) dX2_inRound_66 rfl (by omega) (fun z66 ez66 rz66 => ?_)
        refine V_lconst (q := 68) (x := 1) dX2_inRound_67 rfl rfl ?_
        refine V_land (q := 69) dX2_inRound_68 rfl (fun z68 ez68 rz68 => ?_)
        refine V_lconst (q := 70) (x := 0) dX2_inRound_69 rfl rfl ?_
        refine V_lcmp0 (q := 71) dX2_inRound_70 rfl (fun z70 ez70 => ?_)
        have hbt := not_congr (ez70.trans (bt_test (s := by_.toNat) (by omega) ez66 ez68 rz68))
        rw [Bool.not_eq_false, ez64, hr t by_ g1 (by omega) h1 hby, if_neg (by omega)] at hbt
        refine V_if_eq (q := 74) (tgt := 89) dX2_inRound_71 (by decide) rfl (fun c71 => ?_) (fun c71 => ?_)
        · refine V_iinc (q := 92) dX2_inRound_89 rfl rfl (by decide) rfl (by omega) (fun z89 lz89 ez89 hlz89 => ?_)
          obtain rfl : lz89 = [(3, 110), (0, i), (0, by_), (0, z89)] := hlz89
          refine V_goto (tgt := 51) dX2_inRound_92 (by decide) ?_
          refine ih m z89 ⟨Dm, fm, by omega, by omega, fun u x u0 u1 x0 x1 => ?_⟩ (by omega)
          rw [hr u x u0 u1 x0 x1]
          by_cases hu : u < t
          · rw [if_pos hu, if_pos (by omega)]
          · rw [if_neg hu]
            by_cases hu2 : u = t
            · subst hu2
              rw [if_pos (by omega)]
              have hno : ¬ WR M by_.toNat u by_ := fun q => absurd (hbt.mpr q) (by omega)
              refine ⟨Or.inl, fun q => q.resolve_right (fun q2 => hno ?_)⟩
              have q3 := q2.1
              rwa [show ((by_.toNat : Nat) : Int) = by_ by omega] at q3
            · rw [if_neg (by omega)]
        · refine V_aload_n (q := 75) dX2_inRound_74 rfl rfl rfl ?_
          refine V_getA (q := 78) 6 dX2_inRound_75 rfl flX2_24 (by decide) (congrArg Prod.fst (show _ = (3, 0) by rw [D.1.1.1])) rfl rfl (fun z75 ez75 rz75 => ?_)
          rw [Dm.1.2.2.2.2] at ez75
          obtain rfl : z75 = 114 := ez75
          refine V_iload_n (q := 79) dX2_inRound_78 rfl rfl rfl ?_
          refine V_dup2 (q := 80) dX2_inRound_79 rfl (show (0 : Nat) ≠ 2 by decide) (show (3 : Nat) ≠ 2 by decide) ?_
          refine V_lald (q := 81) (n := 40) dX2_inRound_80 rfl (by decide) (by rw [D.1.1.2.2.2.2]) (by omega) (fun z80 ez80 rz80 => ?_)
          refine V_aload_n (q := 82) dX2_inRound_81 rfl rfl rfl ?_
          refine V_getA (q := 85) 6 dX2_inRound_82 rfl flX2_24 (by decide) (congrArg Prod.fst (show _ = (3, 0) by rw [D.1.1.1])) rfl rfl (fun z82 ez82 rz82 => ?_)
          rw [Dm.1.2.2.2.2] at ez82
          obtain rfl : z82 = 114 := ez82
          refine V_iload_n (q := 86) dX2_inRound_85 rfl rfl rfl ?_
          refine V_lald (q := 87) (n := 40) dX2_inRound_86 rfl (by decide) (by rw [D.1.1.2.2.2.2]) (by omega) (fun z86 ez86 rz86 => ?_)
          refine V_lor (q := 88) dX2_inRound_87 rfl (fun z87 ez87 rz87 => ?_)
          refine V_last (q := 89) (n := 40) dX2_inRound_88 rfl (by decide) (by rw [D.1.1.2.2.2.2]) (by omega) (fun M88 eM88 => ?_)
          refine V_iinc (q := 92) dX2_inRound_89 rfl rfl (by decide) rfl (by omega) (fun z89_2 lz89_2 ez89_2 hlz89_2 => ?_)
          obtain rfl : lz89_2 = [(3, 110), (0, i), (0, by_), (0, z89_2)] := hlz89_2
          refine V_goto (tgt := 51) dX2_inRound_92 (by decide) ?_
          have hsf : SF m M88 := by { rw [eM88]; exact SF_put (Or.inr (Or.inr (Or.inl rfl))) }
          refine ih M88 z89_2 ⟨DesR_scr w Dm hsf (fun u k u0 u1 k0 k1 => by { rw [eM88, mu_t _ _ _ _ (by decide)]; exact Dm.2.2.2.2.1 u k u0 u1 k0 k1 }), fm.trans hsf, by omega, by omega, fun u x u0 u1 x0 x1 => ?_⟩ (by omega)
          by_cases hu2 : u = t
          · subst hu2
            rw [eM88, mu_s, if_pos (by omega), ez87, Bool.or_eq_true, ez80, ez86, hr u x u0 u1 x0 x1, hr by_ x h1 hby x0 x1, if_neg (by omega)]
            have hrow : (if by_ < u then WR M (by_.toNat + 1) by_ x else WR M by_.toNat by_ x) ↔ WR M by_.toNat by_ x := by { split; · { have q := WR_row (M := M) (k := by_.toNat) (x := x); rwa [show ((by_.toNat : Nat) : Int) = by_ by omega] at q }; · { exact Iff.rfl } }
            rw [hrow]
            show _ ↔ WR M by_.toNat u x ∨ (WR M by_.toNat u (by_.toNat : Nat) ∧ WR M by_.toNat (by_.toNat : Nat) x)
            rw [show ((by_.toNat : Nat) : Int) = by_ by omega]
            have hy := hbt.mp (by omega)
            exact ⟨fun q => q.imp id (fun q2 => ⟨hy, q2⟩), fun q => q.imp id (fun q2 => q2.2)⟩
          · rw [eM88, mu_i _ _ _ _ hu2, hr u x u0 u1 x0 x1]
            by_cases hu : u < t
            · rw [if_pos hu, if_pos (by omega)]
            · rw [if_neg hu, if_neg (by omega)]
    refine V_iload_n (q := 42) dX2_inRound_41 rfl rfl rfl ?_
    refine V_aload_n (q := 43) dX2_inRound_42 rfl rfl rfl ?_
    refine V_getI (q := 46) 1 dX2_inRound_43 rfl flX2_34 (by decide) (congrArg Prod.fst (show _ = (3, 0) by rw [D.1.1.1])) rfl rfl (fun z43 ez43 rz43 => ?_)
    rw [Dm.2.1] at ez43
    refine V_icmp_ge (q := 49) (tgt := 101) dX2_inRound_46 (by decide) rfl (fun c46 => ?_) (fun c46 => ?_)
    · refine V_iconst (q := 102) dX2_inRound_101 rfl (by decide) ?_
      refine V_istore_n (q := 103) (lv1 := [(3, 110), (0, i), (0, 0), (9, 0)]) dX2_inRound_102 rfl rfl (by decide) rfl rfl ?_
      refine V_iconst (q := 104) dX2_inRound_103 rfl (by decide) ?_
      refine V_istore_n (q := 105) (lv1 := [(3, 110), (0, i), (0, 0), (0, 0)]) dX2_inRound_104 rfl rfl (by decide) rfl rfl ?_
      exact loopD m 0 0 ⟨Dm, fm, fun u x u0 u1 x0 x1 => by { have q := hr u x u0 u1 x0 x1; rw [show (M 0 0).toNat = by_.toNat by omega]; exact q }, by decide, hn.1, rfl, (show (-6 : Int) < 0 by decide)⟩
    · refine V_iconst (q := 50) dX2_inRound_49 rfl (by decide) ?_
      refine V_istore_n (q := 51) (lv1 := [(3, 110), (0, i), (0, by_), (0, 0)]) dX2_inRound_50 rfl rfl (by decide) rfl rfl ?_
      exact loopC (by omega) m 0 ⟨Dm, fm, by decide, hn.1, fun u x u0 u1 x0 x1 => by { rw [if_neg (by omega)]; exact hr u x u0 u1 x0 x1 }⟩
  have loopA : ∀ (m : Mem) (t : Int), (DesR M α m ∧ SF μ m ∧ 0 ≤ t ∧ t ≤ M 0 0 ∧ ∀ u x : Int, 0 ≤ u → u < t → 0 ≤ x → x < 40 → (bt (m 114 u) x.toNat = true ↔ x ∈ LA M u)) → V Γ α ad0 (ZM Γ α ad0 (QI fun r α1 μ1 => α1 = α ∧ SF μ μ1 ∧ DesR M α μ1 ∧ r = roundS M i) 0 0) (RM 45 0 0) RX2 cX2_inRound 4 (some .int) yX2_inRound.name 2 [] [(3, 110), (0, i), (0, t), (9, 0)] α m 0 0 := by
    refine loop2 _ (fun _ t => (M 0 0 - t).toNat) _ ?_
    rintro m t ⟨Dm, fm, h1, h2, hr⟩ ih
    refine V_iload_n (q := 3) dX2_inRound_2 rfl rfl rfl ?_
    refine V_aload_n (q := 4) dX2_inRound_3 rfl rfl rfl ?_
    refine V_getI (q := 7) 1 dX2_inRound_4 rfl flX2_34 (by decide) (congrArg Prod.fst (show _ = (3, 0) by rw [D.1.1.1])) rfl rfl (fun z4 ez4 rz4 => ?_)
    rw [Dm.2.1] at ez4
    refine V_icmp_ge (q := 10) (tgt := 39) dX2_inRound_7 (by decide) rfl (fun c7 => ?_) (fun c7 => ?_)
    · refine V_iconst (q := 40) dX2_inRound_39 rfl (by decide) ?_
      refine V_istore_n (q := 41) (lv1 := [(3, 110), (0, i), (0, 0), (9, 0)]) dX2_inRound_40 rfl rfl (by decide) rfl rfl ?_
      refine V_fgt [(3, 110), (0, i), (0, 0), (9, 0)] ⟨Or.inl rfl, Or.inl rfl, Or.inl rfl, Or.inr rfl, trivial⟩ ?_
      exact loopB m 0 ⟨Dm, fm, by decide, hn.1, fun u x u0 u1 x0 x1 => hr u x u0 (by omega) x0 (by omega)⟩
    · refine V_aload_n (q := 11) dX2_inRound_10 rfl rfl rfl ?_
      refine V_iload_n (q := 12) dX2_inRound_11 rfl rfl rfl ?_
      refine V_chV (q := 15) (As := [(0, t)]) (tX2_listAsked w Dm ⟨h1, by omega⟩) dX2_inRound_12 rfl mlX2_146 mw_X2_listAsked im_X2_listAsked sl_X2_listAsked md_X2_listAsked rfl (by decide) (by decide) (congrArg Prod.fst (show _ = (3, 0) by rw [D.1.1.1])) rfl rfl (by decide) (by decide) (Nat.le_of_ble_eq_true rfl) (Nat.le_of_ble_eq_true rfl) (Nat.le_of_ble_eq_true rfl) (fun A12 M12 xM12 hM12 => ?_)
      obtain ⟨hAA, fM12, DM12, aM12, gM12⟩ := hM12
      replace hAA := hAA.symm
      subst hAA
      refine V_aload_n (q := 16) dX2_inRound_15 rfl rfl rfl ?_
      refine V_getA (q := 19) 6 dX2_inRound_16 rfl flX2_24 (by decide) (congrArg Prod.fst (show _ = (3, 0) by rw [D.1.1.1])) rfl rfl (fun z16 ez16 rz16 => ?_)
      rw [fM12 110 6 (by unfold scr; omega), Dm.1.2.2.2.2] at ez16
      obtain rfl : z16 = 114 := ez16
      refine V_iload_n (q := 20) dX2_inRound_19 rfl rfl rfl ?_
      refine V_aload_n (q := 21) dX2_inRound_20 rfl rfl rfl ?_
      refine V_getJ (q := 24) 5 dX2_inRound_21 rfl flX2_119 (by decide) (congrArg Prod.fst (show _ = (3, 0) by rw [D.1.1.1])) rfl rfl (fun z21 ez21 rz21 => ?_)
      refine V_lconst (q := 25) (x := 1) dX2_inRound_24 rfl rfl ?_
      refine V_iload_n (q := 26) dX2_inRound_25 rfl rfl rfl ?_
      refine V_lshl (q := 27) dX2_inRound_26 rfl (by omega) (fun z26 ez26 rz26 => ?_)
      refine V_ldc2m1 (q := 30) dX2_inRound_27 rfl lw_m1 ?_
      refine V_lxor (q := 31) dX2_inRound_30 rfl (fun z30 ez30 rz30 => ?_)
      refine V_land (q := 32) dX2_inRound_31 rfl (fun z31 ez31 rz31 => ?_)
      refine V_last (q := 33) (n := 40) dX2_inRound_32 rfl (by decide) (by rw [D.1.1.2.2.2.2]) (by omega) (fun M32 eM32 => ?_)
      refine V_iinc (q := 36) dX2_inRound_33 rfl rfl (by decide) rfl (by omega) (fun z33 lz33 ez33 hlz33 => ?_)
      obtain rfl : lz33 = [(3, 110), (0, i), (0, z33), (9, 0)] := hlz33
      refine V_goto (tgt := 2) dX2_inRound_36 (by decide) ?_
      have hsf : SF M12 M32 := by { rw [eM32]; exact SF_put (Or.inr (Or.inr (Or.inl rfl))) }
      refine ih M32 z33 ⟨DesR_scr w DM12 hsf (fun u k u0 u1 k0 k1 => by { rw [eM32, mu_t _ _ _ _ (by decide)]; exact DM12.2.2.2.2.1 u k u0 u1 k0 k1 }), (fm.trans fM12).trans hsf, by omega, by omega, fun u x u0 u1 x0 x1 => ?_⟩ (by omega)
      by_cases hu : u = t
      · subst hu
        have hone := bt_one (s := u.toNat) ez26 x.toNat (by omega)
        rw [eM32, mu_s, ez31, ez30, hone, bt_m1, ez21, Bool.and_eq_true, aM12.1 x x0 x1]
        rw [show decide (x.toNat < 64) = true from decide_eq_true (by omega), Bool.xor_true, Bool.not_eq_true', decide_eq_false_iff_not]
        constructor
        · rintro ⟨q | q, q2⟩
          · exact absurd (by rw [q]) q2
          · exact q
        · intro q
          exact ⟨Or.inr q, fun q2 => LA_self (M := M) (t := u) (by rwa [show x = u by omega] at q)⟩
      · rw [eM32, mu_i _ _ _ _ hu, gM12]
        exact hr u x u0 (by omega) x0 x1
  refine V_iconst (q := 1) dX2_inRound_0 rfl (by decide) ?_
  refine V_istore_n (q := 2) (lv1 := [(3, 110), (0, i), (0, 0), (9, 0)]) dX2_inRound_1 rfl rfl (by decide) rfl rfl ?_
  exact loopA μ 0 ⟨D, SF.rf, by decide, hn.1, fun u x u0 u1 => by omega⟩
