/-! THE CLASS'S TOUCH: the small methods -/
theorem tX5_putOnTape {Γ : GC} {α : Sh} {μ : Mem} {W v : Int} {M σ : Mem} (T : TR M σ W α μ) (h0 : 0 ≤ σ 30 0) (h1 : σ 30 0 ≤ 2147483000) : MT Γ yX5_putOnTape cX5_putOnTape 2 none 0 0 0 [(3, W), (0, v)] α μ (QN fun α1 μ1 => α1 = α ∧ TWF W μ μ1 ∧ TR M (onT v σ) W α μ1) := by
  have hW := T.1
  have hc := T.2.2.1.2.2.1
  refine MT_of (k := 0) [(3, W), (0, v)] pn_X5_putOnTape rfl rfl (fun ad0 => ?_)
  refine V_aload_n (q := 1) dX5_putOnTape_0 rfl rfl rfl ?_
  refine V_getI (q := 4) 3 dX5_putOnTape_1 rfl flX5_40 (by omega) (congrArg Prod.fst (show _ = (6, 0) by rw [T.2.1.1.1])) rfl rfl (fun z1 ez1 rz1 => ?_)
  rw [T.2.2.1.2.2.1.1] at ez1
  refine V_sipush (q := 7) dX5_putOnTape_4 rfl (by decide) ?_
  refine V_icmp_ge (q := 10) (tgt := 20) dX5_putOnTape_7 (by decide) rfl (fun c7 => ?_) (fun c7 => ?_)
  · refine V_aload_n (q := 21) dX5_putOnTape_20 rfl rfl rfl ?_
    refine V_dup (q := 22) dX5_putOnTape_21 rfl (show (3 : Nat) ≠ 2 by decide) ?_
    refine V_getI (q := 25) 3 dX5_putOnTape_22 rfl flX5_40 (by omega) (congrArg Prod.fst (show _ = (6, 0) by rw [T.2.1.1.1])) rfl rfl (fun z22 ez22 rz22 => ?_)
    rw [T.2.2.1.2.2.1.1] at ez22
    refine V_iconst (q := 26) dX5_putOnTape_25 rfl (by decide) ?_
    refine V_iadd (q := 27) dX5_putOnTape_26 rfl (by omega) (fun z26 ez26 => ?_)
    refine V_putI (q := 30) 3 dX5_putOnTape_27 rfl flX5_40 (Or.inl rfl) (by omega) (congrArg Prod.fst (show _ = (6, 0) by rw [T.2.1.1.1])) rfl rfl (fun M27 eM27 => ?_)
    refine V_vret dX5_putOnTape_30 (Nat.le_of_ble_eq_true rfl) (Nat.le_of_ble_eq_true rfl) ⟨rfl, rfl, by { rw [eM27]; exact TWF.put (by unfold tw; omega) }, ?_⟩
    unfold onT; rw [if_neg (by omega)]
    refine TR_tape T (fun u k a b => by rw [eM27, mu_ne (by omega)]) (fun u k a b => mu_ne (by omega)) (by rw [eM27, mu_s, mu_s]; omega) (fun i a b c => ?_)
    rw [mu_s] at b; rw [eM27, mu_ne (by omega), mu_ne (by omega)]; exact hc.2 i a (by omega) c
  · refine V_aload_n (q := 11) dX5_putOnTape_10 rfl rfl rfl ?_
    refine V_getA (q := 14) 2 dX5_putOnTape_11 rfl flX5_18 (by omega) (congrArg Prod.fst (show _ = (6, 0) by rw [T.2.1.1.1])) rfl rfl (fun z11 ez11 rz11 => ?_)
    rw [T.2.1.2.2.2.1] at ez11
    obtain rfl : z11 = (W + 3) := ez11
    refine V_aload_n (q := 15) dX5_putOnTape_14 rfl rfl rfl ?_
    refine V_getI (q := 18) 3 dX5_putOnTape_15 rfl flX5_40 (by omega) (congrArg Prod.fst (show _ = (6, 0) by rw [T.2.1.1.1])) rfl rfl (fun z15 ez15 rz15 => ?_)
    rw [T.2.2.1.2.2.1.1] at ez15
    refine V_iload_n (q := 19) dX5_putOnTape_18 rfl rfl rfl ?_
    refine V_iast (q := 20) (n := 300) dX5_putOnTape_19 rfl (by omega) (by rw [T.2.1.1.2.2.2.1]) (by omega) (fun M19 eM19 => ?_)
    refine V_aload_n (q := 21) dX5_putOnTape_20 rfl rfl rfl ?_
    refine V_dup (q := 22) dX5_putOnTape_21 rfl (show (3 : Nat) ≠ 2 by decide) ?_
    refine V_getI (q := 25) 3 dX5_putOnTape_22 rfl flX5_40 (by omega) (congrArg Prod.fst (show _ = (6, 0) by rw [T.2.1.1.1])) rfl rfl (fun z22_2 ez22_2 rz22_2 => ?_)
    rw [eM19, mu_ne (by omega), T.2.2.1.2.2.1.1] at ez22_2
    refine V_iconst (q := 26) dX5_putOnTape_25 rfl (by decide) ?_
    refine V_iadd (q := 27) dX5_putOnTape_26 rfl (by omega) (fun z26_2 ez26_2 => ?_)
    refine V_putI (q := 30) 3 dX5_putOnTape_27 rfl flX5_40 (Or.inl rfl) (by omega) (congrArg Prod.fst (show _ = (6, 0) by rw [T.2.1.1.1])) rfl rfl (fun M27_2 eM27_2 => ?_)
    refine V_vret dX5_putOnTape_30 (Nat.le_of_ble_eq_true rfl) (Nat.le_of_ble_eq_true rfl) ⟨rfl, rfl, by { rw [eM27_2, eM19]; exact (TWF.put (by unfold tw; omega)).trans (TWF.put (by unfold tw; omega)) }, ?_⟩
    unfold onT; rw [if_pos (by omega)]
    refine TR_tape T (fun u k a b => by rw [eM27_2, mu_ne (by omega), eM19, mu_ne (by omega)]) (fun u k a b => by rw [mu_ne (by omega), mu_ne (by omega)]) (by rw [eM27_2, mu_s, mu_s]; omega) (fun i a b c => ?_)
    rw [mu_s] at b; rw [eM27_2, mu_ne (by omega), eM19, mu_ne (show ¬ ((31 : Int) = 30 ∧ i = 0) by omega)]
    by_cases hi : i = σ 30 0
    · { rw [mu_ix (by omega), hi, mu_s] }
    · { rw [mu_ne (by omega), mu_i _ _ _ _ hi]; exact hc.2 i a (by omega) c }
theorem tX5_putInRow {Γ : GC} {α : Sh} {μ : Mem} {W v : Int} {M σ : Mem} (T : TR M σ W α μ) (h0 : 0 ≤ σ 32 0) (h1 : σ 32 0 < 40) : MT Γ yX5_putInRow cX5_putInRow 2 none 0 0 0 [(3, W), (0, v)] α μ (QN fun α1 μ1 => α1 = α ∧ TWF W μ μ1 ∧ TR M (mu (mu σ 33 (σ 32 0) v) 32 0 (σ 32 0 + 1)) W α μ1) := by
  have hW := T.1
  have hc := T.2.2.1.2.2.2
  refine MT_of (k := 0) [(3, W), (0, v)] pn_X5_putInRow rfl rfl (fun ad0 => ?_)
  refine V_aload_n (q := 1) dX5_putInRow_0 rfl rfl rfl ?_
  refine V_getI (q := 4) 5 dX5_putInRow_1 rfl flX5_43 (by omega) (congrArg Prod.fst (show _ = (6, 0) by rw [T.2.1.1.1])) rfl rfl (fun z1 ez1 rz1 => ?_)
  rw [T.2.2.1.2.2.2.1] at ez1
  refine V_bipush (q := 6) dX5_putInRow_4 rfl (by decide) ?_
  refine V_icmp_ge (q := 9) (tgt := 29) dX5_putInRow_6 (by decide) rfl (fun c6 => ?_) (fun c6 => ?_)
  · exfalso; omega
  · refine V_aload_n (q := 10) dX5_putInRow_9 rfl rfl rfl ?_
    refine V_getA (q := 13) 4 dX5_putInRow_10 rfl flX5_21 (by omega) (congrArg Prod.fst (show _ = (6, 0) by rw [T.2.1.1.1])) rfl rfl (fun z10 ez10 rz10 => ?_)
    rw [T.2.1.2.2.2.2.1] at ez10
    obtain rfl : z10 = (W + 4) := ez10
    refine V_aload_n (q := 14) dX5_putInRow_13 rfl rfl rfl ?_
    refine V_getI (q := 17) 5 dX5_putInRow_14 rfl flX5_43 (by omega) (congrArg Prod.fst (show _ = (6, 0) by rw [T.2.1.1.1])) rfl rfl (fun z14 ez14 rz14 => ?_)
    rw [T.2.2.1.2.2.2.1] at ez14
    refine V_iload_n (q := 18) dX5_putInRow_17 rfl rfl rfl ?_
    refine V_iast (q := 19) (n := 40) dX5_putInRow_18 rfl (by omega) (by rw [T.2.1.1.2.2.2.2.1]) (by omega) (fun M18 eM18 => ?_)
    refine V_aload_n (q := 20) dX5_putInRow_19 rfl rfl rfl ?_
    refine V_dup (q := 21) dX5_putInRow_20 rfl (show (3 : Nat) ≠ 2 by decide) ?_
    refine V_getI (q := 24) 5 dX5_putInRow_21 rfl flX5_43 (by omega) (congrArg Prod.fst (show _ = (6, 0) by rw [T.2.1.1.1])) rfl rfl (fun z21 ez21 rz21 => ?_)
    rw [eM18, mu_ne (by omega), T.2.2.1.2.2.2.1] at ez21
    refine V_iconst (q := 25) dX5_putInRow_24 rfl (by decide) ?_
    refine V_iadd (q := 26) dX5_putInRow_25 rfl (by omega) (fun z25 ez25 => ?_)
    refine V_putI (q := 29) 5 dX5_putInRow_26 rfl flX5_43 (Or.inl rfl) (by omega) (congrArg Prod.fst (show _ = (6, 0) by rw [T.2.1.1.1])) rfl rfl (fun M26 eM26 => ?_)
    refine V_vret dX5_putInRow_29 (Nat.le_of_ble_eq_true rfl) (Nat.le_of_ble_eq_true rfl) ⟨rfl, rfl, by { rw [eM26, eM18]; exact (TWF.put (by unfold tw; omega)).trans (TWF.put (by unfold tw; omega)) }, ?_⟩
    refine TR_row T (fun u k a b => by rw [eM26, mu_ne (by omega), eM18, mu_ne (by omega)]) (fun u k a b => by rw [mu_ne (by omega), mu_ne (by omega)]) (by rw [eM26, mu_s, mu_s]; omega) (fun i a b => ?_)
    rw [mu_s] at b; rw [eM26, mu_ne (by omega), eM18, mu_ne (show ¬ ((33 : Int) = 32 ∧ i = 0) by omega)]
    by_cases hi : i = σ 32 0
    · { rw [mu_ix (by omega), hi, mu_s] }
    · { rw [mu_ne (by omega), mu_i _ _ _ _ hi]; exact hc.2 i a (by omega) }
theorem tX3_arise {Γ : GC} {α : Sh} {μ : Mem} {W n of : Int} {M σ : Mem} (T : TR M σ W α μ) (h0 : 0 ≤ σ 47 0) (h1 : σ 47 0 ≤ 2147483000) : MT Γ yX3_arise cX3_arise 3 (some .int) 0 0 0 [(3, 150), (0, n), (0, of)] α μ (QI fun r α1 μ1 => α1 = α ∧ TWF W μ μ1 ∧ TR M (arE n of σ).2 W α μ1 ∧ r = (arE n of σ).1) := by
  have hW := T.1
  refine MT_of (k := 0) [(3, 150), (0, n), (0, of)] pn_X3_arise rfl rfl (fun ad0 => ?_)
  refine V_aload_n (q := 1) dX3_arise_0 rfl rfl rfl ?_
  refine V_dup (q := 2) dX3_arise_1 rfl (show (3 : Nat) ≠ 2 by decide) ?_
  refine V_getI (q := 5) 4 dX3_arise_2 rfl flX3_93 (by decide) (congrArg Prod.fst (show _ = (4, 0) by rw [T.2.2.2.1.1])) rfl rfl (fun z2 ez2 rz2 => ?_)
  rw [T.2.2.2.2.2.2.1] at ez2
  refine V_iconst (q := 6) dX3_arise_5 rfl (by decide) ?_
  refine V_iadd (q := 7) dX3_arise_6 rfl (by omega) (fun z6 ez6 => ?_)
  refine V_putI (q := 10) 4 dX3_arise_7 rfl flX3_93 (Or.inl rfl) (by decide) (congrArg Prod.fst (show _ = (4, 0) by rw [T.2.2.2.1.1])) rfl rfl (fun M7 eM7 => ?_)
  refine V_aload_n (q := 11) dX3_arise_10 rfl rfl rfl ?_
  refine V_iload_n (q := 12) dX3_arise_11 rfl rfl rfl ?_
  refine V_putI (q := 15) 6 dX3_arise_12 rfl flX3_9 (Or.inl rfl) (by decide) (congrArg Prod.fst (show _ = (4, 0) by rw [T.2.2.2.1.1])) rfl rfl (fun M12 eM12 => ?_)
  refine V_aload_n (q := 16) dX3_arise_15 rfl rfl rfl ?_
  refine V_getI (q := 19) 4 dX3_arise_16 rfl flX3_93 (by decide) (congrArg Prod.fst (show _ = (4, 0) by rw [T.2.2.2.1.1])) rfl rfl (fun z16 ez16 rz16 => ?_)
  rw [eM12, mu_ne (by omega), eM7, mu_s] at ez16
  obtain rfl : z6 = z16 := ez16.symm
  refine V_bipush (q := 21) dX3_arise_19 rfl (by decide) ?_
  refine V_icmp_le (q := 24) (tgt := 29) dX3_arise_21 (by decide) rfl (fun c21 => ?_) (fun c21 => ?_)
  · refine V_iload_n (q := 30) dX3_arise_29 rfl rfl rfl ?_
    refine V_iret dX3_arise_30 (Nat.le_of_ble_eq_true rfl) (Nat.le_of_ble_eq_true rfl) ⟨_, rfl, rfl, by { rw [eM12, eM7]; exact (TWF.put (by unfold tw; omega)).trans (TWF.put (by unfold tw; omega)) }, ?_, by { show _ = (if 40 < σ 47 0 + 1 then 23 else n); first | rw [if_pos (by omega)] | rw [if_neg (by omega)] }⟩
    rw [eM12, eM7, show z6 = σ 47 0 + 1 by omega]
    exact TR_ar T
  · refine V_bipush (q := 26) dX3_arise_24 rfl (by decide) ?_
    refine V_goto (tgt := 30) dX3_arise_26 (by decide) ?_
    refine V_iret dX3_arise_30 (Nat.le_of_ble_eq_true rfl) (Nat.le_of_ble_eq_true rfl) ⟨_, rfl, rfl, by { rw [eM12, eM7]; exact (TWF.put (by unfold tw; omega)).trans (TWF.put (by unfold tw; omega)) }, ?_, by { show _ = (if 40 < σ 47 0 + 1 then 23 else n); first | rw [if_pos (by omega)] | rw [if_neg (by omega)] }⟩
    rw [eM12, eM7, show z6 = σ 47 0 + 1 by omega]
    exact TR_ar T
theorem tX2_valueT {Γ : GC} {α : Sh} {μ : Mem} {W u nm x : Int} {M : Mem} (w : WFD M) (D : DesR M α μ) (sW : WoS W α μ) (hx : μ (W + 2) (10 * u + nm) = x) (hW0 : 0 ≤ W) (hu : 0 ≤ u ∧ u < M 0 0) (hm : 0 ≤ nm ∧ nm ≤ 9) (ho : 0 ≤ oF M u nm) : MT Γ yX2_valueOf cX2_valueOf 5 (some .int) 0 0 0 [(3, 110), (3, W), (0, u), (0, nm)] α μ (QI fun r α1 μ1 => α1 = α ∧ μ1 = μ ∧ r = (if M 8 (6 * u + oF M u nm) = 1 then M 9 (6 * u + oF M u nm) else x)) := by
  have hn := w.n
  obtain ⟨T, hT⟩ : ∃ T : Int, T = tk u := ⟨_, rfl⟩
  obtain ⟨kT, yT⟩ := D.2.2.1 u hu.1 hu.2
  rw [← hT] at kT
  unfold TypR at yT
  rw [← hT] at yT
  replace hT : T = 1000 * (u + 1) := hT
  have hfk := yT.2.2.2.1 nm hm.1 hm.2
  unfold fK at hfk
  rw [if_neg (show ¬ oF M u nm < 0 by omega)] at hfk
  refine MT_of (k := 1) [(3, 110), (3, W), (0, u), (0, nm), (9, 0)] pn_X2_valueOf rfl rfl (fun ad0 => ?_)
  refine V_aload_n (q := 1) dX2_valueOf_0 rfl rfl rfl ?_
  refine V_getA (q := 4) 0 dX2_valueOf_1 rfl flX2_11 (by decide) (congrArg Prod.fst (show _ = (3, 0) by rw [D.1.1.1])) rfl rfl (fun z1 ez1 rz1 => ?_)
  rw [D.1.2.1] at ez1
  obtain rfl : z1 = 111 := ez1
  refine V_iload_n (q := 5) dX2_valueOf_4 rfl rfl rfl ?_
  refine V_aald (q := 6) (n := 40) (ta := 23) (ci := 4) dX2_valueOf_5 rfl (by decide) (by rw [D.1.1.2.1]) rfl (by decide) (by omega) (fun z5 ez5 rz5 => ?_)
  rw [kT] at ez5
  obtain rfl : T = z5 := ez5.symm
  refine V_astore (q := 8) (lv1 := [(3, 110), (3, W), (0, u), (0, nm), (3, T)]) dX2_valueOf_6 rfl (by decide) rfl rfl ?_
  refine V_aload (q := 10) dX2_valueOf_8 rfl rfl ?_
  refine V_getA (q := 13) 6 dX2_valueOf_10 rfl flX2_62 (by omega) (congrArg Prod.fst (show _ = (5, 0) by rw [yT.1.1.1])) rfl rfl (fun z10 ez10 rz10 => ?_)
  rw [yT.1.2.2.1] at ez10
  obtain rfl : z10 = (T + 2) := ez10
  refine V_iload_n (q := 14) dX2_valueOf_13 rfl rfl rfl ?_
  refine V_iald (q := 15) (n := 10) dX2_valueOf_14 rfl (by omega) (by rw [yT.1.1.2.2.1]) (by omega) (fun z14 ez14 rz14 => ?_)
  rw [hfk.1] at ez14
  refine V_iconst (q := 16) dX2_valueOf_15 rfl (by decide) ?_
  have ezk := ez14
  refine V_icmp_ne (q := 19) (tgt := 29) dX2_valueOf_16 (by decide) rfl (fun c16 => ?_) (fun c16 => ?_)
  · refine V_aload_n (q := 30) dX2_valueOf_29 rfl rfl rfl ?_
    refine V_getA (q := 33) 1 dX2_valueOf_30 rfl flX2_72 (by omega) (congrArg Prod.fst (show _ = (6, 0) by rw [sW.1.1])) rfl rfl (fun z30 ez30 rz30 => ?_)
    rw [sW.2.2.1] at ez30
    obtain rfl : z30 = (W + 2) := ez30
    refine V_iload_n (q := 34) dX2_valueOf_33 rfl rfl rfl ?_
    refine V_bipush (q := 36) dX2_valueOf_34 rfl (by decide) ?_
    refine V_imul (q := 37) dX2_valueOf_36 rfl (by omega) (fun z36 ez36 => ?_)
    refine V_iload_n (q := 38) dX2_valueOf_37 rfl rfl rfl ?_
    refine V_iadd (q := 39) dX2_valueOf_38 rfl (by omega) (fun z38 ez38 => ?_)
    refine V_iald (q := 40) (n := 400) dX2_valueOf_39 rfl (by omega) (by rw [sW.1.2.2.1]) (by omega) (fun z39 ez39 rz39 => ?_)
    exact V_iret dX2_valueOf_40 (Nat.le_of_ble_eq_true rfl) (Nat.le_of_ble_eq_true rfl) ⟨_, rfl, rfl, rfl, by { rw [if_neg (by { split at ezk; · { omega }; · { assumption } })]; rw [ez39, ← hx]; congr 1; omega }⟩
  · refine V_aload (q := 21) dX2_valueOf_19 rfl rfl ?_
    refine V_getA (q := 24) 7 dX2_valueOf_21 rfl flX2_69 (by omega) (congrArg Prod.fst (show _ = (5, 0) by rw [yT.1.1.1])) rfl rfl (fun z21 ez21 rz21 => ?_)
    rw [yT.1.2.2.2.1] at ez21
    obtain rfl : z21 = (T + 3) := ez21
    refine V_iload_n (q := 25) dX2_valueOf_24 rfl rfl rfl ?_
    refine V_iald (q := 26) (n := 10) dX2_valueOf_25 rfl (by omega) (by rw [yT.1.1.2.2.2.1]) (by omega) (fun z25 ez25 rz25 => ?_)
    rw [hfk.2 ho] at ez25
    refine V_goto (tgt := 40) dX2_valueOf_26 (by decide) ?_
    exact V_iret dX2_valueOf_40 (Nat.le_of_ble_eq_true rfl) (Nat.le_of_ble_eq_true rfl) ⟨_, rfl, rfl, rfl, by { rw [if_pos (by { split at ezk; · { assumption }; · { omega } })]; exact ez25 }⟩
theorem V_max {Γ : GC} {α0 : Sh} {ad0 : Ad} {Z : ZT} {R : Room} {cc : ByteArray} {nL : Nat} {ret : Option FieldType} {nm : String} {pc q : Nat} {st lv : List AV} {α : Sh} {μ : Mem} {cs sl : Nat} {x y : Int} (hd : decode cc pc = .ok (.invokestatic 136, 3)) (hp : pc + 3 = q) (hf : 1 ≤ R.frames) (hlo : catL st + 13 ≤ R.locals) (hcs : cs ≤ R.cells) (hsl : sl ≤ R.slots) (k : ∀ z : Int, z = (if x < y then y else x) → V Γ α0 ad0 Z R RX3 cc nL ret nm q ((0, z) :: st) lv α μ cs sl) : V Γ α0 ad0 Z R RX3 cc nL ret nm pc ((0, y) :: (0, x) :: st) lv α μ cs sl := by
  intro p e s m args below meth c ad H ls locs F hH hE hst hlv hl hS
  subst hp
  have hy : inI y := okl_hd hst
  have hx : inI x := okl_hd (okl_tl hst)
  refine va_mmax F.hx F.hb (F.ml.trans hl.1.symm) F.ow (F.w (show Cond.methodLink RX3 136 Lib.Math.max.name ∈ lw_tbl from mlX3_136) rfl) (F.w (show Cond.static Lib.Math.max.name ∈ lw_tbl from sm_J9_max_7cf53) rfl) (F.w (show Cond.initialized "java/lang/Math" ∈ lw_tbl from mw_J9_max_7cf53.2) rfl) (F.w (show Cond.code Lib.Math.max.name Lib.Math.max.code 2 (some .int) ∈ lw_tbl from mw_J9_max_7cf53.1) rfl) hf (by rw [catL_eq]; exact hlo) hcs hsl hd ?_
  rw [show (if Int32.ofInt x < Int32.ofInt y then Int32.ofInt y else Int32.ofInt x) = Int32.ofInt (if x < y then y else x) by
    by_cases h : x < y
    · rw [if_pos h, if_pos ((oi_lt hx hy).mpr h)]
    · rw [if_neg h, if_neg (fun q => h ((oi_lt hx hy).mp q))]]
  refine k _ rfl p e s m args below meth c ad H ls locs F hH hE (okl_cons ?_ (okl_tl (okl_tl hst))) hlv hl hS
  show inI _
  split
  · exact hy
  · exact hx
