/-! THE LAW: the world that it starts in -/
theorem kf_int {s : State} {args : Array Value} (h : (Cond.arrayClass .int).before args s = true) : ∃ cA, ArrOfT s cA .int ∧ va_RA s cA .int := by
  obtain ⟨cA, kA, comp, h1, h2, h3⟩ := Cond.arrayClass_spec h
  exact ⟨cA, fun n z => ⟨fun k h => (by cases h), kA, h2, comp, h3⟩, h1⟩
theorem kf_bool {s : State} {args : Array Value} (h : (Cond.arrayClass .boolean).before args s = true) : ∃ cA, ArrOfT s cA .boolean ∧ va_RA s cA .boolean := by
  obtain ⟨cA, kA, comp, h1, h2, h3⟩ := Cond.arrayClass_spec h
  exact ⟨cA, fun n z => ⟨fun k h => (by cases h), kA, h2, comp, h3⟩, h1⟩
theorem kf_long {s : State} {args : Array Value} (h : (Cond.arrayClass .long).before args s = true) : ∃ cA, ArrOfT s cA .long ∧ va_RA s cA .long := by
  obtain ⟨cA, kA, comp, h1, h2, h3⟩ := Cond.arrayClass_spec h
  exact ⟨cA, fun n z => ⟨fun k h => (by cases h), kA, h2, comp, h3⟩, h1⟩
theorem kf_obj {s : State} {args : Array Value} {C : String} (h : (Cond.arrayOver (.object C)).before args s = true) : ∃ cA, ArrOfT s cA (.object C) ∧ va_RA s cA (.object C) := by
  obtain ⟨comp, cA, kA, hcomp, hidx, hkA, hkindA, hnameA⟩ := Cond.arrayOver_spec h
  exact ⟨cA, fun N z => ⟨(fun k h => by cases h), kA, hkA, comp, hkindA⟩, kA, comp, hkA, hkindA, hcomp, hnameA⟩
theorem mkKF {s : State} {args : Array Value} (l : Launch) (hts : ∀ w ∈ lw_tbl, w.before args s = true) : ∃ Γ : GC, g_l Γ = l ∧ g_b Γ = s.heap.size ∧ KF Γ s := by
  have H : ∀ ci, ci < 8 → ∃ (cC : ClassId) (iS : Nat → Nat), u_Kn s (cR ci) (cT ci) (cN ci) cC iS := by
    intro ci h
    have hi : ∀ ci, ci < 8 → Cond.instantiable (cR ci) (cN ci) ∈ lw_tbl := by
      intro ci h
      match ci, h with
      | 0, _ => exact ckX6_123.2.1
      | 1, _ => exact ckX4_21.2.1
      | 2, _ => exact ckX6_7.2.1
      | 3, _ => exact ckX6_167.2.1
      | 4, _ => exact ckX6_40.2.1
      | 5, _ => exact ckX6_16.2.1
      | 6, _ => exact ckL_7.2.1
      | 7, _ => exact ckL_10.2.1
    exact u_known hts (cin ci h) (hts _ (hi ci h))
  have H2 : ∀ t, 20 ≤ t → t ≤ 26 → ∃ cA, ArrOfT s cA (tyA t) ∧ va_RA s cA (tyA t) := by
    intro t h1 h2
    rcases (show t = 20 ∨ t = 21 ∨ t = 22 ∨ t = 23 ∨ t = 24 ∨ t = 25 ∨ t = 26 by omega) with rfl | rfl | rfl | rfl | rfl | rfl | rfl
    · exact kf_int (hts _ ar_106)
    · exact kf_bool (hts _ ar_793)
    · exact kf_long (hts _ ar_107)
    · exact kf_obj (hts _ caX2_9.2.1)
    · exact kf_obj (hts _ caX4_21.2.1)
    · exact kf_obj (hts _ caX1_9.2.1)
    · exact kf_obj (hts _ caX6_16.2.1)
  refine ⟨(l, s.heap.size, fun ci => if h : ci < 8 then (H ci h).choose else (H 0 (by decide)).choose, fun ci => if h : ci < 8 then (H ci h).choose_spec.choose else fun _ => 0, fun t => if h : 20 ≤ t ∧ t ≤ 26 then (H2 t h.1 h.2).choose else (H2 20 (by decide) (by decide)).choose), rfl, rfl, ⟨fun ci q hq => ?_, fun k q hq => ?_⟩, ⟨va_AO.of (hts _ caX2_9.2.1), va_AO.of (hts _ caX4_21.2.1), va_AO.of (hts _ caX1_9.2.1), va_AO.of (hts _ caX6_16.2.1)⟩, fun own idx y h hm => va_Nw.of rfl (hts _ hm)⟩
  · have h8 : ci < 8 := (List.getElem?_eq_some_iff.mp hq).1
    rw [CL_at ci h8] at hq
    cases hq
    show u_Kn s (cR ci) (cT ci) (cN ci) (if h : ci < 8 then _ else _) (if h : ci < 8 then _ else _)
    rw [dif_pos h8, dif_pos h8]
    exact (H ci h8).choose_spec.choose_spec
  · have h7 : k < 7 := (List.getElem?_eq_some_iff.mp hq).1
    have hd : ∀ t (h : 20 ≤ t ∧ t ≤ 26), g_A (l, s.heap.size, (fun ci => if h : ci < 8 then (H ci h).choose else (H 0 (by decide)).choose), (fun ci => if h : ci < 8 then (H ci h).choose_spec.choose else fun _ => 0), (fun t => if h : 20 ≤ t ∧ t ≤ 26 then (H2 t h.1 h.2).choose else (H2 20 (by decide) (by decide)).choose)) t = (H2 t h.1 h.2).choose := fun t h => dif_pos h
    rcases (show k = 0 ∨ k = 1 ∨ k = 2 ∨ k = 3 ∨ k = 4 ∨ k = 5 ∨ k = 6 by omega) with rfl | rfl | rfl | rfl | rfl | rfl | rfl
    · cases hq; rw [hd 20 ⟨by decide, by decide⟩]; exact (H2 20 (by decide) (by decide)).choose_spec
    · cases hq; rw [hd 21 ⟨by decide, by decide⟩]; exact (H2 21 (by decide) (by decide)).choose_spec
    · cases hq; rw [hd 22 ⟨by decide, by decide⟩]; exact (H2 22 (by decide) (by decide)).choose_spec
    · cases hq; rw [hd 23 ⟨by decide, by decide⟩]; exact (H2 23 (by decide) (by decide)).choose_spec
    · cases hq; rw [hd 24 ⟨by decide, by decide⟩]; exact (H2 24 (by decide) (by decide)).choose_spec
    · cases hq; rw [hd 25 ⟨by decide, by decide⟩]; exact (H2 25 (by decide) (by decide)).choose_spec
    · cases hq; rw [hd 26 ⟨by decide, by decide⟩]; exact (H2 26 (by decide) (by decide)).choose_spec
/-- the law's body out of V -/
theorem law_of {p : Program} {e : Env} {s : State} {m : MethodId} {below : List Frame} {meth : Method} {c : Code} (l : Launch) {b L : Nat} {xs : Nat → Int32} (C0 : lw_At p s m meth c b L xs) (hv : ∀ (Γ : GC) (ad0 : Ad), b < g_b Γ → V Γ (fun _ => (0, 0)) ad0 (ZX (g_b Γ) b L xs) room_1 RL code 4 (some .boolean) "law" 0 [] [(5, (b : Int)), (9, 0), (9, 0), (9, 0)] (fun _ => (0, 0)) (fun _ _ => 0) 0 0) : W p l e room_1 s m #[Value.ref b] below meth c s.heap [] 0 0 (lw_Z below #[Value.ref b] s) (entryFrame m ([Value.ref b] : List Value).toArray 4) := by
  obtain ⟨hx, hb, hr, hml, hown, hts, hX, hbl, hlocks, hgv⟩ := id C0
  obtain ⟨Γ, gl, gb, hK⟩ := mkKF l hts
  subst gl
  have hl := lv_entry ([.ref b]) (n := 4) (Nat.le_of_ble_eq_true rfl)
  rw [lg_entry_eq]
  generalize (lg_sl ([.ref b]) ++ List.replicate (4 - (lg_sl ([.ref b])).length) Slot.unset).toArray = ls at hl ⊢
  have hl : lv_has ls 4 [(0, .ref b)] := hl
  have F : FX Γ p s m #[Value.ref b] meth c RL code 4 (some .boolean) "law" := ⟨⟨hx, hb⟩, hml, hown, fun w hw => hts w (List.mem_filter.mp hw).1, hr, hlocks, fun h => absurd h (by decide), hK, by rw [gb]; exact Nat.le_refl _⟩
  have hH : HR Γ (fun _ => (0, 0)) (fun _ _ => 0) (fun _ => 0) s.heap := ⟨⟨[], List.nodup_nil, fun t => ⟨fun h => absurd h List.not_mem_nil, fun h => absurd rfl h⟩, fun k q h => by simp [hws] at h, ⟨fun i j p q h => by simp [hws] at h, fun k q h => by simp [hws] at h⟩⟩, fun t i h => absurd rfl h⟩
  have hk := hv Γ (fun _ => 0) (by rw [gb]; exact hbl) p e s m #[Value.ref b] below meth c (fun _ => 0) s.heap ls [] F hH EX.rf okl_nil (fun v hv => by
    rcases List.mem_cons.mp hv with rfl | hv
    · trivial
    · rcases List.mem_cons.mp hv with rfl | hv
      · trivial
      · rcases List.mem_cons.mp hv with rfl | hv
        · trivial
        · rw [List.mem_singleton.mp hv]; trivial) hl va_S.rf
  intro T hT X
  obtain ⟨t, h1, h2⟩ := hk T hT X
  exact ⟨t, h1, h2 ⟨hX, rfl, gb.symm⟩⟩
