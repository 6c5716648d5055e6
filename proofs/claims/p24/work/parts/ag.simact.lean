/-! BOTH TOUCHES: one action of an open frame -/
/-- beyond what may be spent: where the machine stands -/
def OVq (M0 : Mem) (x : Int) (q : Int × Mem) (M1 : Mem) : Prop := q.1 = 23 ∧ M1 49 0 = 1 ∧ KS M0 x M1 ∧ M1 45 0 = q.2 45 0 ∧ M1 46 0 = q.2 46 0 ∧ (M1 47 0 = q.2 47 0 ∨ (M1 47 0 = 40 ∧ q.2 47 0 = 41)) ∧ M1 48 0 = q.2 48 0
theorem OVq.en {M0 Mb M1 : Mem} {x f ob : Int} {q : Int × Mem} (h : OVq M0 x q M1) : ENDq M0 x f ob Mb q M1 := Or.inr h
/-- frame f is the last that is open -/
def INS (M0 : Mem) (x f ob : Int) (Mb M σ : Mem) : Prop := RSg M0 x M σ ∧ M 38 0 = f + 1 ∧ M 44 0 = ob ∧ M 49 0 = 0 ∧ BLW f Mb M
def FRs (f o i c h a : Int) (M : Mem) : Prop := M 39 f = 0 ∧ M 40 f = o ∧ M 41 f = i ∧ M 42 f = c ∧ M 43 f = h ∧ M 57 f = a
/-- a failure came up to frame f -/
def UPq (M0 : Mem) (x f ob : Int) (Mb : Mem) (q : Int × Mem) (M1 : Mem) : Prop := 0 ≤ q.1 ∧ q.1 ≠ 23 ∧ INS M0 x f ob Mb M1 q.2 ∧ M1 50 0 = 1 ∧ M1 51 0 = q.1 ∧ M1 52 0 = q.2 52 0
theorem END_in {M0 Mb Mi M1 : Mem} {x f ob : Int} {q : Int × Mem} (h : ENDq M0 x (f + 1) ob Mi q M1) (hb : BLW f Mb Mi) :
    OVq M0 x q M1 ∨ (BLW (f + 1) Mi M1 ∧ ((q.1 = -6 ∧ INS M0 x f ob Mb M1 q.2 ∧ M1 50 0 = 0) ∨ UPq M0 x f ob Mb q M1)) := by
  rcases h with ⟨a, b, c, d, e, g, i⟩ | h
  · right
    refine ⟨g, ?_⟩
    have hi : INS M0 x f ob Mb M1 q.2 := ⟨e, b, c, d, hb.trans (g.le (by omega))⟩
    rcases i with ⟨j, k⟩ | ⟨j, k, l, m⟩
    · exact Or.inl ⟨j, hi, k⟩
    · exact Or.inr ⟨j, a, hi, k, l, m⟩
  · exact Or.inl h
theorem FRs.up {M M1 : Mem} {f o i c h a : Int} (hf : FRs f o i c h a M) (hb : BLW (f + 1) M M1) (h39 : M1 39 f = M 39 f) : FRs f o i c h a M1 := by
  have b := hb f (by omega)
  obtain ⟨a1, a2, a3, a4, a5, a6⟩ := hf
  exact ⟨b.1.trans a1, b.2.1.trans a2, b.2.2.1.trans a3, b.2.2.2.1.trans a4, b.2.2.2.2.1.trans a5, b.2.2.2.2.2.trans a6⟩
theorem FRs.bl {M M1 : Mem} {f o i c h a : Int} (hf : FRs f o i c h a M) (hb : BLW (f + 1) M M1) : FRs f o i c h a M1 := hf.up hb (hb f (by omega)).1
/-- what an action comes to -/
def ACq (M0 : Mem) (x f ob : Int) (Mb : Mem) (o i c : Int) (q : Int × Mem) (M1 : Mem) : Prop :=
  OVq M0 x q M1 ∨ (q.1 = -6 ∧ INS M0 x f ob Mb M1 q.2 ∧ M1 50 0 = 0 ∧ FRs f o (i + 1) (-6) 0 0 M1) ∨ (UPq M0 x f ob Mb q M1 ∧ M1 39 f = 0 ∧ M1 40 f = o ∧ M1 41 f = i ∧ M1 42 f = c)
theorem didM_at {M : Mem} {f o i c h : Int} (hf : FRs f o i c h 0 M) : FRs f o (i + 1) (-6) 0 0 (didM f M) := by
  obtain ⟨a1, a2, a3, a4, a5, a6⟩ := hf
  unfold didM
  rw [a3]
  refine ⟨?_, ?_, ?_, ?_, ?_, ?_⟩ <;> simp only [mu, if_true, if_false, and_true, true_and, and_false, false_and] <;> first | assumption | rfl | (simp; done) | (simp; assumption)
theorem didM_bl {M : Mem} {f : Int} : BLW f M (didM f M) := fun j hj => by
  unfold didM
  refine ⟨?_, ?_, ?_, ?_, ?_, ?_⟩ <;> rw [mu_ne (by omega), mu_ne (by omega), mu_ne (by omega)]
/-- a change outside of all that counts -/
theorem INS_c {M0 Mb M M1 σ : Mem} {x f ob : Int} (h : INS M0 x f ob Mb M σ) (hm : ∀ k : Int, (0 ≤ k ∧ k ≤ 17) ∨ (28 ≤ k ∧ k ≤ 38) ∨ (44 ≤ k ∧ k ≤ 49) ∨ (53 ≤ k ∧ k ≤ 56) → M1 k = M k) (hb : BLW f M M1) : INS M0 x f ob Mb M1 σ := by
  obtain ⟨a, b, c, d, e⟩ := h
  exact ⟨RSg_c a (fun k hk => hm k (by omega)), by rw [hm 38 (by decide)]; exact b, by rw [hm 44 (by decide)]; exact c, by rw [hm 49 (by decide)]; exact d, e.trans hb⟩
theorem FRs_c {M M1 : Mem} {f o i c h a : Int} (hf : FRs f o i c h a M) (hm : ∀ k : Int, (39 ≤ k ∧ k ≤ 43) ∨ k = 57 → M1 k = M k) : FRs f o i c h a M1 := by
  unfold FRs
  rw [hm 39 (by decide), hm 40 (by decide), hm 41 (by decide), hm 42 (by decide), hm 43 (by decide), hm 57 (by decide)]
  exact hf
theorem BLW_c {M M1 : Mem} {f : Int} (hm : ∀ k : Int, (39 ≤ k ∧ k ≤ 43) ∨ k = 57 → M1 k = M k) : BLW f M M1 := fun j _ => by
  rw [hm 39 (by decide), hm 40 (by decide), hm 41 (by decide), hm 42 (by decide), hm 43 (by decide), hm 57 (by decide)]
  exact ⟨rfl, rfl, rfl, rfl, rfl, rfl⟩
theorem INS_did {M0 Mb M σ : Mem} {x f ob : Int} (h : INS M0 x f ob Mb M σ) : INS M0 x f ob Mb (didM f M) σ := INS_c h (fun k hk => didM_o (by omega) (by omega) (by omega)) didM_bl
/-- an action within: what stands on the tape's row or the place; kind k -/
theorem INS_on {M0 Mb M σ : Mem} {x f ob v : Int} (h : INS M0 x f ob Mb M σ) (h30 : 0 ≤ σ 30 0) : INS M0 x f ob Mb (onTM v M) (onT v σ) := by
  obtain ⟨a, b, c, d, e⟩ := h
  have hm : ∀ k : Int, k ≠ 31 → k ≠ 30 → onTM v M k = M k := fun k h1 h2 => onTM_o h1 h2
  exact ⟨RSg_onT a h30, by rw [hm 38 (by decide) (by decide)]; exact b, by rw [hm 44 (by decide) (by decide)]; exact c, by rw [hm 49 (by decide) (by decide)]; exact d, e.trans (BLW_c (fun k hk => hm k (by omega) (by omega)))⟩
