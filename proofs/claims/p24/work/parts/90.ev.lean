/-! A TOUCH, as a pure thing: σ holds how far a world is (28 states, 29 places, 30 / 31 tape, 32 / 33 row) and what is spent (45 actions, 46 deepest, 47 failures, 48 begun starts, 52 of); answers: -6 none, 0 to 22 a failure, 23 over -/
abbrev EvT : Type := Bool → Int → Int → Mem → Int × Mem
def arE (n of : Int) (σ : Mem) : Int × Mem := (if 40 < σ 47 0 + 1 then 23 else n, mu (mu σ 47 0 (σ 47 0 + 1)) 52 0 of)
def onT (v : Int) (σ : Mem) : Mem := if σ 30 0 < 300 then mu (mu σ 31 (σ 30 0) v) 30 0 (σ 30 0 + 1) else mu σ 30 0 (σ 30 0 + 1)
def rowP (t : Int) (σ : Mem) : Mem := mu (mu (mu σ 33 (σ 32 0) t) 32 0 (σ 32 0 + 1)) 48 0 (σ 48 0 + 1)
def seqF (g : EvT) (ob : Int) : List Int → Mem → Int × Mem
  | [], σ => (-6, σ)
  | x :: l, σ => if (g true x ob σ).1 = -6 then seqF g ob l (g true x ob σ).2 else g true x ob σ
def sbE (g : EvT) (t ob : Int) (q : Int × Mem) : Int × Mem := if q.1 = -6 then (if 30 ≤ ob then (23, q.2) else g false (5 * t) ob (rowP t q.2)) else q
def sfE (q : Int × Mem) : Int × Mem := if 0 ≤ q.1 ∧ q.1 < 20 then arE 20 q.1 q.2 else q
def seE (t : Int) (q : Int × Mem) : Int × Mem := (q.1, mu q.2 28 t (if q.1 = -6 then 2 else 3))
def stE (M : Mem) (g : EvT) (t ob : Int) (σ : Mem) : Int × Mem :=
  if σ 28 t = 3 then arE 21 t σ else if σ 28 t ≠ 0 then (-6, σ) else seE t (sfE (sbE g t ob (seqF g ob (LF M t) (mu σ 28 t 1))))
def thE (M : Mem) (k t n v : Int) (σ : Mem) : Mem := if k = 0 then onT v σ else if k = 1 then onT (if M 8 (FF M n t) = 1 then M 9 (FF M n t) else σ 29 (FF M n t)) σ else if k = 2 then mu σ 29 (FF M n t) v else σ
def acE (M : Mem) (g : EvT) (k t n v ob : Int) (σ : Mem) : Int × Mem :=
  if k = 7 then arE v (-6) σ else if RUi M k t n = 1 then arE 22 (-6) σ
  else if (if 0 ≤ STi M k t n then g true (STi M k t n) ob σ else (-6, σ)).1 = -6 then
    (if k = 3 then g false (FM M n t) ob (if 0 ≤ STi M k t n then g true (STi M k t n) ob σ else (-6, σ)).2 else (-6, thE M k t n v (if 0 ≤ STi M k t n then g true (STi M k t n) ob σ else (-6, σ)).2))
  else (if 0 ≤ STi M k t n then g true (STi M k t n) ob σ else (-6, σ))
/-- whether one of the n places of catches from p on takes r -/
def anC (M : Mem) (p r : Int) : Nat → Bool
  | 0 => false
  | n + 1 => (decide (M 16 (p + n) = -1) || decide (M 16 (p + n) = r)) || anC M p r n
def tkE (M : Mem) (b fc i : Int) (q : Int × Mem) : Int × Mem := if q.1 = -6 ∨ q.1 = 23 then q else if anC M (12 * b + fc) q.1 (i - fc).toNat = true then (-6, onT (1000 + q.1) q.2) else q
def bdL (M : Mem) (g : EvT) (b ob : Int) : Nat → Int → Int → Mem → Int × Mem
  | 0, _, _, σ => (-6, σ)
  | k + 1, i, fc, σ => if 1000 ≤ σ 45 0 then (23, σ)
    else if M 13 (12 * b + i) = 8 then bdL M g b ob k (i + 1) fc (mu σ 45 0 (σ 45 0 + 1))
    else if (tkE M b fc i (acE M g (M 13 (12 * b + i)) (M 14 (12 * b + i)) (M 15 (12 * b + i)) (M 16 (12 * b + i)) (ob + 1) (mu σ 45 0 (σ 45 0 + 1)))).1 = -6 then bdL M g b ob k (i + 1) (i + 1) (tkE M b fc i (acE M g (M 13 (12 * b + i)) (M 14 (12 * b + i)) (M 15 (12 * b + i)) (M 16 (12 * b + i)) (ob + 1) (mu σ 45 0 (σ 45 0 + 1)))).2
    else tkE M b fc i (acE M g (M 13 (12 * b + i)) (M 14 (12 * b + i)) (M 15 (12 * b + i)) (M 16 (12 * b + i)) (ob + 1) (mu σ 45 0 (σ 45 0 + 1)))
def bdE (M : Mem) (g : EvT) (b ob : Int) (σ : Mem) : Int × Mem := if 30 ≤ ob then (23, σ) else bdL M g b ob (M 12 b).toNat 0 0 (mu σ 46 0 (if σ 46 0 < ob + 1 then ob + 1 else σ 46 0))
def ev (M : Mem) : Nat → EvT
  | 0 => fun _ _ _ σ => (23, σ)
  | n + 1 => fun s x ob σ => match s with
    | true => stE M (ev M n) x ob σ
    | false => bdE M (ev M n) x ob σ
/-- a world at the beginning of a touch -/
def beg (σ : Mem) : Mem := mu (mu (mu (mu (mu σ 45 0 1) 46 0 0) 47 0 0) 48 0 0) 52 0 (-6)
def tE (M : Mem) (k t n v : Int) (σ : Mem) : Int × Mem := acE M (ev M 100) k t n v 0 (beg σ)
-- NUMBERS
def Un (M σ : Mem) : Int := cntz (σ 28) (M 0 0).toNat
theorem Un_0 (M σ : Mem) : 0 ≤ Un M σ := Int.natCast_nonneg _
/-- what always holds within a touch; e: how much of the tape's bound is left unused -/
def INV (B : Int) (M σ : Mem) : Prop := (∀ t : Int, 0 ≤ t → t < M 0 0 → 0 ≤ σ 28 t ∧ σ 28 t ≤ 3) ∧ (0 ≤ σ 32 0 ∧ σ 32 0 + Un M σ ≤ 40) ∧ (0 ≤ σ 48 0 ∧ σ 48 0 ≤ σ 32 0) ∧ (0 ≤ σ 45 0 ∧ σ 45 0 ≤ 1000) ∧ (0 ≤ σ 47 0 ∧ σ 47 0 ≤ 41) ∧ (0 ≤ σ 46 0 ∧ σ 46 0 ≤ 30) ∧ 0 ≤ σ 30 0 ∧ σ 30 0 ≤ B + σ 45 0 + σ 47 0
def slk (B e : Int) (σ : Mem) : Prop := σ 30 0 + e ≤ B + σ 45 0 + σ 47 0
/-- what a step of a touch does to the numbers -/
def GD (B e : Int) (M σ : Mem) (q : Int × Mem) : Prop := INV B M q.2 ∧ Un M q.2 ≤ Un M σ ∧ q.2 32 0 + Un M q.2 ≤ σ 32 0 + Un M σ ∧ (q.1 = -6 ∨ (0 ≤ q.1 ∧ q.1 ≤ 23)) ∧ (q.1 ≠ 23 → q.2 47 0 ≤ 40 ∧ slk B e q.2) ∧ (0 ≤ q.1 → q.1 ≤ 22 → slk B (e + 1) q.2)
theorem no6 {P : Prop} (h : (0 : Int) ≤ -6) : P := absurd h (by decide)
theorem GD.trans {B e : Int} {M σ σ1 : Mem} {q : Int × Mem} (h : GD B e M σ1 q) (h1 : Un M σ1 ≤ Un M σ) (h2 : σ1 32 0 + Un M σ1 ≤ σ 32 0 + Un M σ) : GD B e M σ q := ⟨h.1, Int.le_trans h.2.1 h1, Int.le_trans h.2.2.1 h2, h.2.2.2⟩
theorem Un_same {M σ σ1 : Mem} (h : σ1 28 = σ 28) : Un M σ1 = Un M σ := by unfold Un; rw [h]
theorem arE_gd {B e n of : Int} {M σ : Mem} (hn : 0 ≤ n ∧ n ≤ 22) (hi : INV B M σ) (h47 : σ 47 0 ≤ 40) (hs : slk B e σ) : GD B e M σ (arE n of σ) := by
  have c : ∀ k i : Int, ¬ (k = 47 ∧ i = 0) → ¬ (k = 52 ∧ i = 0) → (arE n of σ).2 k i = σ k i := fun k i h1 h2 => by unfold arE; show mu (mu σ 47 0 (σ 47 0 + 1)) 52 0 of k i = σ k i; rw [mu_ne h2, mu_ne h1]
  have c47 : (arE n of σ).2 47 0 = σ 47 0 + 1 := by unfold arE; show mu (mu σ 47 0 (σ 47 0 + 1)) 52 0 of 47 0 = σ 47 0 + 1; rw [mu_ne (by omega), mu_s]
  have c28 : (arE n of σ).2 28 = σ 28 := funext fun i => c 28 i (by omega) (by omega)
  have hr : (arE n of σ).1 = if 40 < σ 47 0 + 1 then 23 else n := rfl
  obtain ⟨i1, i2, i3, i4, i5, i6, i7, i8⟩ := hi
  unfold slk at hs
  refine ⟨⟨by rw [c28]; exact i1, ?_, ?_, ?_, ?_, ?_, ?_, ?_⟩, ?_, ?_, ?_, fun h => ⟨?_, ?_⟩, fun h1 h2 => ?_⟩
  · rw [Un_same c28, c 32 0 (by omega) (by omega)]; exact i2
  · rw [c 48 0 (by omega) (by omega), c 32 0 (by omega) (by omega)]; exact i3
  · rw [c 45 0 (by omega) (by omega)]; exact i4
  · rw [c47]; omega
  · rw [c 46 0 (by omega) (by omega)]; exact i6
  · rw [c 30 0 (by omega) (by omega)]; exact i7
  · rw [c 30 0 (by omega) (by omega), c 45 0 (by omega) (by omega), c47]; omega
  · rw [Un_same c28]; exact Int.le_refl _
  · rw [Un_same c28, c 32 0 (by omega) (by omega)]; exact Int.le_refl _
  · rw [hr]; split <;> omega
  · rw [hr] at h; rw [c47]; split at h
    · exact absurd rfl h
    · omega
  · unfold slk; rw [c 30 0 (by omega) (by omega), c 45 0 (by omega) (by omega), c47]; omega
  · unfold slk; rw [c 30 0 (by omega) (by omega), c 45 0 (by omega) (by omega), c47]; omega
theorem onT_o {v k i : Int} {σ : Mem} (h1 : k ≠ 31) (h2 : k ≠ 30) : onT v σ k i = σ k i := by
  unfold onT
  split
  · rw [mu_ne (by omega), mu_ne (by omega)]
  · rw [mu_ne (by omega)]
theorem onT_30 {v : Int} {σ : Mem} : onT v σ 30 0 = σ 30 0 + 1 := by
  unfold onT
  split
  · rw [mu_s]
  · rw [mu_s]
theorem onT_inv {B e v : Int} {M σ : Mem} (hi : INV B M σ) (he : 0 ≤ e) (hs : slk B (e + 1) σ) : INV B M (onT v σ) ∧ slk B e (onT v σ) ∧ onT v σ 28 = σ 28 := by
  obtain ⟨i1, i2, i3, i4, i5, i6, i7, i8⟩ := hi
  have c28 : onT v σ 28 = σ 28 := funext fun i => onT_o (by decide) (by decide)
  unfold slk at hs ⊢
  have o : ∀ k i : Int, k ≠ 31 → k ≠ 30 → onT v σ k i = σ k i := fun k i a b => onT_o a b
  refine ⟨⟨by rw [c28]; exact i1, ?_, ?_, ?_, ?_, ?_, ?_, ?_⟩, ?_, c28⟩
  · rw [Un_same c28, o 32 0 (by decide) (by decide)]; exact i2
  · rw [o 48 0 (by decide) (by decide), o 32 0 (by decide) (by decide)]; exact i3
  · rw [o 45 0 (by decide) (by decide)]; exact i4
  · rw [o 47 0 (by decide) (by decide)]; exact i5
  · rw [o 46 0 (by decide) (by decide)]; exact i6
  · rw [onT_30]; omega
  · rw [onT_30, o 45 0 (by decide) (by decide), o 47 0 (by decide) (by decide)]; omega
  · rw [onT_30, o 45 0 (by decide) (by decide), o 47 0 (by decide) (by decide)]; omega
theorem mu29_inv {B p v : Int} {M σ : Mem} (hi : INV B M σ) : INV B M (mu σ 29 p v) ∧ mu σ 29 p v 28 = σ 28 ∧ (∀ k : Int, k ≠ 29 → mu σ 29 p v k = σ k) := by
  have o : ∀ k : Int, k ≠ 29 → mu σ 29 p v k = σ k := fun k h => mu_f _ _ _ _ h
  refine ⟨?_, o 28 (by decide), o⟩
  unfold INV at hi ⊢
  rw [Un_same (o 28 (by decide)), o 28 (by decide), o 32 (by decide), o 48 (by decide), o 45 (by decide), o 47 (by decide), o 46 (by decide), o 30 (by decide)]
  exact hi
theorem thE_gd {B e k t n v : Int} {M σ : Mem} (hi : INV B M σ) (he : 0 ≤ e) (h47 : σ 47 0 ≤ 40) (hs : slk B (e + 1) σ) : GD B e M σ (-6, thE M k t n v σ) := by
  have key : ∀ τ : Mem, INV B M τ → τ 28 = σ 28 → τ 32 0 = σ 32 0 → τ 47 0 = σ 47 0 → slk B e τ → GD B e M σ (-6, τ) := fun τ a b c d f => by
    refine ⟨a, by rw [Un_same b]; exact Int.le_refl _, by rw [Un_same b]; show τ 32 0 + _ ≤ _; rw [c]; exact Int.le_refl _, Or.inl rfl, fun _ => ⟨by show τ 47 0 ≤ 40; rw [d]; exact h47, f⟩, no6⟩
  have hs0 : slk B e σ := by unfold slk at hs ⊢; omega
  unfold thE
  split
  · have h := onT_inv (v := v) hi he hs
    exact key _ h.1 h.2.2 (onT_o (by decide) (by decide)) (onT_o (by decide) (by decide)) h.2.1
  · split
    · have h := onT_inv (v := if M 8 (FF M n t) = 1 then M 9 (FF M n t) else σ 29 (FF M n t)) hi he hs
      exact key _ h.1 h.2.2 (onT_o (by decide) (by decide)) (onT_o (by decide) (by decide)) h.2.1
    · split
      · have h := mu29_inv (p := FF M n t) (v := v) hi
        refine key _ h.1 h.2.1 (by rw [h.2.2 32 (by decide)]) (by rw [h.2.2 47 (by decide)]) ?_
        unfold slk at hs0 ⊢
        rw [h.2.2 30 (by decide), h.2.2 45 (by decide), h.2.2 47 (by decide)]
        exact hs0
      · exact key _ hi rfl rfl rfl hs0
/-- what is asked of the functions within -/
def GOOD (B : Int) (M : Mem) (g : EvT) : Prop := ∀ (s : Bool) (x ob e : Int) (σ : Mem), (s = true → 0 ≤ x ∧ x < M 0 0) → (s = false → 0 ≤ x ∧ x < 200) → 0 ≤ ob → 0 ≤ e → INV B M σ → σ 47 0 ≤ 40 → slk B e σ → GD B e M σ (g s x ob σ)
theorem seqF_gd {B ob : Int} {M : Mem} {g : EvT} (hg : GOOD B M g) (h0 : 0 ≤ ob) : ∀ (l : List Int) (e : Int) (σ : Mem), (∀ x ∈ l, 0 ≤ x ∧ x < M 0 0) → 0 ≤ e → INV B M σ → σ 47 0 ≤ 40 → slk B e σ → GD B e M σ (seqF g ob l σ) := by
  intro l
  induction l with
  | nil => intro e σ _ he hi h47 hs; exact ⟨hi, Int.le_refl _, Int.le_refl _, Or.inl rfl, fun _ => ⟨h47, hs⟩, no6⟩
  | cons x l ih =>
    intro e σ hl he hi h47 hs
    have h1 := hg true x ob e σ (fun _ => hl x List.mem_cons_self) (fun h => absurd h (by decide)) h0 he hi h47 hs
    unfold seqF
    by_cases hr : (g true x ob σ).1 = -6
    · rw [if_pos hr]
      have h2 := h1.2.2.2.2.1 (by rw [hr]; decide)
      exact (ih e _ (fun y hy => hl y (List.mem_cons_of_mem _ hy)) he h1.1 h2.1 h2.2).trans h1.2.1 h1.2.2.1
    · rw [if_neg hr]; exact h1
theorem Un_set {M σ : Mem} {t : Int} (h0 : 0 ≤ t) (h1 : t < M 0 0) (hz : σ 28 t = 0) : Un M (mu σ 28 t 1) + 1 = Un M σ := by
  unfold Un
  have := cntz_upd (f := σ 28) (g := mu σ 28 t 1 28) (i := t) hz (by rw [mu_s]; decide) (fun j hj => mu_i _ _ _ _ hj) (M 0 0).toNat h0 (by omega)
  omega
theorem cntz_le_of {f g : Int → Int} : ∀ n : Nat, (∀ i : Int, 0 ≤ i → i < n → g i = 0 → f i = 0) → cntz g n ≤ cntz f n := by
  intro n
  induction n with
  | zero => intro _; exact Nat.le_refl _
  | succ n ih =>
    intro h
    have h1 := ih (fun i a b => h i a (by omega))
    unfold cntz
    by_cases hg : g n = 0
    · rw [if_pos hg, if_pos (h n (by omega) (by omega) hg)]; omega
    · rw [if_neg hg]; omega
theorem Un_nz {M σ : Mem} {t v : Int} (hv : v ≠ 0) : Un M (mu σ 28 t v) ≤ Un M σ := by
  unfold Un
  have := cntz_le_of (f := σ 28) (g := mu σ 28 t v 28) (M 0 0).toNat (fun i _ _ h => by
    by_cases hi : i = t
    · rw [hi, mu_s] at h; exact absurd h hv
    · rw [mu_i _ _ _ _ hi] at h; exact h)
  omega
theorem mu28_inv {B t v : Int} {M σ : Mem} (hi : INV B M σ) (hv : 1 ≤ v ∧ v ≤ 3) : INV B M (mu σ 28 t v) ∧ (∀ k : Int, k ≠ 28 → mu σ 28 t v k = σ k) := by
  have o : ∀ k : Int, k ≠ 28 → mu σ 28 t v k = σ k := fun k h => mu_f _ _ _ _ h
  refine ⟨?_, o⟩
  have hu := Un_nz (M := M) (σ := σ) (t := t) (v := v) (by omega)
  obtain ⟨i1, i2, i3⟩ := hi
  refine ⟨fun x x0 x1 => ?_, ?_, ?_⟩
  · by_cases hx : x = t
    · rw [hx, mu_s]; omega
    · rw [mu_i _ _ _ _ hx]; exact i1 x x0 x1
  · rw [o 32 (by decide)]; omega
  · rw [o 48 (by decide), o 32 (by decide), o 45 (by decide), o 47 (by decide), o 46 (by decide), o 30 (by decide)]; exact i3
theorem rowP_o {t k i : Int} {σ : Mem} (h1 : k ≠ 33) (h2 : k ≠ 32) (h3 : k ≠ 48) : rowP t σ k i = σ k i := by
  unfold rowP
  rw [mu_ne (by omega), mu_ne (by omega), mu_ne (by omega)]
theorem rowP_32 {t : Int} {σ : Mem} : rowP t σ 32 0 = σ 32 0 + 1 := by
  unfold rowP
  rw [mu_ne (by omega), mu_s]
theorem rowP_48 {t : Int} {σ : Mem} : rowP t σ 48 0 = σ 48 0 + 1 := by
  unfold rowP
  rw [mu_s]
theorem seE_gd {B e t : Int} {M σ : Mem} {q : Int × Mem} (h : GD B e M σ q) : GD B e M σ (seE t q) := by
  obtain ⟨h1, h2, h3, h4, h5, h6⟩ := h
  have hv : 1 ≤ (if q.1 = -6 then (2 : Int) else 3) ∧ (if q.1 = -6 then (2 : Int) else 3) ≤ 3 := by split <;> decide
  have hm := mu28_inv (t := t) h1 hv
  have hu := Un_nz (M := M) (σ := q.2) (t := t) (v := if q.1 = -6 then 2 else 3) (by omega)
  have e2 : (seE t q).2 = mu q.2 28 t (if q.1 = -6 then 2 else 3) := rfl
  have e1 : (seE t q).1 = q.1 := rfl
  refine ⟨hm.1, ?_, ?_, h4, fun h => ⟨?_, ?_⟩, fun a b => ?_⟩
  · rw [e2]; omega
  · rw [e2, hm.2 32 (by decide)]; omega
  · rw [e2, hm.2 47 (by decide)]; exact (h5 h).1
  · have := (h5 h).2; unfold slk at this ⊢; rw [e2, hm.2 30 (by decide), hm.2 45 (by decide), hm.2 47 (by decide)]; exact this
  · have := h6 a b; unfold slk at this ⊢; rw [e2, hm.2 30 (by decide), hm.2 45 (by decide), hm.2 47 (by decide)]; exact this
theorem sfE_gd {B e : Int} {M σ : Mem} {q : Int × Mem} (he : 0 ≤ e) (h : GD B e M σ q) : GD B e M σ (sfE q) := by
  unfold sfE
  by_cases hq : 0 ≤ q.1 ∧ q.1 < 20
  · rw [if_pos hq]
    have h5 := h.2.2.2.2.1 (by omega)
    exact (arE_gd (n := 20) (of := q.1) (e := e) ⟨by decide, by decide⟩ h.1 h5.1 h5.2).trans h.2.1 h.2.2.1
  · rw [if_neg hq]; exact h
theorem rowP_inv {B t : Int} {M σ : Mem} (hi : INV B M σ) (hr : σ 32 0 + Un M σ ≤ 39) : INV B M (rowP t σ) := by
  obtain ⟨i1, i2, i3, i4, i5, i6, i7, i8⟩ := hi
  have c28 : rowP t σ 28 = σ 28 := funext fun i => rowP_o (by decide) (by decide) (by decide)
  have o : ∀ k i : Int, k ≠ 33 → k ≠ 32 → k ≠ 48 → rowP t σ k i = σ k i := fun k i a b c => rowP_o a b c
  refine ⟨by rw [c28]; exact i1, ?_, ?_, ?_, ?_, ?_, ?_, ?_⟩
  · rw [Un_same c28, rowP_32]; omega
  · rw [rowP_48, rowP_32]; omega
  · rw [o 45 0 (by decide) (by decide) (by decide)]; exact i4
  · rw [o 47 0 (by decide) (by decide) (by decide)]; exact i5
  · rw [o 46 0 (by decide) (by decide) (by decide)]; exact i6
  · rw [o 30 0 (by decide) (by decide) (by decide)]; exact i7
  · rw [o 30 0 (by decide) (by decide) (by decide), o 45 0 (by decide) (by decide) (by decide), o 47 0 (by decide) (by decide) (by decide)]; exact i8
