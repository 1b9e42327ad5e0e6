/-! ===== pure: how far a trial can drift; the best rule ===== -/
theorem bm_ {x : Int} (h1 : -2147483648 ≤ x) (h2 : x ≤ 2147483647) : x.bmod (2 ^ 32) = x := by
  rw [Int.bmod_def]; omega
def IB (B : Int) (x : Int32) : Prop := -B ≤ x.toInt ∧ x.toInt ≤ B
theorem IB_add {A B : Int} {x y : Int32} (hx : IB A x) (hy : IB B y) (h : A + B ≤ 2147483647) : IB (A + B) (x + y) := by
  unfold IB at *
  rw [Int32.toInt_add, bm_ (by omega) (by omega)]; omega
theorem IB_sub {A B : Int} {x y : Int32} (hx : IB A x) (hy : IB B y) (h : A + B ≤ 2147483647) : IB (A + B) (x - y) := by
  unfold IB at *
  rw [Int32.toInt_sub, bm_ (by omega) (by omega)]; omega
theorem IB_neg {A : Int} {x : Int32} (hx : IB A x) (h : A ≤ 2147483647) : IB A (-x) := by
  unfold IB at *
  rw [Int32.toInt_neg, bm_ (by omega) (by omega)]; omega
theorem IB_mul {A : Int} {x : Int32} {k : Nat} (hx : IB A x) (hk : k ≤ 20) (h : A * 20 ≤ 2147483647) : IB (A * 20) (x * nI k) := by
  unfold IB at *
  have e : (nI k).toInt = (k : Int) := nI_toInt (by omega)
  rw [Int32.toInt_mul, e]
  have : k = 0 ∨ k = 1 ∨ k = 2 ∨ k = 3 ∨ k = 4 ∨ k = 5 ∨ k = 6 ∨ k = 7 ∨ k = 8 ∨ k = 9 ∨ k = 10 ∨ k = 11 ∨ k = 12 ∨ k = 13 ∨ k = 14 ∨ k = 15 ∨ k = 16 ∨ k = 17 ∨ k = 18 ∨ k = 19 ∨ k = 20 := by omega
  rcases this with q | q | q | q | q | q | q | q | q | q | q | q | q | q | q | q | q | q | q | q | q <;> (subst q; rw [bm_ (by omega) (by omega)]; omega)
theorem IB_div {A : Int} {x : Int32} {k : Nat} (hx : IB A x) (hk : k ≤ 20) (h : A ≤ 2147483647) : IB A (x / nI k) := by
  unfold IB at *
  have e : (nI k).toInt = (k : Int) := nI_toInt (by omega)
  rw [Int32.toInt_div, e]
  have hq : -A ≤ x.toInt.tdiv (k : Int) ∧ x.toInt.tdiv (k : Int) ≤ A := by
    have := Int.natAbs_tdiv_le_natAbs x.toInt (k : Int)
    omega
  rw [bm_ (by omega) (by omega)]; exact hq
theorem IB_mono {A B : Int} {x : Int32} (hx : IB A x) (h : A ≤ B) : IB B x := by unfold IB at *; omega
theorem IB_0 {B : Int} (h : 0 ≤ B) : IB B 0 := by
  unfold IB; rw [show (0 : Int32).toInt = 0 by decide]; omega
theorem IB_sz {A : Int} {b : Nat} {x : Int32} (hx : IB A x) (h : A ≤ 2147483647) (hb : b ≤ 999) (hl : ¬ nI b < sz32 x) : IB 999 x := by
  unfold IB sz32 at *
  have e : (nI b).toInt = (b : Int) := nI_toInt (by omega)
  rw [Int32.not_lt, Int32.le_iff_toInt_le, e] at hl
  by_cases c : 0 ≤ x
  · rw [if_pos c] at hl
    rw [Int32.le_iff_toInt_le, show (0 : Int32).toInt = 0 by decide] at c
    omega
  · rw [if_neg c] at hl
    rw [Int32.le_iff_toInt_le, show (0 : Int32).toInt = 0 by decide] at c
    rw [Int32.toInt_neg, bm_ (by omega) (by omega)] at hl
    omega
def BP (P : PP) : Prop := (∀ t, IB 200 (P.2.2.2 t)) ∧ IB 9 P.1 ∧ (∃ b : Nat, b ≤ 999 ∧ P.2.1 = nI b) ∧ prOK P.2.2.1
theorem R.bp {c m : St} (h : R c m) : BP (ppM m) := by
  obtain ⟨⟨-, -, -, -, ⟨-, e7⟩, -, -, e8, e9⟩, -⟩ := h
  exact ⟨fun t => e9.1 t, e9.2, e8, e7⟩
/-- a trial: while not lost its places, and always its marks, lie within the widest limit -/
def TI (ν : Nat → Int32) : Prop := (ν 5 = 0 → IB 999 (ν 1) ∧ IB 999 (ν 2)) ∧ ν 3 = 0 ∧ ν 4 = 0 ∧ (¬ ν 7 = 0 → IB 999 (ν 8) ∧ IB 999 (ν 9) ∧ IB 999 (ν 10) ∧ IB 999 (ν 11))
theorem TI_pass {P : PP} (hP : BP P) {ν : Nat → Int32} (h1 : IB 999 (ν 1)) (h2 : IB 999 (ν 2)) (h3 : IB 20000000 (ν 3 * P.2.2.1)) (h4 : IB 20000000 (ν 4 * P.2.2.1)) (hm : ¬ ν 7 = 0 → IB 999 (ν 8) ∧ IB 999 (ν 9) ∧ IB 999 (ν 10) ∧ IB 999 (ν 11)) : TI (passF P ν) := by
  obtain ⟨p1, p2, ⟨b, hb, p3⟩, -⟩ := hP
  have e1 : IB (999 + (20000000 + 200)) (pE P ν) := IB_add h1 (IB_add h3 (p1 _) (by decide)) (by decide)
  have e2 : IB (999 + (20000000 + 9)) (pN P ν) := IB_add h2 (IB_add h4 p2 (by decide)) (by decide)
  have m1 : movF P ν 1 = pE P ν := by simp [movF, upd]
  have m2 : movF P ν 2 = pN P ν := by simp [movF, upd]
  have m3 : movF P ν 3 = 0 := by simp [movF, upd]
  have m4 : movF P ν 4 = 0 := by simp [movF, upd]
  have m8 : movF P ν 8 = ν 8 := by simp [movF, upd]
  have m9 : movF P ν 9 = ν 9 := by simp [movF, upd]
  have m10 : movF P ν 10 = ν 10 := by simp [movF, upd]
  have m11 : movF P ν 11 = ν 11 := by simp [movF, upd]
  have m5 : movF P ν 5 = if P.2.1 < sz32 (pE P ν) ∨ P.2.1 < sz32 (pN P ν) then 1 else 0 := by simp [movF, upd]
  have hpl : movF P ν 5 = 0 → IB 999 (pE P ν) ∧ IB 999 (pN P ν) := by
    intro q
    rw [m5] at q
    by_cases z : P.2.1 < sz32 (pE P ν) ∨ P.2.1 < sz32 (pN P ν)
    · rw [if_pos z] at q; exact absurd q (by decide)
    · rw [p3] at z
      exact ⟨IB_sz e1 (by decide) hb (fun y => z (Or.inl y)), IB_sz e2 (by decide) hb (fun y => z (Or.inr y))⟩
  unfold passF
  split
  · rename_i q
    obtain ⟨k1, k2⟩ := hpl q.1
    have g : ∀ k, k < 7 → gatF (movF P ν) k = movF P ν k := by
      intro k hk
      have : k = 0 ∨ k = 1 ∨ k = 2 ∨ k = 3 ∨ k = 4 ∨ k = 5 ∨ k = 6 := by omega
      rcases this with rfl | rfl | rfl | rfl | rfl | rfl | rfl <;> simp [gatF, upd]
    refine ⟨fun _ => ?_, ?_, ?_, fun _ => ?_⟩
    · rw [g 1 (by decide), g 2 (by decide), m1, m2]; exact ⟨k1, k2⟩
    · rw [g 3 (by decide), m3]
    · rw [g 4 (by decide), m4]
    · have g8 : gatF (movF P ν) 8 = if ν 7 = 0 ∨ pE P ν < ν 8 then pE P ν else ν 8 := by simp [gatF, upd, m1, m8, movF_7]
      have g9 : gatF (movF P ν) 9 = if ν 7 = 0 ∨ ν 9 < pE P ν then pE P ν else ν 9 := by simp [gatF, upd, m1, m9, movF_7]
      have g10 : gatF (movF P ν) 10 = if ν 7 = 0 ∨ pN P ν < ν 10 then pN P ν else ν 10 := by simp [gatF, upd, m2, m10, movF_7]
      have g11 : gatF (movF P ν) 11 = if ν 7 = 0 ∨ ν 11 < pN P ν then pN P ν else ν 11 := by simp [gatF, upd, m2, m11, movF_7]
      rw [g8, g9, g10, g11]
      by_cases z : ν 7 = 0
      · simp only [z, true_or, if_true]; exact ⟨k1, k1, k2, k2⟩
      · obtain ⟨y1, y2, y3, y4⟩ := hm z
        refine ⟨?_, ?_, ?_, ?_⟩ <;> split <;> assumption
  · refine ⟨fun q => ?_, m3, m4, fun q => ?_⟩
    · rw [m1, m2]; exact hpl q
    · rw [m8, m9, m10, m11]; exact hm (by rw [movF_7] at q; exact q)
theorem IB_pf {P : PP} (hP : BP P) {x h : Int32} {k : Nat} (hx : IB 999 x) (hk : k ≤ 20) : IB 20000000 (pfF P x h (nI k) * P.2.2.1) := by
  obtain ⟨-, -, -, ⟨b, hb1, hb2, e⟩⟩ := hP
  unfold pfF
  rw [e]
  have q : IB (999 * 20) (-(((x * nI k) / (10 : Int32)) / nI b)) := IB_neg (IB_div (IB_div (k := 10) (IB_mul hx hk (by decide)) (by decide) (by decide)) (by omega) (by decide)) (by decide)
  split
  · exact IB_mono (IB_mul q (by omega) (by decide)) (by decide)
  · rw [Int32.zero_mul]; exact IB_0 (by decide)
theorem TI_rul {P : PP} (hP : BP P) {h : Int32} {k : Nat} (hk : k ≤ 20) {ν : Nat → Int32} (h0 : ν 5 = 0) (q : TI ν) : TI (rulF P h (nI k) ν) := by
  obtain ⟨q1, q3, q4, q5⟩ := q
  obtain ⟨k1, k2⟩ := q1 h0
  unfold rulF
  refine TI_pass hP (by simpa [upd] using k1) (by simpa [upd] using k2) ?_ ?_ (by simpa [upd] using q5)
  · rw [upd_at, if_neg (by decide), upd_at, if_pos rfl]; exact IB_pf hP k1 hk
  · rw [upd_at, if_pos rfl]; exact IB_pf hP k2 hk
theorem TI_tl {P : PP} (hP : BP P) {h : Int32} {k : Nat} (hk : k ≤ 20) {nd : Nat → Bool} : ∀ (j i : Nat) (t : Int32) {ν : Nat → Int32}, TI ν → TI (tlF P h (nI k) nd j i t ν).2
  | 0, _, _, _, q => q
  | j + 1, i, t, ν, q => by
    unfold tlF
    split
    · rename_i z
      split
      · exact TI_tl hP hk j (i + 1) t (TI_pass hP (q.1 z).1 (q.1 z).2 (by rw [q.2.1, Int32.zero_mul]; exact IB_0 (by decide)) (by rw [q.2.2.1, Int32.zero_mul]; exact IB_0 (by decide)) q.2.2.2)
      · exact TI_tl hP hk j (i + 1) _ (TI_rul hP hk z q)
    · exact q
theorem TI_V {ν : Nat → Int32} (q : TI ν) : tlV ν < 10000 := by
  unfold tlV
  split
  · unfold tailF
    split
    · decide
    · rename_i z
      obtain ⟨y1, y2, y3, y4⟩ := q.2.2.2 z
      have s1 := IB_sub y2 y1 (by decide)
      have s2 := IB_sub y4 y3 (by decide)
      unfold IB at s1 s2
      split <;> (rw [Int32.lt_iff_toInt_lt, show (10000 : Int32).toInt = 10000 by decide]; omega)
  · decide
theorem TI_fr (t : Int32) : TI (frN t) := ⟨fun _ => ⟨IB_0 (by decide), IB_0 (by decide)⟩, rfl, rfl, fun q => absurd rfl q⟩
/-! the best rule: what is best after so many tries -/
def noN : Nat → Bool := fun _ => false
def brS (P : PP) (a N : Nat) (h f : Int32) (s : Option (Int32 × Int32 × Int32)) : Option (Int32 × Int32 × Int32) :=
  match s with
  | none => some ((100 : Int32) * h + f, tlV (tlF P h f noN N 0 0 (frN (nI a))).2, (tlF P h f noN N 0 0 (frN (nI a))).1)
  | some (r, l, w) => if tlV (tlF P h f noN N 0 0 (frN (nI a))).2 < l ∨ (tlV (tlF P h f noN N 0 0 (frN (nI a))).2 = l ∧ (tlF P h f noN N 0 0 (frN (nI a))).1 < w) then some ((100 : Int32) * h + f, tlV (tlF P h f noN N 0 0 (frN (nI a))).2, (tlF P h f noN N 0 0 (frN (nI a))).1) else some (r, l, w)
def brI (P : PP) (a N : Nat) (h : Int32) : Nat → Nat → Option (Int32 × Int32 × Int32) → Option (Int32 × Int32 × Int32)
  | 0, _, s => s
  | j + 1, k, s => brI P a N h j (k + 1) (brS P a N h (nI k) s)
def brO (P : PP) (a N : Nat) : Nat → Nat → Option (Int32 × Int32 × Int32) → Option (Int32 × Int32 × Int32)
  | 0, _, s => s
  | j + 1, k, s => brO P a N j (k + 1) (brI P a N (nI k) 10 1 s)
def CS (s : Option (Int32 × Int32 × Int32)) (c : St) (w : Int32) : Prop :=
  match s with
  | none => c 12 1 = 10000
  | some (r, l, p) => c 12 0 = r ∧ c 12 1 = l ∧ w = p
def MS (s : Option (Int32 × Int32 × Int32)) (r l w : Int32) : Prop :=
  match s with
  | none => r = -1
  | some (r', l', p) => r = r' ∧ l = l' ∧ w = p ∧ ¬ r < 0
def FrC (c c' : St) : Prop := ∀ j, j ≠ 12 → j ≠ 13 → c' j = c j
theorem FrC.trans {a b c : St} (h1 : FrC a b) (h2 : FrC b c) : FrC a c := fun j q1 q2 => (h2 j q1 q2).trans (h1 j q1 q2)
def FrM (m m' : St) : Prop := (∀ j, j ≠ 0 → j ≠ 4 → m' j = m j) ∧ (∀ k, k ≠ 34 → m' 0 k = m 0 k) ∧ m' 4 0 = m 4 0 ∧ ∀ k, k < 12 → m' 4 k = m 13 k
theorem C_bI {P : PP} {a N : Nat} {K11 : Int32 → Int32 → Int32 → St → Prop} {Post : St → Prop} {x h : Int32} (hP : BP P) (hN : N < 1100) (hx : x = nI N) (ha : a + N < 2 ^ 31) :
    ∀ (j fuel k : Nat) (s : Option (Int32 × Int32 × Int32)) (v2 : Int32) (c : St), j + k = 11 → j < fuel → CS s c v2 → ppC c = P → c 11 0 = nI a → wlOK (c 3 4) → prOK (c 3 7) →
      (∀ c' v2', FrC c c' → CS (brI P a N h j k s) c' v2' → K11 x v2' (h + 1) c') → w_X7_findBestRule_L20 K11 Post fuel x v2 h (nI k) c := by
  subst hx
  intro j
  induction j with
  | zero =>
    intro fuel k s v2 c h1 h2 h3 h4 h5 h6 h7 h8
    obtain ⟨fl, rfl⟩ : ∃ z, fuel = z + 1 := ⟨fuel - 1, by omega⟩
    obtain rfl : k = 11 := by omega
    refine ⟨fun _ => ?_, fun q => absurd (show (10 : Int32) < nI 11 by decide) q⟩
    rintro _ rfl
    exact h8 c v2 (fun _ _ _ => rfl) h3
  | succ j ih =>
    intro fuel k s v2 c h1 h2 h3 h4 h5 h6 h7 h8
    obtain ⟨fl, rfl⟩ : ∃ z, fuel = z + 1 := ⟨fuel - 1, by omega⟩
    refine ⟨fun q => absurd q (nI_nlt (b := k) (a := 10) (by omega) (by decide)), fun _ => ?_⟩
    refine C_tailBy (nd := noN) hN (fun i hi => ⟨fun q => absurd q (by simp [noN]), fun q => absurd (Int32.le_iff_toInt_le.mpr (by rw [nI_toInt (by omega), show (-1 : Int32).toInt = -1 by decide]; omega)) q.2⟩) h5 ha h6 h7 (fun g => ?_)
    rw [h4]
    have hT := TI_V (TI_tl hP (h := h) (k := k) (by omega) (nd := noN) N 0 0 (TI_fr (nI a)))
    unfold brI at h8
    have nx : ∀ (v : Int32) (c2 : St), FrC c c2 → CS (brS P a N h (nI k) s) c2 v → w_X7_findBestRule_J87 K11 (w_X7_findBestRule_L20 K11 Post fl) Post (nI N) v h (nI k) c2 := by
      rintro v c2 hf hs _ rfl
      rw [nI_1]
      refine ih fl (k + 1) _ v c2 (by omega) (by omega) hs ?_ (by rw [hf 11 (by decide) (by decide)]; exact h5) (by rw [hf 3 (by decide) (by decide)]; exact h6) (by rw [hf 3 (by decide) (by decide)]; exact h7) (fun c' v' q1 q2 => h8 c' v' (hf.trans q1) q2)
      rw [ppC_of (hf 3 (by decide) (by decide)) (hf 4 (by decide) (by decide))]; exact h4
    generalize eT : tlV (tlF P h (nI k) noN N 0 0 (frN (nI a))).2 = T at hT nx ⊢
    generalize ep : (tlF P h (nI k) noN N 0 0 (frN (nI a))).1 = p at nx ⊢
    have e1 : upc (up c 12 5 p) 13 g 12 1 = c 12 1 := by rw [upc_at, if_neg (by decide), up_at, if_neg (by decide)]
    have e0 : upc (up c 12 5 p) 13 g 12 0 = c 12 0 := by rw [upc_at, if_neg (by decide), up_at, if_neg (by decide)]
    have e5 : upc (up c 12 5 p) 13 g 12 5 = p := by rw [upc_at, if_neg (by decide), up_at, if_pos ⟨rfl, rfl⟩]
    have f0 : FrC c (upc (up c 12 5 p) 13 g) := fun j q1 q2 => by rw [upc_at, if_neg q2, up_ne q1]
    have take : (brS P a N h (nI k) s = some ((100 : Int32) * h + nI k, T, p)) → w_X7_findBestRule_J65 K11 (w_X7_findBestRule_L20 K11 Post fl) Post (nI N) h (nI k) T (upc (up c 12 5 p) 13 g) := by
      intro hs
      rintro _ rfl _ rfl _ rfl
      refine nx _ _ (f0.trans (fun j q1 q2 => by rw [up_ne q1, up_ne q1])) ?_
      rw [hs]
      refine ⟨by rw [up_at, if_pos ⟨rfl, rfl⟩], by rw [up_at, if_neg (by decide), up_at, if_pos ⟨rfl, rfl⟩], ?_⟩
      rfl
    have skip : (brS P a N h (nI k) s = s) → w_X7_findBestRule_J87 K11 (w_X7_findBestRule_L20 K11 Post fl) Post (nI N) v2 h (nI k) (upc (up c 12 5 p) 13 g) := by
      intro hs
      refine nx _ _ f0 ?_
      rw [hs]
      cases s with
      | none => exact e1.trans h3
      | some z => exact ⟨e0.trans h3.1, e1.trans h3.2.1, h3.2.2⟩
    rw [e1, e5]
    cases s with
    | none =>
      rw [show c 12 1 = 10000 from h3]
      refine ⟨fun _ => take ?_, fun q => absurd hT q⟩
      unfold brS; simp only; rw [eT, ep]
    | some z =>
      obtain ⟨r, l, w⟩ := z
      obtain ⟨z1, z2, z3⟩ := h3
      rw [z2]
      subst z3
      unfold brS at take skip
      simp only [eT, ep] at take skip
      refine ⟨fun q => take (if_pos (Or.inl q)), fun q => ⟨fun y => skip (if_neg (fun z => z.elim q (fun x => y x.1))), fun y => ⟨fun x => skip (if_neg (fun z => z.elim q (fun u => absurd u.2 (Int32.not_lt.mpr x)))), fun x => take (if_pos (Or.inr ⟨y, Int32.not_le.mp x⟩))⟩⟩⟩
theorem C_bO {P : PP} {a N : Nat} {Post : St → Prop} {x : Int32} (hP : BP P) (hN : N < 1100) (hx : x = nI N) (ha : a + N < 2 ^ 31) :
    ∀ (j fuel k : Nat) (s : Option (Int32 × Int32 × Int32)) (v2 : Int32) (c : St), j + k = 10 → j < fuel → CS s c v2 → ppC c = P → c 11 0 = nI a → wlOK (c 3 4) → prOK (c 3 7) →
      (∀ c' v2', FrC c c' → CS (brO P a N j k s) c' v2' → Post c') → w_X7_findBestRule_L11 Post fuel x v2 (nI k) c := by
  intro j
  induction j with
  | zero =>
    intro fuel k s v2 c h1 h2 h3 h4 h5 h6 h7 h8
    obtain ⟨fl, rfl⟩ : ∃ z, fuel = z + 1 := ⟨fuel - 1, by omega⟩
    obtain rfl : k = 10 := by omega
    exact ⟨fun _ => h8 c v2 (fun _ _ _ => rfl) h3, fun q => absurd (show (9 : Int32) < nI 10 by decide) q⟩
  | succ j ih =>
    intro fuel k s v2 c h1 h2 h3 h4 h5 h6 h7 h8
    obtain ⟨fl, rfl⟩ : ∃ z, fuel = z + 1 := ⟨fuel - 1, by omega⟩
    refine ⟨fun q => absurd q (nI_nlt (b := k) (a := 9) (by omega) (by decide)), fun _ => ?_⟩
    unfold brO at h8
    refine C_bI hP hN hx ha 10 FU 1 s v2 c rfl (by decide) h3 h4 h5 h6 h7 (fun c2 v hf hs => ?_)
    rw [nI_1]
    refine ih fl (k + 1) _ v c2 (by omega) (by omega) hs ?_ (by rw [hf 11 (by decide) (by decide)]; exact h5) (by rw [hf 3 (by decide) (by decide)]; exact h6) (by rw [hf 3 (by decide) (by decide)]; exact h7) (fun c' v' q1 q2 => h8 c' v' (hf.trans q1) q2)
    rw [ppC_of (hf 3 (by decide) (by decide)) (hf 4 (by decide) (by decide))]; exact h4
theorem M_bI {P : PP} {a N : Nat} {K50 : Int32 → Int32 → Int32 → Int32 → Int32 → Int32 → St → Prop} {Post : Int32 → St → Prop} {x y : Int32} {hh : Nat} (hhh : hh ≤ 9) (hN : N < 1100) (hx : x = nI N) (ha : a + N < 2 ^ 31) :
    ∀ (j fuel k : Nat) (s : Option (Int32 × Int32 × Int32)) (r l w : Int32) (m : St), j + k = 11 → j < fuel → MS s r l w → ppM m = P → (∀ k, k < 12 → m 4 k = m 13 k) → m 13 0 = nI a → wlOK (m 0 4) → prOK (m 0 8) →
      (∀ m' r' l' w', ppM m' = P → (∀ j, j ≠ 0 → j ≠ 4 → m' j = m j) → (∀ k, k ≠ 34 → m' 0 k = m 0 k) → (∀ k, k < 12 → m' 4 k = m' 13 k) → MS (brI P a N (nI hh) j k s) r' l' w' → K50 x y r' l' w' (nI (hh + 1)) m') → w_X9_bestRule_L60 K50 Post fuel x y r l w (nI hh) (nI k) m := by
  subst hx
  intro j
  induction j with
  | zero =>
    intro fuel k s r l w m h1 h2 h3 h4 h5 h5b h6 h7 h8
    obtain ⟨fl, rfl⟩ : ∃ z, fuel = z + 1 := ⟨fuel - 1, by omega⟩
    obtain rfl : k = 11 := by omega
    refine ⟨fun _ => ?_, fun q => absurd (show (11 : Int32) ≤ nI 11 by decide) q⟩
    rintro _ rfl
    rw [nI_1]
    exact h8 m r l w h4 (fun _ _ _ => rfl) (fun _ _ => rfl) h5 h3
  | succ j ih =>
    intro fuel k s r l w m h1 h2 h3 h4 h5 h5b h6 h7 h8
    obtain ⟨fl, rfl⟩ : ∃ z, fuel = z + 1 := ⟨fuel - 1, by omega⟩
    refine ⟨fun q => absurd q (nI_ge (a := k) (b := 11) (by omega) (by decide)), fun _ => ?_⟩
    refine M_tailBy (nd := noN) hN (fun i hi => ⟨fun q => absurd q (by simp [noN]), fun q => absurd (Int32.le_trans q.1 q.2) (by decide)⟩) ((h5 0 (by decide)).trans h5b) ha h6 h7 (fun g hg => ?_)
    rw [h4]
    unfold brI at h8
    have hr : ¬ (100 : Int32) * nI hh + nI k < 0 := by
      rw [show (100 : Int32) = nI 100 from rfl, pk_mul, nI_add]; exact nI_pos (by omega)
    generalize eT : tlV (tlF P (nI hh) (nI k) noN N 0 0 (frN (nI a))).2 = T
    generalize ep : (tlF P (nI hh) (nI k) noN N 0 0 (frN (nI a))).1 = p
    have nx : ∀ (r2 l2 w2 : Int32), MS (brS P a N (nI hh) (nI k) s) r2 l2 w2 → w_X9_bestRule_J160 K50 (w_X9_bestRule_L60 K50 Post fl) Post (nI N) y r2 l2 (nI hh) (nI k) w2 (upc (up m 0 34 p) 4 g) := by
      rintro r2 l2 w2 hs _ rfl
      rw [nI_1]
      have eP : ppM (upc (up m 0 34 p) 4 g) = P := by
        rw [ppM_upc4, ppM_of (m := m) (by rw [up_ne (by decide)]) (fun k hk => by rw [up_at, if_neg (by omega)])]; exact h4
      have e4 : ∀ k, k < 12 → upc (up m 0 34 p) 4 g 4 k = upc (up m 0 34 p) 4 g 13 k := fun k hk => by rw [upc_same, hg k hk, upc_at, if_neg (by decide), up_ne (by decide)]
      have e0 : ∀ k, k ≠ 34 → upc (up m 0 34 p) 4 g 0 k = m 0 k := fun k hk => by rw [upc_at, if_neg (by decide), up_at, if_neg (fun q => hk q.2)]
      have ej : ∀ j, j ≠ 0 → j ≠ 4 → upc (up m 0 34 p) 4 g j = m j := fun j q1 q2 => by rw [upc_at, if_neg q2, up_ne q1]
      refine ih fl (k + 1) _ r2 l2 w2 _ (by omega) (by omega) hs eP e4 (by rw [ej 13 (by decide) (by decide)]; exact h5b) (by rw [e0 4 (by decide)]; exact h6) (by rw [e0 8 (by decide)]; exact h7) (fun m' r' l' w' q1 q2 q3 q4 q5 => h8 m' r' l' w' q1 (fun j y1 y2 => (q2 j y1 y2).trans (ej j y1 y2)) (fun k y => (q3 k y).trans (e0 k y)) q4 q5)
    have e34 : upc (up m 0 34 p) 4 g 0 34 = p := by rw [upc_at, if_neg (by decide), up_at, if_pos ⟨rfl, rfl⟩]
    have take : (brS P a N (nI hh) (nI k) s = some ((100 : Int32) * nI hh + nI k, T, p)) → w_X9_bestRule_J107 K50 (w_X9_bestRule_L60 K50 Post fl) Post (nI N) y r l w (nI hh) (nI k) T (upc (up m 0 34 p) 4 g) := by
      intro hs
      refine ⟨fun q => absurd q (by decide), fun _ => ⟨fun q => absurd q (by decide), fun _ => ⟨fun q => absurd q (by decide), fun _ => ?_⟩⟩⟩
      rw [e34]
      exact nx _ _ _ (by rw [hs]; exact ⟨rfl, rfl, rfl, hr⟩)
    have skip : (brS P a N (nI hh) (nI k) s = s) → w_X9_bestRule_J111 K50 (w_X9_bestRule_L60 K50 Post fl) Post (nI N) y r l w (nI hh) (nI k) T (upc (up m 0 34 p) 4 g) := by
      intro hs
      refine ⟨fun _ => ⟨fun _ => ⟨fun _ => ?_, fun q => absurd rfl q⟩, fun q => absurd rfl q⟩, fun q => absurd rfl q⟩
      exact nx _ _ _ (by rw [hs]; exact h3)
    rw [e34]
    cases s with
    | none =>
      rw [show r = -1 from h3]
      rw [show r = -1 from h3] at take
      refine ⟨fun _ => take ?_, fun q => absurd (by decide) q⟩
      unfold brS; simp only; rw [eT, ep]
    | some z =>
      obtain ⟨r', l', w'⟩ := z
      obtain ⟨z1, z2, z3, z4⟩ := h3
      subst z1 z2 z3
      unfold brS at take skip
      simp only [eT, ep] at take skip
      refine ⟨fun q => absurd q z4, fun _ => ⟨fun q => take (if_pos (Or.inl q)), fun q => ⟨fun y => skip (if_neg (fun z => z.elim q (fun x => y x.1))), fun y => ⟨fun x => skip (if_neg (fun z => z.elim q (fun u => absurd u.2 (Int32.not_lt.mpr x)))), fun x => take (if_pos (Or.inr ⟨y, Int32.not_le.mp x⟩))⟩⟩⟩⟩
theorem M_bO {P : PP} {a N : Nat} {Post : Int32 → St → Prop} {x y : Int32} (hN : N < 1100) (hx : x = nI N) (ha : a + N < 2 ^ 31) :
    ∀ (j fuel k : Nat) (s : Option (Int32 × Int32 × Int32)) (r l w : Int32) (m : St), j + k = 10 → j < fuel → MS s r l w → ppM m = P → (∀ k, k < 12 → m 4 k = m 13 k) → m 13 0 = nI a → wlOK (m 0 4) → prOK (m 0 8) →
      (∀ m' r' l' w', (∀ j, j ≠ 0 → j ≠ 4 → m' j = m j) → (∀ k, k ≠ 34 → m' 0 k = m 0 k) → (∀ k, k < 12 → m' 4 k = m' 13 k) → MS (brO P a N j k s) r' l' w' → (¬ y = 0 → Post l' m') ∧ (y = 0 → Post r' m')) → w_X9_bestRule_L50 Post fuel x y r l w (nI k) m := by
  intro j
  induction j with
  | zero =>
    intro fuel k s r l w m h1 h2 h3 h4 h5 h5b h6 h7 h8
    obtain ⟨fl, rfl⟩ : ∃ z, fuel = z + 1 := ⟨fuel - 1, by omega⟩
    obtain rfl : k = 10 := by omega
    exact ⟨fun _ => h8 m r l w (fun _ _ _ => rfl) (fun _ _ => rfl) h5 h3, fun q => absurd (show (10 : Int32) ≤ nI 10 by decide) q⟩
  | succ j ih =>
    intro fuel k s r l w m h1 h2 h3 h4 h5 h5b h6 h7 h8
    obtain ⟨fl, rfl⟩ : ∃ z, fuel = z + 1 := ⟨fuel - 1, by omega⟩
    refine ⟨fun q => absurd q (nI_ge (a := k) (b := 10) (by omega) (by decide)), fun _ => ?_⟩
    unfold brO at h8
    refine M_bI (by omega) hN hx ha 10 FU 1 s r l w m rfl (by decide) h3 h4 h5 h5b h6 h7 (fun m2 r2 l2 w2 q1 q2 q3 q4 q5 => ?_)
    exact ih fl (k + 1) _ r2 l2 w2 m2 (by omega) (by omega) q5 q1 q4 (by rw [q2 13 (by decide) (by decide)]; exact h5b) (by rw [q3 4 (by decide)]; exact h6) (by rw [q3 8 (by decide)]; exact h7) (fun m' r' l' w' y1 y2 y4 y3 => h8 m' r' l' w' (fun j z1 z2 => (y1 j z1 z2).trans (q2 j z1 z2)) (fun k z => (y2 k z).trans (q3 k z)) y4 y3)
theorem brS_some (P : PP) (a N : Nat) (h f : Int32) (s : Option (Int32 × Int32 × Int32)) : ∃ z, brS P a N h f s = some z := by
  unfold brS
  split
  · exact ⟨_, rfl⟩
  · split <;> exact ⟨_, rfl⟩
theorem brI_some (P : PP) (a N : Nat) (h : Int32) : ∀ (j k : Nat) (s : Option (Int32 × Int32 × Int32)), (∃ z, s = some z) → ∃ z, brI P a N h j k s = some z
  | 0, _, _, q => q
  | j + 1, k, s, _ => by unfold brI; exact brI_some P a N h j (k + 1) _ (brS_some ..)
theorem brO_some (P : PP) (a N : Nat) : ∀ (j k : Nat) (s : Option (Int32 × Int32 × Int32)), (∃ z, s = some z) → ∃ z, brO P a N j k s = some z
  | 0, _, _, q => q
  | j + 1, k, s, q => by unfold brO; exact brO_some P a N j (k + 1) _ (brI_some P a N _ 10 1 s q)
theorem br_some (P : PP) (a N : Nat) : ∃ z, brO P a N 10 0 none = some z := by
  unfold brO
  refine brO_some P a N 9 1 _ ?_
  unfold brI
  exact brI_some P a N _ 9 2 _ (brS_some ..)
theorem P_bestRule {p q : Int32} {c m : St} (h : R c m) : w_X8_bestRule p q c (fun r c' => w_X9_bestRule p q m (fun r' m' => r = r' ∧ R c' m')) := by
  unfold w_X8_bestRule w_X9_bestRule
  simp only [isW, in_1_200, in_0_1, h.mt]
  by_cases h1 : (1 : Int32) ≤ p ∧ p ≤ 200
  · by_cases h2 : (0 : Int32) ≤ q ∧ q ≤ 1
    · by_cases h3 : m 0 0 = 0
      · simp only [if_pos h1, if_pos h2, h3, b0, b0', b1, b1', true_implies, not_true_eq_false, false_implies, not_false_eq_true, and_true, true_and]; exact h
      · simp only [if_pos h1, if_pos h2, h3, b0, b0', b1, b1', true_implies, not_true_eq_false, false_implies, not_false_eq_true, and_true, true_and]
        obtain ⟨w, hw, rfl⟩ := nI_of2 (M := 200) (n := 200) rfl (Int32.not_lt.mpr (Int32.le_trans (by decide : (0 : Int32) ≤ 1) h1.1)) h1.2
        obtain ⟨a, l, q1, q2, -⟩ := id h.2.1.2
        rintro _ rfl
        have f1 : FrC c (up c 12 1 10000) := fun j y1 _ => up_ne y1
        refine C_bO (P := ppM m) (a := a) h.bp (by omega) rfl (by omega) 10 FU 0 none 0 _ rfl (by decide) (show up c 12 1 10000 12 1 = 10000 by rw [up_at, if_pos ⟨rfl, rfl⟩]) (by rw [ppC_of (f1 3 (by decide) (by decide)) (f1 4 (by decide) (by decide))]; exact h.pp) (by rw [f1 11 (by decide) (by decide), h.mins]; exact q1) (by rw [f1 3 (by decide) (by decide)]; exact h.wlC) (by rw [f1 3 (by decide) (by decide)]; exact h.prC) (fun c2 v2 hf hs => ?_)
        obtain ⟨⟨r0, l0, w0⟩, hz⟩ := br_some (ppM m) a w
        have hM : ∀ (rr : Int32), (∀ (r l' w' : Int32), MS (some (r0, l0, w0)) r l' w' → (¬ q = 0 → rr = l') ∧ (q = 0 → rr = r)) → w_X9_save m (fun σ8 => w_X9_bestRule_L50 (fun r' m' => rr = r' ∧ R c2 m') FU (nI w) q (-1 : Int32) (0 : Int32) (0 : Int32) (0 : Int32) σ8) := by
          intro rr hrr
          refine M_save (fun g hg => ?_)
          refine M_bO (P := ppM m) (a := a) (by omega) rfl (by omega) 10 FU 0 none (-1) 0 0 _ rfl (by decide) rfl (ppM_of (by simp [upc_at]) (fun k _ => by simp [upc_at])) (fun k hk => by rw [upc_at, if_neg (by decide), upc_same, hg k hk]) (by rw [upc_same, hg 0 (by decide)]; exact q1) (by rw [upc_at, if_neg (by decide)]; exact h.wlM) (by rw [upc_at, if_neg (by decide)]; exact h.prM) (fun m' r' l' w' y1 y2 y4 y3 => ?_)
          rw [hz] at y3
          have hE := hrr r' l' w' y3
          have hR : R c2 m' := R.scratch h (fun j j1 j2 => (hf j j1 j2).trans (f1 j j1 j2)) (fun j j1 j2 j3 => by rw [y1 j j1 j2, upc_at, if_neg j3]) (fun k hk => by rw [y4 k hk, y1 13 (by decide) (by decide), upc_same, hg k hk]) (fun k hk => by rw [y2 k hk, upc_at, if_neg (by decide)])
          exact ⟨fun z => ⟨hE.1 z, hR⟩, fun z => ⟨hE.2 z, hR⟩⟩
        rw [hz] at hs
        obtain ⟨s1, s2, s3⟩ := hs
        refine ⟨fun z => hM _ (fun r l' w' y => ⟨fun _ => s2.trans y.2.1.symm, fun x => absurd x z⟩), fun z => hM _ (fun r l' w' y => ⟨fun x => absurd z x, fun _ => s1.trans y.1.symm⟩)⟩
    · simp only [if_pos h1, if_neg h2, b0, b0', b1, b1', true_implies, not_true_eq_false, false_implies, not_false_eq_true, and_true, true_and]; exact h
  · simp only [if_neg h1, b0, b0', b1, b1', true_implies, not_true_eq_false, false_implies, not_false_eq_true, and_true, true_and]; exact h
