/-! ===== pure: who nodded ===== -/
theorem FrC.ppC {c c' : St} (h : FrC c c') : ppC c' = ppC c := ppC_of (h 3 (by decide) (by decide)) (h 4 (by decide) (by decide))
theorem nI_inj {a b : Nat} (ha : a < 2 ^ 31) (hb : b < 2 ^ 31) (h : nI a = nI b) : a = b := by
  have := congrArg Int32.toInt h
  rw [nI_toInt ha, nI_toInt hb] at this
  omega
def nw (k w : Nat) : Nat → Bool := fun i => decide (k ≤ i ∧ i < k + w)
def noF (P : PP) (h f : Int32) (a N w : Nat) (t v : Int32) : Nat → Nat → Int32 → Int32 → Int32 × Int32
  | 0, _, n, r => (n, r)
  | j + 1, k, n, r => if tlV (tlF P h f (nw k w) N 0 0 (frN (nI a))).2 = t then noF P h f a N w t v j (k + 1) (n + 1) (if n = v then nI k else r) else noF P h f a N w t v j (k + 1) n r
theorem noF_keep {P : PP} {h f : Int32} {a N w : Nat} {t : Int32} {q : Nat} (hq : q < 2 ^ 30) : ∀ (j k n : Nat) (r : Int32), q < n → n + j < 2 ^ 30 → (noF P h f a N w t (nI q) j k (nI n) r).2 = r
  | 0, _, _, _, _, _ => rfl
  | j + 1, k, n, r, h1, h2 => by
    unfold noF
    split
    · rw [if_neg (fun y => absurd (nI_inj (by omega) (by omega) y) (by omega)), nI_1]
      exact noF_keep hq j (k + 1) (n + 1) r (by omega) (by omega)
    · exact noF_keep hq j (k + 1) n r h1 (by omega)
theorem nd_c (k w i : Nat) (h : k + w + i < 2 ^ 30) : nw k w i = true ↔ ¬ nI i < nI k ∧ ¬ (nI k + nI w) ≤ nI i := by
  unfold nw
  rw [decide_eq_true_iff, nI_add, Int32.lt_iff_toInt_lt, Int32.le_iff_toInt_le, nI_toInt (by omega), nI_toInt (by omega), nI_toInt (by omega)]
  omega
theorem nd_m (k w i : Nat) (h : k + w + i < 2 ^ 30) (hw : 1 ≤ w) : nw k w i = true ↔ nI k ≤ nI i ∧ nI i ≤ (nI k + nI w) - (1 : Int32) := by
  unfold nw
  rw [decide_eq_true_iff, nI_add, show (1 : Int32) = nI 1 from rfl, pk_sub (by omega), Int32.le_iff_toInt_le, Int32.le_iff_toInt_le, nI_toInt (by omega), nI_toInt (by omega), nI_toInt (by omega)]
  omega
theorem nd_x (N w k : Nat) (h : N + w + k < 2 ^ 30) : nI N - nI w < nI k ↔ N < w + k := by
  rw [Int32.lt_iff_toInt_lt, pk_sub_toInt (by omega) (by omega), nI_toInt (by omega)]
  omega
theorem C_no {P : PP} {a N w : Nat} {h f t v : Int32} {Post : Int32 → St → Prop} (hN : N < 1000) (hw1 : 1 ≤ w) (hw2 : w < 1000) (ha : a + N < 2 ^ 31) :
    ∀ (j fuel k n : Nat) (c : St), j = N + 1 - w - k → k < 2000 → j < fuel → n ≤ k → ppC c = P → c 11 0 = nI a → wlOK (c 3 4) → prOK (c 3 7) →
      (∀ c', FrC c c' → Post (if v = -1 then (noF P h f a N w t v j k (nI n) (-1)).1 else (noF P h f a N w t v j k (nI n) (-1)).2) c') → w_X8_nodded_L63 Post fuel h f (nI N) (nI w) t v (nI n) (nI k) c := by
  intro j
  induction j with
  | zero =>
    intro fuel k n c h1 hk h2 hn h4 h5 h6 h7 h8
    obtain ⟨fl, rfl⟩ : ∃ z, fuel = z + 1 := ⟨fuel - 1, by omega⟩
    have hx : nI N - nI w < nI k := (nd_x N w k (by omega)).mpr (by omega)
    have := h8 c (fun _ _ _ => rfl)
    refine ⟨fun _ => ⟨fun q => ?_, fun q => ?_⟩, fun q => absurd hx q⟩
    · rw [if_neg q] at this; exact this
    · rw [if_pos q] at this; exact this
  | succ j ih =>
    intro fuel k n c h1 hk h2 hn h4 h5 h6 h7 h8
    obtain ⟨fl, rfl⟩ : ∃ z, fuel = z + 1 := ⟨fuel - 1, by omega⟩
    refine ⟨fun q => absurd ((nd_x N w k (by omega)).mp q) (by omega), fun _ => ?_⟩
    refine C_tailBy (nd := nw k w) (by omega) (fun i hi => nd_c k w i (by omega)) h5 ha h6 h7 (fun g => ?_)
    rw [h4]
    have f0 : ∀ p, FrC c (upc (up c 12 5 p) 13 g) := fun p j q1 q2 => by rw [upc_at, if_neg q2, up_ne q1]
    unfold noF at h8
    have nx : ∀ (n' : Nat) (c2 : St), FrC c c2 → n' ≤ k + 1 → (∀ c', FrC c c' → Post (if v = -1 then (noF P h f a N w t v j (k + 1) (nI n') (-1)).1 else (noF P h f a N w t v j (k + 1) (nI n') (-1)).2) c') → w_X8_nodded_J107 (w_X8_nodded_L63 Post fl) Post h f (nI N) (nI w) t v (nI n') (nI k) c2 := by
      rintro n' c2 hf hn' hp _ rfl
      rw [nI_1]
      exact ih fl (k + 1) n' c2 (by omega) (by omega) (by omega) hn' (by rw [hf.ppC]; exact h4) (by rw [hf 11 (by decide) (by decide)]; exact h5) (by rw [hf 3 (by decide) (by decide)]; exact h6) (by rw [hf 3 (by decide) (by decide)]; exact h7) (fun c' q => hp c' (hf.trans q))
    by_cases z : tlV (tlF P h f (nw k w) N 0 0 (frN (nI a))).2 = t
    · simp only [if_pos z] at h8
      refine ⟨fun q => absurd z q, fun _ => ⟨fun q => ?_, fun q => ?_⟩⟩
      · rintro _ rfl
        rw [if_neg q, nI_1] at h8
        rw [nI_1]
        exact nx (n + 1) _ (f0 _) (by omega) h8
      · have hv : ¬ v = -1 := fun y => absurd (congrArg Int32.toInt (q.trans y)) (by rw [nI_toInt (by omega), show (-1 : Int32).toInt = -1 by decide]; omega)
        have := h8 _ (f0 (tlF P h f (nw k w) N 0 0 (frN (nI a))).1)
        rw [if_neg hv, if_pos q, ← q, nI_1, noF_keep (by omega) j (k + 1) (n + 1) _ (by omega) (by omega)] at this
        exact this
    · simp only [if_neg z] at h8
      exact ⟨fun _ => nx n _ (f0 _) (by omega) h8, fun q => absurd q z⟩
theorem M_no {P : PP} {a N w : Nat} {h f t v : Int32} {Post : Int32 → St → Prop} (hN : N < 1000) (hw1 : 1 ≤ w) (hw2 : w < 1000) (ha : a + N < 2 ^ 31) :
    ∀ (j fuel k : Nat) (n r : Int32) (m : St), j = N + 1 - w - k → k < 2000 → j < fuel → ppM m = P → (∀ k, k < 12 → m 4 k = m 13 k) → m 13 0 = nI a → wlOK (m 0 4) → prOK (m 0 8) →
      (∀ m', (∀ j, j ≠ 0 → j ≠ 4 → m' j = m j) → (∀ k, k ≠ 34 → m' 0 k = m 0 k) → (∀ k, k < 12 → m' 4 k = m' 13 k) → Post (if v = -1 then (noF P h f a N w t v j k n r).1 else (noF P h f a N w t v j k n r).2) m') → w_X9_nodded_L88 Post fuel h f (nI N) (nI w) t v n r (nI k) m := by
  intro j
  induction j with
  | zero =>
    intro fuel k n r m h1 hk h2 h4 h5 h5b h6 h7 h8
    obtain ⟨fl, rfl⟩ : ∃ z, fuel = z + 1 := ⟨fuel - 1, by omega⟩
    have hx : nI N - nI w < nI k := (nd_x N w k (by omega)).mpr (by omega)
    have := h8 m (fun _ _ _ => rfl) (fun _ _ => rfl) h5
    refine ⟨fun _ => ⟨fun q => ?_, fun q => ?_⟩, fun q => absurd hx q⟩
    · rw [if_neg q] at this; exact this
    · rw [if_pos q] at this; exact this
  | succ j ih =>
    intro fuel k n r m h1 hk h2 h4 h5 h5b h6 h7 h8
    obtain ⟨fl, rfl⟩ : ∃ z, fuel = z + 1 := ⟨fuel - 1, by omega⟩
    refine ⟨fun q => absurd ((nd_x N w k (by omega)).mp q) (by omega), fun _ => ?_⟩
    refine M_tailBy (nd := nw k w) (by omega) (fun i hi => nd_m k w i (by omega) hw1) ((h5 0 (by decide)).trans h5b) ha h6 h7 (fun g hg => ?_)
    rw [h4]
    unfold noF at h8
    generalize (tlF P h f (nw k w) N 0 0 (frN (nI a))).1 = p
    have nx : ∀ (n' r' : Int32), (∀ m', (∀ j, j ≠ 0 → j ≠ 4 → m' j = m j) → (∀ k, k ≠ 34 → m' 0 k = m 0 k) → (∀ k, k < 12 → m' 4 k = m' 13 k) → Post (if v = -1 then (noF P h f a N w t v j (k + 1) n' r').1 else (noF P h f a N w t v j (k + 1) n' r').2) m') → w_X9_nodded_J132 (w_X9_nodded_L88 Post fl) Post h f (nI N) (nI w) t v n' r' (nI k) (upc (up m 0 34 p) 4 g) := by
      rintro n' r' hp _ rfl
      rw [nI_1]
      have eP : ppM (upc (up m 0 34 p) 4 g) = P := by
        rw [ppM_upc4, ppM_of (m := m) (by rw [up_ne (by decide)]) (fun k hk => by rw [up_at, if_neg (by omega)])]; exact h4
      have e4 : ∀ k, k < 12 → upc (up m 0 34 p) 4 g 4 k = upc (up m 0 34 p) 4 g 13 k := fun k hk => by rw [upc_same, hg k hk, upc_at, if_neg (by decide), up_ne (by decide)]
      have e0 : ∀ k, k ≠ 34 → upc (up m 0 34 p) 4 g 0 k = m 0 k := fun k hk => by rw [upc_at, if_neg (by decide), up_at, if_neg (fun q => hk q.2)]
      have ej : ∀ j, j ≠ 0 → j ≠ 4 → upc (up m 0 34 p) 4 g j = m j := fun j q1 q2 => by rw [upc_at, if_neg q2, up_ne q1]
      exact ih fl (k + 1) n' r' _ (by omega) (by omega) (by omega) eP e4 (by rw [ej 13 (by decide) (by decide)]; exact h5b) (by rw [e0 4 (by decide)]; exact h6) (by rw [e0 8 (by decide)]; exact h7) (fun m' q2 q3 q4 => hp m' (fun j y1 y2 => (q2 j y1 y2).trans (ej j y1 y2)) (fun k y => (q3 k y).trans (e0 k y)) q4)
    by_cases z : tlV (tlF P h f (nw k w) N 0 0 (frN (nI a))).2 = t
    · simp only [if_pos z] at h8
      refine ⟨fun q => absurd z q, fun _ => ⟨fun q => ?_, fun q => ?_⟩⟩
      · rintro _ rfl
        rw [if_neg q] at h8
        exact nx _ _ h8
      · rintro _ rfl
        rw [if_pos q] at h8
        exact nx _ _ h8
    · simp only [if_neg z] at h8
      exact ⟨fun _ => nx _ _ h8, fun q => absurd q z⟩
theorem P_nodded {p1 p2 p3 p4 p5 p6 : Int32} {c m : St} (h : R c m) : w_X8_nodded p1 p2 p3 p4 p5 p6 c (fun r c' => w_X9_nodded p1 p2 p3 p4 p5 p6 m (fun r' m' => r = r' ∧ R c' m')) := by
  unfold w_X8_nodded w_X9_nodded
  simp only [isW, isRule_iff, in_0_99, in_0_20, in_1_60, in_1_20, in_0_9999, h.mt]
  by_cases h1 : (0 : Int32) ≤ p1 ∧ p1 ≤ 99
  · by_cases h2 : (0 : Int32) ≤ p2 ∧ p2 ≤ 20
    · by_cases h3 : (1 : Int32) ≤ p3 ∧ p3 ≤ 60
      · by_cases h4 : (1 : Int32) ≤ p4 ∧ p4 ≤ 20
        · by_cases h5 : (0 : Int32) ≤ p5 ∧ p5 ≤ 9999
          · by_cases h6 : m 0 0 = 0
            · simp only [if_pos h1, if_pos h2, if_pos h3, if_pos h4, if_pos h5, if_pos (And.intro h1 h2), h6, b0, b0', b1, b1', true_implies, not_true_eq_false, false_implies, not_false_eq_true, and_true, true_and]; exact h
            · simp only [if_pos h1, if_pos h2, if_pos h3, if_pos h4, if_pos h5, if_pos (And.intro h1 h2), h6, b0, b0', b1, b1', true_implies, not_true_eq_false, false_implies, not_false_eq_true, and_true, true_and]
              obtain ⟨N, hN, rfl⟩ := nI_of2 (M := 60) (n := 60) rfl (Int32.not_lt.mpr (Int32.le_trans (by decide : (0 : Int32) ≤ 1) h3.1)) h3.2
              obtain ⟨w, hw, rfl⟩ := nI_of2 (M := 20) (n := 20) rfl (Int32.not_lt.mpr (Int32.le_trans (by decide : (0 : Int32) ≤ 1) h4.1)) h4.2
              have hw1 : 1 ≤ w := by
                have := h4.1
                rw [Int32.le_iff_toInt_le, nI_toInt (by omega), show (1 : Int32).toInt = 1 by decide] at this
                omega
              obtain ⟨a, l, q1, q2, -⟩ := id h.2.1.2
              refine C_no (P := ppM m) (a := a) (by omega) hw1 (by omega) (by omega) (N + 1 - w) FU 0 0 c (by omega) (by decide) (by show _ < 1100; omega) (by omega) h.pp (by rw [h.mins]; exact q1) h.wlC h.prC (fun c2 hf => ?_)
              refine M_save (fun g hg => ?_)
              refine M_no (P := ppM m) (a := a) (by omega) hw1 (by omega) (by omega) (N + 1 - w) FU 0 0 (-1) _ (by omega) (by decide) (by show _ < 1100; omega) (ppM_of (by simp [upc_at]) (fun k _ => by simp [upc_at])) (fun k hk => by rw [upc_at, if_neg (by decide), upc_same, hg k hk]) (by rw [upc_same, hg 0 (by decide)]; exact q1) (by rw [upc_at, if_neg (by decide)]; exact h.wlM) (by rw [upc_at, if_neg (by decide)]; exact h.prM) (fun m' y1 y2 y4 => ⟨rfl, ?_⟩)
              exact R.scratch h hf (fun j j1 j2 j3 => by rw [y1 j j1 j2, upc_at, if_neg j3]) (fun k hk => by rw [y4 k hk, y1 13 (by decide) (by decide), upc_same, hg k hk]) (fun k hk => by rw [y2 k hk, upc_at, if_neg (by decide)])
          · simp only [if_pos h1, if_pos h2, if_pos h3, if_pos h4, if_neg h5, if_pos (And.intro h1 h2), b0, b0', b1, b1', true_implies, not_true_eq_false, false_implies, not_false_eq_true, and_true, true_and]; exact h
        · simp only [if_pos h1, if_pos h2, if_pos h3, if_neg h4, if_pos (And.intro h1 h2), b0, b0', b1, b1', true_implies, not_true_eq_false, false_implies, not_false_eq_true, and_true, true_and]; exact h
      · simp only [if_pos h1, if_pos h2, if_neg h3, if_pos (And.intro h1 h2), b0, b0', b1, b1', true_implies, not_true_eq_false, false_implies, not_false_eq_true, and_true, true_and]; exact h
    · simp only [if_pos h1, if_neg h2, if_neg (fun z : ((0 : Int32) ≤ p1 ∧ p1 ≤ 99) ∧ ((0 : Int32) ≤ p2 ∧ p2 ≤ 20) => h2 z.2), b0, b0', b1, b1', true_implies, not_true_eq_false, false_implies, not_false_eq_true, and_true, true_and]; exact h
  · simp only [if_neg h1, if_neg (fun z : ((0 : Int32) ≤ p1 ∧ p1 ≤ 99) ∧ ((0 : Int32) ≤ p2 ∧ p2 ≤ 20) => h1 z.1), b0, b0', b1, b1', true_implies, not_true_eq_false, false_implies, not_false_eq_true, and_true, true_and]; exact h
