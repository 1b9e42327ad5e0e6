/-! ===== pure: where, lostWhen, stretch, stop ===== -/
theorem C_goOn {c : St} {Post : St → Prop} {p : Int32} {N a : Nat} (hp : p = nI N) (hN : N < 1100) (h3 : c 11 3 = 0 ∨ c 11 3 = 1) (h4 : c 11 4 = 0 ∨ c 11 4 = 1) (ha : c 11 0 = nI a) (hb : a + N < 2 ^ 31) (hw : wlOK (c 3 4)) (h : ∀ f : Nat → Int32, (∀ k, k < 12 → f k = c 11 k) → Post (upc c 13 (pc_ (goF (ppC c) N (pc_ f))))) : w_X7_goOn p c Post := by
  refine C_copyFrom (by decide) h3 h4 (fun f hf => ?_)
  refine C_passMany (a := a) (by decide) (by decide) hp hN (by rw [upc_same, hf 0 (by decide)]; exact ha) hb (by rw [upc_at, if_neg (by decide)]; exact hw) ?_
  rw [ppC_upc (by decide) (by decide), upc_same, upc_upc]
  exact h f hf
theorem NE_goF12 {P : PP} {N : Nat} {f g h : Nat → Int32} (hf : ∀ k, k < 12 → f k = g k) (q : NE (pc_ g) h) : NE (goF P N (pc_ f)) (goF P N h) := NE_goF N ((NE.of12 (pc12 hf)).trans q)
theorem P_where {p1 p2 : Int32} {c m : St} (h : R c m) : w_X8_where p1 p2 c (fun r c' => w_X9_where p1 p2 m (fun r' m' => r = r' ∧ R c' m')) := by
  unfold w_X8_where w_X9_where
  simp only [isW, in_0_999, in_0_1, h.mt]
  by_cases h1 : (0 : Int32) ≤ p1 ∧ p1 ≤ 999
  · by_cases h2 : (0 : Int32) ≤ p2 ∧ p2 ≤ 1
    · simp only [if_pos h1, if_pos h2, b0, b0', b1, b1', true_implies, not_true_eq_false, false_implies, not_false_eq_true, and_true, true_and]
      by_cases h3 : m 0 0 = 0
      · exact (bT' h3).mpr ((bT' h3).mpr (by first | exact h | exact ⟨rfl, h⟩))
      · refine (bF' h3).mpr ?_
        obtain ⟨N, hN, rfl⟩ := nI_of2 (M := 999) (n := 999) rfl (Int32.not_lt.mpr h1.1) h1.2
        obtain ⟨a, l, q1, q2, -⟩ := id h.2.1.2
        refine C_goOn (a := a) rfl (by omega) h.2.1.b3 h.2.1.b4 (by rw [h.mins]; exact q1) (by omega) h.wlC (fun f hf => ?_)
        have hne : NE (goF (ppM m) N (pc_ f)) (goF (ppM m) N (m 4)) := NE_goF12 hf h.2.1.1
        rw [h.pp, upc_same]
        have J : ∀ (w : Nat), (w = 0 ∨ w = 1) → p2 = nI w → ∀ r : Int32, r = pc_ (goF (ppM m) N (pc_ f)) (1 + w) + 10000 → w_X9_save m (fun σ8 => w_X9_where_L41 (fun r' m' => r = r' ∧ R (upc c 13 (pc_ (goF (ppM m) N (pc_ f)))) m') FU (nI N) p2 (0 : Int32) σ8) := by
          intro w hw hp2 r hr
          refine M_save (fun g hg => ?_)
          have := M_loop (L := fun n k σ => w_X9_where_L41 (fun r' m' => r = r' ∧ R (upc c 13 (pc_ (goF (ppM m) N (pc_ f)))) m') n (nI N) p2 k σ) (EX := fun σ => w_X9_where_J65 (fun r' m' => r = r' ∧ R (upc c 13 (pc_ (goF (ppM m) N (pc_ f)))) m') p2 σ) (N := N) (by omega) (fun n k σ q => q) N FU (upc m 13 g) a (Nat.le_refl _) (by show N < 1100; omega) (by rw [upc_at, if_neg (by decide)]; exact q1) (by omega) (by rw [upc_at, if_neg (by decide)]; exact h.wlM) ?_
          · rw [Nat.sub_self] at this; exact this
          · have e1 : (1 : Int32) + p2 = nI (1 + w) := by rw [hp2, show (1 : Int32) = nI 1 from rfl, nI_add]
            refine ⟨by rw [e1]; exact vin rfl (by omega), ?_⟩
            rintro _ rfl
            refine M_putBack (fun f2 hf2 => ⟨?_, ?_⟩)
            · rw [e1, cl_nI (by omega), upc_same, hr, ppM_of (m := m) (m1 := upc m 13 g) (by simp [upc_at]) (fun k _ => by simp [upc_at]), show upc m 13 g 4 = m 4 by simp [upc_at]]
              rcases hw with rfl | rfl
              · rw [show pc_ (goF (ppM m) N (pc_ f)) (1 + 0) = goF (ppM m) N (pc_ f) 1 from rfl, hne.1 1 (by decide)]
              · rw [show pc_ (goF (ppM m) N (pc_ f)) (1 + 1) = goF (ppM m) N (pc_ f) 2 from rfl, hne.1 2 (by decide)]
            · refine R.scratch h (fun j _ j2 => by rw [upc_at, if_neg j2]) (fun j _ j2 j3 => by rw [upc_upc, upc_at, if_neg j2, upc_at, if_neg j3]) (fun k hk => ?_) (fun k _ => by rw [upc_upc, upc_at, if_neg (by decide), upc_at, if_neg (by decide)])
              rw [upc_upc, upc_same, hf2 k hk, upc_at, if_neg (by decide), upc_same, hg k hk]
        rcases n01 h2 with rfl | rfl
        · exact (bT' rfl).mpr ((bF' h3).mpr (J 0 (Or.inl rfl) rfl _ rfl))
        · exact (bF' (show ¬ (1 : Int32) = 0 by decide)).mpr ((bF' h3).mpr (J 1 (Or.inr rfl) rfl _ rfl))
    · simp only [if_pos h1, if_neg h2, b0, b0', b1, b1', true_implies, not_true_eq_false, false_implies, not_false_eq_true, and_true, true_and]; exact h
  · simp only [if_neg h1, b0, b0', b1, b1', true_implies, not_true_eq_false, false_implies, not_false_eq_true, and_true, true_and]; exact h
theorem goF_5 {P : PP} : ∀ (n : Nat) {ν : Nat → Int32}, (ν 5 = 0 ∨ ν 5 = 1) → (goF P n ν 5 = 0 ∨ goF P n ν 5 = 1)
  | 0, _, h => h
  | n + 1, ν, h => by
    unfold goF
    split
    · exact goF_5 n (by rw [passF_5]; exact movF_5 P ν)
    · exact h
theorem P_lostWhen {c m : St} (h : R c m) : w_X8_lostWhen c (fun r c' => w_X9_lostWhen m (fun r' m' => r = r' ∧ R c' m')) := by
  unfold w_X8_lostWhen w_X9_lostWhen
  simp only [cannot_iff, ready_iff, h.mt, h.lost]
  by_cases h3 : ¬ m 0 0 = 0 ∧ m 4 5 = 0
  · simp only [if_pos h3, b0, b0', b1, b1', true_implies, not_true_eq_false, false_implies, not_false_eq_true, and_true, true_and]
    obtain ⟨a, l, q1, q2, q3, q4, q5, q6⟩ := id h.2.1.2
    refine C_goOn (N := 999) (a := a) rfl (by decide) h.2.1.b3 h.2.1.b4 (by rw [h.mins]; exact q1) (by omega) h.wlC (fun f hf => ?_)
    have hne : NE (goF (ppM m) 999 (pc_ f)) (goF (ppM m) 999 (m 4)) := NE_goF12 hf h.2.1.1
    rw [h.pp, upc_same]
    have J : ∀ r : Int32, r = (if goF (ppM m) 999 (m 4) 5 = 1 then goF (ppM m) 999 (m 4) 0 - 1 else -1) → w_X9_save m (fun σ4 => w_X9_lostWhen_L16 (fun r' m' => r = r' ∧ R (upc c 13 (pc_ (goF (ppM m) 999 (pc_ f)))) m') FU (0 : Int32) σ4) := by
      intro r hr
      refine M_save (fun g hg => ?_)
      refine M_loop (L := fun n k σ => w_X9_lostWhen_L16 (fun r' m' => r = r' ∧ R (upc c 13 (pc_ (goF (ppM m) 999 (pc_ f)))) m') n k σ) (EX := fun σ => w_X9_lostWhen_J42 (fun r' m' => r = r' ∧ R (upc c 13 (pc_ (goF (ppM m) 999 (pc_ f)))) m') σ) (N := 999) (by decide) (fun n k σ q => q) 999 FU (upc m 13 g) a (Nat.le_refl _) (by decide) (by rw [upc_at, if_neg (by decide)]; exact q1) (by omega) (by rw [upc_at, if_neg (by decide)]; exact h.wlM) ?_
      rw [ppM_of (m := m) (m1 := upc m 13 g) (by simp [upc_at]) (fun k _ => by simp [upc_at]), show upc m 13 g 4 = m 4 by simp [upc_at]]
      have K : ∀ s : Int32, s = r → w_X9_lostWhen_J64 (fun r' m' => r = r' ∧ R (upc c 13 (pc_ (goF (ppM m) 999 (pc_ f)))) m') s (upc (upc m 13 g) 4 (goF (ppM m) 999 (m 4))) := by
        intro s hs
        refine M_putBack (fun f2 hf2 => ⟨hs.symm, ?_⟩)
        refine R.scratch h (fun j _ j2 => by rw [upc_at, if_neg j2]) (fun j _ j2 j3 => by rw [upc_upc, upc_at, if_neg j2, upc_at, if_neg j3]) (fun k hk => ?_) (fun k _ => by rw [upc_upc, upc_at, if_neg (by decide), upc_at, if_neg (by decide)])
        rw [upc_upc, upc_same, hf2 k hk, upc_at, if_neg (by decide), upc_same, hg k hk]
      unfold w_X9_lostWhen_J42
      rw [upc_same]
      refine ⟨fun q => K _ (by rw [hr, if_neg q]), fun q => K _ (by rw [hr, if_pos q])⟩
    rw [show pc_ (goF (ppM m) 999 (pc_ f)) 3 = goF (ppM m) 999 (pc_ f) 5 from rfl, hne.1 5 (by decide), show pc_ (goF (ppM m) 999 (pc_ f)) 0 = goF (ppM m) 999 (pc_ f) 0 from rfl, hne.1 0 (by decide)]
    rcases goF_5 (P := ppM m) 999 q5 with q | q
    · refine (bT q).mpr (J _ ?_)
      rw [q, if_neg (by decide)]
    · refine (bF (by rw [q]; decide)).mpr (J _ ?_)
      rw [q, if_pos rfl]
  · simp only [if_neg h3, b0, b0', b1, b1', true_implies, not_true_eq_false, false_implies, not_false_eq_true, and_true, true_and]; exact h
def stF (P : PP) (d : Int32) : Nat → Nat → (Nat → Int32) → Nat
  | 0, k, _ => k
  | j + 1, k, ν => if passF P ν 5 = 0 ∧ tailF (passF P ν) ≤ d then stF P d j (k + 1) (passF P ν) else k
theorem NE_st {P : PP} {d : Int32} : ∀ (j k : Nat) {a b : Nat → Int32}, NE a b → stF P d j k a = stF P d j k b
  | 0, _, _, _, _ => rfl
  | j + 1, k, a, b, q => by
    have q2 : NE (passF P a) (passF P b) := NE_passF q
    unfold stF
    rw [q2.1 5 (by decide), NE_tailF q2]
    split
    · exact NE_st j (k + 1) q2
    · rfl
theorem C_st {Post : Int32 → St → Prop} {d : Int32} : ∀ (j fuel k : Nat) (c : St) (a : Nat), k + j = 999 → j < fuel → c 13 0 = nI a → a + j < 2 ^ 31 → wlOK (c 3 4) → (∀ f, Post (nI (stF (ppC c) d j k (pc_ (c 13)))) (upc c 13 f)) → w_X7_longestWithin_L6 Post fuel d (nI k) c := by
  intro j
  induction j with
  | zero =>
    intro fuel k c a h1 h2 h3 h4 h5 h6
    obtain ⟨f, rfl⟩ : ∃ f, fuel = f + 1 := ⟨fuel - 1, by omega⟩
    have : k = 999 := by omega
    subst this
    have := h6 (c 13)
    rw [upc_self] at this
    exact ⟨fun _ => this, fun q => absurd (by decide) q⟩
  | succ j ih =>
    intro fuel k c a h1 h2 h3 h4 h5 h6
    obtain ⟨f, rfl⟩ : ∃ f, fuel = f + 1 := ⟨fuel - 1, by omega⟩
    refine ⟨fun q => absurd q (nI_ge (b := 999) (by omega) (by decide)), fun _ => C_passOne (by decide) (by decide) h5 h3 (by omega) ?_⟩
    rw [upc_same]
    unfold stF at h6
    rw [show pc_ (passF (ppC c) (pc_ (c 13))) 3 = passF (ppC c) (pc_ (c 13)) 5 from rfl]
    refine ⟨fun q => ?_, fun q => C_tailLength ?_⟩
    · rw [if_neg (fun z => q z.1)] at h6; exact h6 _
    · rw [upc_same, pc_pc]
      refine ⟨fun q2 => ?_, fun q2 => ?_⟩
      · rintro _ rfl
        rw [if_pos ⟨q, q2⟩] at h6
        rw [nI_1]
        refine ih f (k + 1) _ (a + 1) (by omega) (by omega) ?_ (by omega) ?_ (fun g => ?_)
        · rw [upc_same, show ∀ z : Nat → Int32, pc_ z 0 = z 0 from fun _ => rfl, passF_0, show pc_ (c 13) 0 = c 13 0 from rfl, h3, nI_1]
        · rw [upc_at, if_neg (by decide)]; exact h5
        · rw [ppC_upc (by decide) (by decide), upc_same, upc_upc, pc_pc]; exact h6 g
      · rw [if_neg (fun z => q2 z.2)] at h6; exact h6 _
theorem M_st {Post : Int32 → St → Prop} {d : Int32} : ∀ (j fuel k : Nat) (m : St) (a : Nat), k + j = 999 → j + 1 < fuel → m 4 0 = nI a → a + j < 2 ^ 31 → wlOK (m 0 4) → (∀ f, w_X9_stretch_J90 Post (nI (stF (ppM m) d j k (m 4))) (upc m 4 f)) → w_X9_stretch_L37 Post fuel d (nI k) 1 m := by
  intro j
  induction j with
  | zero =>
    intro fuel k m a h1 h2 h3 h4 h5 h6
    obtain ⟨f, rfl⟩ : ∃ f, fuel = f + 1 := ⟨fuel - 1, by omega⟩
    have : k = 999 := by omega
    subst this
    have := h6 (m 4)
    rw [upc_self] at this
    exact ⟨fun q => absurd q (by decide), fun _ => ⟨fun _ => this, fun q => absurd (by decide) q⟩⟩
  | succ j ih =>
    intro fuel k m a h1 h2 h3 h4 h5 h6
    obtain ⟨f, rfl⟩ : ∃ f, fuel = f + 1 + 1 := ⟨fuel - 2, by omega⟩
    have bad : ∀ g, (stF (ppM m) d (j + 1) k (m 4) = k) → w_X9_stretch_J73 (w_X9_stretch_L37 Post (f + 1)) Post d (nI k) (upc m 4 g) := by
      intro g hk
      refine ⟨fun _ => ?_, fun q => absurd rfl q⟩
      rintro _ rfl
      rw [Int32.add_zero]
      refine ⟨fun _ => ?_, fun q => absurd rfl q⟩
      have := h6 g
      rw [hk] at this
      exact this
    refine ⟨fun q => absurd q (by decide), fun _ => ⟨fun q => absurd q (nI_ge (b := 999) (by omega) (by decide)), fun _ => M_pass h5 h3 (by omega) ?_⟩⟩
    rw [upc_same]
    refine ⟨fun q => bad _ ?_, fun q => M_tailNow ?_⟩
    · unfold stF; rw [if_neg (fun z => q z.1)]
    · rw [upc_same]
      refine ⟨fun q2 => bad _ ?_, fun q2 => ⟨fun z => absurd z (by decide), fun _ => ?_⟩⟩
      · unfold stF; rw [if_neg (fun z => absurd q2 (Int32.not_lt.mpr z.2))]
      · rintro _ rfl
        rw [nI_1]
        unfold stF at h6
        rw [if_pos ⟨q, Int32.not_lt.mp q2⟩] at h6
        refine ih (f + 1) (k + 1) _ (a + 1) (by omega) (by omega) ?_ (by omega) ?_ (fun g => ?_)
        · rw [upc_same, passF_0, h3, nI_1]
        · rw [upc_at, if_neg (by decide)]; exact h5
        · rw [ppM_upc4, upc_same, upc_upc]; exact h6 g
theorem P_stretch {p : Int32} {c m : St} (h : R c m) : w_X8_stretch p c (fun r c' => w_X9_stretch p m (fun r' m' => r = r' ∧ R c' m')) := by
  unfold w_X8_stretch w_X9_stretch
  simp only [isW, in_0_999, h.mt]
  by_cases h1 : (0 : Int32) ≤ p ∧ p ≤ 999
  · simp only [if_pos h1, b0, b0', b1, b1', true_implies, not_true_eq_false, false_implies, not_false_eq_true, and_true, true_and]
    by_cases h3 : m 0 0 = 0
    · exact (bT h3).mpr ((bT' h3).mpr (by first | exact h | exact ⟨rfl, h⟩))
    · refine (bF h3).mpr ?_
      obtain ⟨a, l, q1, q2, -⟩ := id h.2.1.2
      refine C_takeFresh (fun f hf0 hf => ?_)
      rintro _ rfl
      rw [upc_at, if_neg (by decide), up_upc]
      refine C_st 999 FU 0 _ a rfl (by decide) (by rw [upc_same]; simp [upd]; rw [h.mins]; exact q1) (by omega) (by rw [upc_at, if_neg (by decide)]; exact h.wlC) (fun g => ?_)
      rw [ppC_upc (by decide) (by decide), h.pp, upc_same, upc_upc]
      refine (bF' h3).mpr (M_save (fun g2 hg2 => M_newPlate (fun g3 hg0 hg3 => ?_)))
      rw [upc_at, if_neg (by decide)] at hg0
      refine M_st 999 FU 0 _ a rfl (by decide) (by rw [upc_same, hg0]; exact q1) (by omega) (by rw [upc_at, if_neg (by decide), upc_at, if_neg (by decide)]; exact h.wlM) (fun g4 => ?_)
      rw [ppM_upc4, ppM_of (m := m) (m1 := upc m 13 g2) (by simp [upc_at]) (fun k _ => by simp [upc_at]), upc_same]
      have hne : NE (pc_ (upd f 0 (c 11 0))) g3 := NE_fresh (by simp [upd]; rw [h.mins, hg0]) (fun k k1 k2 => by rw [upd_at, if_neg (by omega)]; exact hf k k1 k2) hg3
      rw [NE_st 999 0 hne]
      refine M_putBack (fun f2 hf2 => ⟨rfl, ?_⟩)
      refine R.scratch h (fun j _ j2 => by rw [upc_at, if_neg j2]) (fun j _ j2 j3 => by rw [upc_upc, upc_upc, upc_at, if_neg j2, upc_at, if_neg j3]) (fun k hk => ?_) (fun k _ => by rw [upc_upc, upc_upc, upc_at, if_neg (by decide), upc_at, if_neg (by decide)])
      rw [upc_upc, upc_upc, upc_same, hf2 k hk, upc_at, if_neg (by decide), upc_at, if_neg (by decide), upc_same, hg2 k hk]
  · simp only [if_neg h1, b0, b0', b1, b1', true_implies, not_true_eq_false, false_implies, not_false_eq_true, and_true, true_and]; exact h
/-! moved alike, whether the plate is shut or not -/
def EM (a b : Nat → Int32) : Prop := ∀ k, k < 6 → a k = b k
theorem passF_lo (P : PP) (ν : Nat → Int32) {k : Nat} (hk : k < 6) : passF P ν k = movF P ν k := by
  unfold passF
  split
  · have : k = 0 ∨ k = 1 ∨ k = 2 ∨ k = 3 ∨ k = 4 ∨ k = 5 := by omega
    rcases this with rfl | rfl | rfl | rfl | rfl | rfl <;> simp [gatF, upd]
  · rfl
theorem EM_pass {P : PP} {a b : Nat → Int32} (h : EM a b) : EM (passF P a) (passF P b) := by
  have e1 : pE P a = pE P b := by unfold pE; rw [h 0 (by decide), h 1 (by decide), h 3 (by decide)]
  have e2 : pN P a = pN P b := by unfold pN; rw [h 2 (by decide), h 4 (by decide)]
  intro k hk
  rw [passF_lo P a hk, passF_lo P b hk]
  unfold movF
  rw [e1, e2, h 0 (by decide)]
  have : k = 0 ∨ k = 1 ∨ k = 2 ∨ k = 3 ∨ k = 4 ∨ k = 5 := by omega
  rcases this with rfl | rfl | rfl | rfl | rfl | rfl <;> simp [upd]
theorem EM_go {P : PP} : ∀ (n : Nat) {a b : Nat → Int32}, EM a b → EM (goF P n a) (goF P n b)
  | 0, _, _, h => h
  | n + 1, a, b, h => by
    unfold goF
    rw [h 5 (by decide)]
    split
    · exact EM_go n (EM_pass h)
    · exact h
theorem M_sp {Post : Int32 → St → Prop} {w : Nat} (hw : w ≤ 999) : ∀ (d fuel : Nat) (m : St) (a l n : Nat), d < fuel → m 4 6 = 0 → m 4 7 = nI l → l < 2 ^ 30 → (l + d = w ∨ (d = 0 ∧ w ≤ l)) → m 4 0 = nI a → a + d < 2 ^ 31 → wlOK (m 0 4) → (m 4 5 = 0 ∨ m 4 5 = 1) →
    (∀ (g : Nat → Int32) (n' : Int32), g 5 = goF (ppM m) d (m 4) 5 → (g 5 = 0 → n' = nI (n + d)) → w_X9_stop_J69 Post n' (upc m 4 g)) → w_X9_stop_L39 Post fuel (nI w) (nI n) m := by
  intro d
  induction d with
  | zero =>
    intro fuel m a l n h1 h2 h3 hl h4 h5 h6 h7 h8 h9
    obtain ⟨f, rfl⟩ : ∃ f, fuel = f + 1 := ⟨fuel - 1, by omega⟩
    have := h9 (m 4) (nI n) rfl (fun _ => rfl)
    rw [upc_self] at this
    exact ⟨fun _ => this, fun q => absurd (by rw [h3]; exact nI_le (by omega) (by omega)) q⟩
  | succ d ih =>
    intro fuel m a l n h1 h2 h3 hl h4 h5 h6 h7 h8 h9
    obtain ⟨f, rfl⟩ : ∃ f, fuel = f + 1 := ⟨fuel - 1, by omega⟩
    refine ⟨fun q => absurd q (by rw [h3]; exact nI_ge (by omega) (by omega)), fun _ => ⟨fun q => ?_, fun q => M_pass h7 h5 (by omega) ?_⟩⟩
    · have := h9 (m 4) (nI n) (by unfold goF; rw [if_neg q]) (fun z => absurd z q)
      rw [upc_self] at this
      exact this
    · rintro _ rfl
      rw [nI_1]
      have e5 : passF (ppM m) (m 4) 5 = 0 ∨ passF (ppM m) (m 4) 5 = 1 := by rw [passF_5]; exact movF_5 _ _
      unfold goF at h9
      rw [if_pos q] at h9
      by_cases z : passF (ppM m) (m 4) 5 = 0
      · have e7 := passF_7 (ppM m) (m 4)
        rw [if_pos ⟨z, h2⟩, h3, nI_1] at e7
        refine ih f _ (a + 1) (l + 1) (n + 1) (by omega) (by rw [upc_same, passF_6]; exact h2) (by rw [upc_same]; exact e7) (by omega) (by omega) (by rw [upc_same, passF_0, h5, nI_1]) (by omega) (by rw [upc_at, if_neg (by decide)]; exact h7) (by rw [upc_same]; exact e5) (fun g n' q1 q2 => ?_)
        rw [upc_upc]
        refine h9 g n' ?_ (fun y => ?_)
        · rw [q1, ppM_upc4, upc_same]
        · rw [q2 y]; congr 1; omega
      · obtain ⟨f2, rfl⟩ : ∃ f2, f = f2 + 1 := ⟨f - 1, by omega⟩
        have hgo : goF (ppM m) d (passF (ppM m) (m 4)) = passF (ppM m) (m 4) := by
          cases d with
          | zero => rfl
          | succ d => unfold goF; rw [if_neg z]
        have hx := h9 (passF (ppM m) (m 4)) (nI (n + 1)) (by rw [hgo]) (fun y => absurd y z)
        refine ⟨fun _ => hx, fun _ => ⟨fun _ => hx, fun y => ?_⟩⟩
        rw [upc_same] at y
        exact absurd y z
theorem P_stop {p : Int32} {c m : St} (h : R c m) : w_X8_stop p c (fun r c' => w_X9_stop p m (fun r' m' => r = r' ∧ R c' m')) := by
  unfold w_X8_stop w_X9_stop
  simp only [isW, in_0_999, cannot_iff, ready_iff, h.mt, h.lost]
  by_cases h1 : (0 : Int32) ≤ p ∧ p ≤ 999
  · by_cases h3 : ¬ m 0 0 = 0 ∧ m 4 5 = 0
    · simp only [if_pos h1, if_pos h3, b0, b0', b1, b1', true_implies, not_true_eq_false, false_implies, not_false_eq_true, and_true, true_and]
      obtain ⟨w, hw, rfl⟩ := nI_of2 (M := 999) (n := 999) rfl (Int32.not_lt.mpr h1.1) h1.2
      obtain ⟨a, l, q1, q2, q3, q4, q5, q6⟩ := id h.2.1.2
      rintro x1 ex1
      have ex : x1 = nI (w - l) := by
        rw [ex1, h.light, q3]
        by_cases hlw : l ≤ w
        · rw [show nI w - nI l = nI (w - l) from pk_sub hlw, if_neg (nI_pos (by omega))]
        · rw [if_pos (pk_sneg (by omega) (by omega)), show w - l = 0 by omega]; rfl
      rw [ex]
      refine C_goOn (N := w - l) (a := a) rfl (by omega) h.2.1.b3 h.2.1.b4 (by rw [h.mins]; exact q1) (by omega) h.wlC (fun f hf => ?_)
      have hne : NE (goF (ppM m) (w - l) (pc_ f)) (goF (ppM m) (w - l) (m 4)) := NE_goF12 hf h.2.1.1
      rw [h.pp, upc_same]
      have hem : EM (goF (ppM m) (w - l) (upd (m 4) 6 0)) (goF (ppM m) (w - l) (m 4)) := EM_go (w - l) (fun k hk => by rw [upd_at, if_neg (by omega)])
      have J : ∀ r : Int32, (goF (ppM m) (w - l) (m 4) 5 = 0 → r = nI (w - l)) → (goF (ppM m) (w - l) (m 4) 5 = 1 → r = -1) → w_X9_save m (fun σ7 => ∀ σ8 : St, σ8 = up σ7 4 6 (0 : Int32) → w_X9_stop_L39 (fun r' m' => r = r' ∧ R (upc c 13 (pc_ (goF (ppM m) (w - l) (pc_ f)))) m') FU (nI w) (0 : Int32) σ8) := by
        intro r hr0 hr1
        refine M_save (fun g hg => ?_)
        rintro _ rfl
        have e4 : up (upc m 13 g) 4 6 0 4 = upd (m 4) 6 0 := by rw [up_eq]; simp [upc_at]
        have eP : ppM (up (upc m 13 g) 4 6 0) = ppM m := by rw [up_def, ppM_upc4]; exact ppM_of (by simp [upc_at]) (fun k _ => by simp [upc_at])
        refine M_sp hw (w - l) FU _ a l 0 (by show w - l < 1100; omega) (by rw [e4]; simp [upd]) (by rw [e4]; simpa [upd] using q3) (by omega) (by omega) (by rw [e4]; simpa [upd] using q1) (by omega) (by rw [up_ne (by decide), upc_at, if_neg (by decide)]; exact h.wlM) (by rw [e4]; simpa [upd] using q5) (fun g2 n' y1 y2 => ?_)
        rw [eP, e4, hem 5 (by decide)] at y1
        have K : ∀ s : Int32, (s = 0 ∨ s = 1) → (s = 0 ↔ g2 5 = 0) → w_X9_stop_J84 (fun r' m' => r = r' ∧ R (upc c 13 (pc_ (goF (ppM m) (w - l) (pc_ f)))) m') n' s (upc (up (upc m 13 g) 4 6 0) 4 g2) := by
          intro s hs hs2
          refine M_putBack (fun f2 hf2 => ?_)
          have hR : R (upc c 13 (pc_ (goF (ppM m) (w - l) (pc_ f)))) (upc (upc (up (upc m 13 g) 4 6 0) 4 g2) 4 f2) := by
            refine R.scratch h (fun j _ j2 => by rw [upc_at, if_neg j2]) (fun j _ j2 j3 => by rw [upc_upc, upc_at, if_neg j2, up_ne j2, upc_at, if_neg j3]) (fun k hk => ?_) (fun k _ => by rw [upc_upc, upc_at, if_neg (by decide), up_ne (by decide), upc_at, if_neg (by decide)])
            rw [upc_upc, upc_same, hf2 k hk, upc_at, if_neg (by decide), up_ne (by decide), upc_same, hg k hk]
          refine ⟨fun z => ⟨?_, hR⟩, fun z => ⟨?_, hR⟩⟩
          · have g0 := hs2.mp z
            rw [hr0 (by rw [← y1]; exact g0), y2 g0]; congr 1; omega
          · have g1 : ¬ g2 5 = 0 := fun q => z (hs2.mpr q)
            rcases goF_5 (P := ppM m) (w - l) q5 with q | q
            · exact absurd (y1.trans q) g1
            · exact hr1 q
        unfold w_X9_stop_J69
        rw [upc_same]
        refine ⟨fun z => K 0 (Or.inl rfl) ⟨fun _ => ?_, fun _ => rfl⟩, fun z => K 1 (Or.inr rfl) ⟨fun q => absurd q (by decide), fun q => absurd (z.symm.trans q) (by decide)⟩⟩
        rcases goF_5 (P := ppM m) (w - l) q5 with q | q
        · exact y1.trans q
        · exact absurd (y1.trans q) z
      rw [show pc_ (goF (ppM m) (w - l) (pc_ f)) 3 = goF (ppM m) (w - l) (pc_ f) 5 from rfl, hne.1 5 (by decide)]
      rcases goF_5 (P := ppM m) (w - l) q5 with q | q
      · exact (bT q).mpr (J _ (fun _ => rfl) (fun z => absurd (q.symm.trans z) (by decide)))
      · exact (bF (by rw [q]; decide)).mpr (J _ (fun z => absurd (q.symm.trans z) (by decide)) (fun _ => rfl))
    · simp only [if_pos h1, if_neg h3, b0, b0', b1, b1', true_implies, not_true_eq_false, false_implies, not_false_eq_true, and_true, true_and]; exact h
  · simp only [if_neg h1, b0, b0', b1, b1', true_implies, not_true_eq_false, false_implies, not_false_eq_true, and_true, true_and]; exact h
