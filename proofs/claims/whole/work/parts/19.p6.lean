/-! ===== pure: the pairs that act ===== -/
def HM (m m1 : St) : Prop := ∃ (cnt : Nat) (g : Nat → Int32), cnt ≤ 20 ∧ m 0 31 = nI cnt ∧ (∀ k, k < 12 → g (12 * (min (cnt + 1) 20 - 1) + k) = m 4 k) ∧ (∀ j, j + 1 < min (cnt + 1) 20 → ∀ k, k < 12 → g (12 * (min (cnt + 1) 20 - 1 - (j + 1)) + k) = m 12 (12 * (cnt - 1 - j) + k)) ∧ m1 = upc (upc m 12 g) 0 (upd (m 0) 31 (nI (min (cnt + 1) 20)))
theorem A_push {c m : St} (h : R c m) {G : St → Prop} (hG : ∀ c1 : St, (∀ j, j ≠ 14 → ¬ (16 ≤ j ∧ j ≤ 35) → c1 j = c j) → (∀ m1, HM m m1 → RHi c1 m1) → G c1) : w_X1_push c G := by
  obtain ⟨cnt, nx, a1, a2, a3, a4, a5, a6⟩ := h.2.2.1
  refine C_push a1 a2 a3 a4 h.2.1.b3 h.2.1.b4 (fun f hf => hG _ (fun j j1 j2 => ?_) ?_)
  · rw [upc_at, if_neg j1, upc_at, if_neg (by omega)]
  · rintro _ ⟨cnt2, g, b1, b2, b3, b4, rfl⟩
    have e : cnt2 = cnt := (nI_eq (by omega) (by omega)).mp (b2.symm.trans a5)
    subst e
    exact RHi_push a1 a2 a3 a4 a5 a6 h.2.1 hf b3 b4
theorem A_rem {c m : St} (h : R c m) {G : St → Prop} (hG : ∀ m1 : St, HM m m1 → (∀ j, j ≠ 0 → j ≠ 12 → m1 j = m j) → (∀ k, k ≠ 31 → m1 0 k = m 0 k) → G m1) : w_X9_remember m G := by
  obtain ⟨cnt, nx, a1, a2, a3, a4, a5, a6⟩ := h.2.2.1
  refine M_remember a1 a5 (fun g h1 h2 => hG _ ⟨cnt, g, a1, a5, h1, h2, rfl⟩ (fun j j1 j2 => ?_) (fun k k1 => ?_))
  · rw [upc_at, if_neg j1, upc_at, if_neg j2]
  · rw [upc_same, upd_at, if_neg k1]
theorem OKb.eq4 {B : Nat} {μ μ' : Nat → Int32} (h : OKb B μ) (e0 : μ' 0 = μ 0) (e5 : μ' 5 = μ 5) (e6 : μ' 6 = μ 6) (e7 : μ' 7 = μ 7) : OKb B μ' := by
  obtain ⟨a, l, h1, h2, h3, h4, h5, h6⟩ := h
  exact ⟨a, l, by rw [e0]; exact h1, h2, by rw [e7]; exact h3, h4, by rw [e5]; exact h5, by rw [e6]; exact h6⟩
/-- the frame of an act behind what was remembered -/
theorem R.act2 {c m c1 m1 c' m' : St} (h : R c m) (f1 : ∀ j, j ≠ 14 → ¬ (16 ≤ j ∧ j ≤ 35) → c1 j = c j) (H1 : ∀ m1, HM m m1 → RHi c1 m1) (hm1 : HM m m1) (g1 : ∀ j, j ≠ 0 → j ≠ 12 → m1 j = m j) (g2 : ∀ k, k ≠ 31 → m1 0 k = m 0 k)
    (f2 : ∀ j, j ≠ 11 → j ≠ 43 → c' j = c1 j) (g3 : ∀ j, j ≠ 0 → j ≠ 4 → m' j = m1 j) (g4 : ∀ k, k ≠ 13 → m' 0 k = m1 0 k) (hN : RN (c' 11) (m' 4)) (hs : c' 43 0 = m' 0 13) : R c' m' := by
  refine R.act h (fun j j1 _ _ j4 j5 j6 => by rw [f2 j j1 j5, f1 j j4 j6]) (fun j j1 j2 j3 _ => by rw [g3 j j1 j2, g1 j j1 j3]) (fun k _ k2 k3 => by rw [g4 k k3, g2 k k2]) hN ?_ hs
  exact RHi.congr (H1 m1 hm1) (f2 14 (by decide) (by decide)) (fun j _ _ => f2 j (by omega) (by omega)) (g3 12 (by decide) (by decide)) (g4 31 (by decide))
theorem P_press {p1 p2 : Int32} {c m : St} (h : R c m) : w_X8_press p1 p2 c (fun r c' => w_X9_press p1 p2 m (fun r' m' => r = r' ∧ R c' m')) := by
  unfold w_X8_press w_X9_press
  simp only [isW, in_n99_99, cannot_iff, ready_iff, h.mt, h.lost]
  by_cases h1 : (-99 : Int32) ≤ p1 ∧ p1 ≤ 99
  · by_cases h2 : (-99 : Int32) ≤ p2 ∧ p2 ≤ 99
    · by_cases h3 : ¬ m 0 0 = 0 ∧ m 4 5 = 0
      · simp only [if_pos h1, if_pos h2, if_pos h3, b0, b0', b1, b1', true_implies, not_true_eq_false, false_implies, not_false_eq_true, and_true, true_and]
        refine A_push h (fun c1 f1 H1 => ?_)
        rintro _ rfl _ rfl
        refine A_rem h (fun m1 hm1 g1 g2 => ?_)
        rintro _ rfl _ rfl
        refine R.act2 h f1 H1 hm1 g1 g2 (fun j j1 _ => by rw [up_ne j1, up_ne j1]) (fun j _ j2 => by rw [up_ne j2, up_ne j2]) (fun k _ => by simp [up_at]) ?_ ?_
        · rw [up_eq, up_eq, up_eq, up_eq, f1 11 (by decide) (by decide), g1 4 (by decide) (by decide)]
          refine ⟨?_, h.2.1.2.eq4 rfl rfl rfl rfl⟩
          rw [pc_upd, pc_upd]
          exact (h.2.1.1.upd (by decide) _).upd (by decide) _
        · rw [up_ne (by decide), up_ne (by decide), up_ne (by decide), up_ne (by decide), f1 43 (by decide) (by decide), g2 13 (by decide)]
          exact h.2.2.2.2.2.2
      · simp only [if_pos h1, if_pos h2, if_neg h3, b0, b0', b1, b1', true_implies, not_true_eq_false, false_implies, not_false_eq_true, and_true, true_and]; exact h
    · simp only [if_pos h1, if_neg h2, b0, b0', b1, b1', true_implies, not_true_eq_false, false_implies, not_false_eq_true, and_true, true_and]; exact h
  · simp only [if_neg h1, b0, b0', b1, b1', true_implies, not_true_eq_false, false_implies, not_false_eq_true, and_true, true_and]; exact h
theorem P_shut {p : Int32} {c m : St} (hp : p = 0 ∨ p = 1) (h : R c m) : w_X8_shut p c (fun r c' => w_X9_shut p m (fun r' m' => r = r' ∧ R c' m')) := by
  unfold w_X8_shut
  rw [h.mt]
  by_cases h0 : m 0 0 = 0
  · refine (bT' h0).mpr ((bT' h0).mpr ⟨rfl, h⟩)
  · refine (bF' h0).mpr ?_
    refine A_push h (fun c1 f1 H1 => ?_)
    have e11 : c1 11 = c 11 := f1 11 (by decide) (by decide)
    rw [e11, h.shutv]
    have J : ∀ s : Int32, s = m 4 6 → w_X8_shut_J39 (fun r c' => w_X9_shut p m (fun r' m' => r = r' ∧ R c' m')) p s c1 := by
      intro s hs
      refine ⟨hp, ?_⟩
      rintro _ rfl
      refine (bF' h0).mpr (A_rem h (fun m1 hm1 g1 g2 => ?_))
      rintro _ rfl
      have e4 : m1 4 = m 4 := g1 4 (by decide) (by decide)
      have K : ∀ z : Int32, z = p → w_X9_shut_J37 (fun r' m' => s = r' ∧ R (up c1 11 4 p) m') (m1 4 6) z 6 m1 := by
        intro z hz
        refine ⟨vlit (by decide), ?_⟩
        rintro _ rfl
        rw [show up m1 4 (6 : Int32).toNatClampNeg z = up m1 4 6 z from rfl, e4, hz]
        refine ⟨hs, R.act2 h f1 H1 hm1 g1 g2 (fun j j1 _ => by rw [up_ne j1]) (fun j _ j2 => by rw [up_ne j2]) (fun k _ => by simp [up_at]) ?_ ?_⟩
        · rw [up_eq, up_eq, e11, e4]
          refine ⟨?_, ?_⟩
          · rw [pc_upd]
            exact h.2.1.1.upd (by decide) _
          · obtain ⟨a, l, q1, q2, q3, q4, q5, q6⟩ := h.2.1.2
            exact ⟨a, l, q1, q2, q3, q4, q5, by simpa [upd] using hp⟩
        · rw [up_ne (by decide), up_ne (by decide), f1 43 (by decide) (by decide), g2 13 (by decide)]
          exact h.2.2.2.2.2.2
      rcases hp with q | q
      · exact ⟨fun _ => K 0 q.symm, fun z => absurd q z⟩
      · exact ⟨fun z => absurd (q.symm.trans z) (by decide), fun _ => K 1 q.symm⟩
    obtain ⟨a, l, -, -, -, -, -, q6⟩ := h.2.1.2
    rcases q6 with q | q
    · exact ⟨fun _ => J 0 q.symm, fun z => absurd q z⟩
    · exact ⟨fun z => absurd (q.symm.trans z) (by decide), fun _ => J 1 q.symm⟩
theorem P_plate {c m : St} (h : R c m) : w_X8_plate c (fun r c' => w_X9_plate m (fun r' m' => r = r' ∧ R c' m')) := by
  unfold w_X8_plate
  rw [h.mt]
  by_cases h0 : m 0 0 = 0
  · refine (bT' h0).mpr ((bT' h0).mpr ⟨rfl, h⟩)
  · refine (bF' h0).mpr ?_
    refine A_push h (fun c1 f1 H1 => C_tailLength (C_takeFresh (fun f hf0 hf => ?_)))
    refine (bF' h0).mpr (A_rem h (fun m1 hm1 g1 g2 => M_tailNow (M_newPlate (fun g hg0 hg => ?_))))
    have e11 : c1 11 = c 11 := f1 11 (by decide) (by decide)
    have e4 : m1 4 = m 4 := g1 4 (by decide) (by decide)
    rw [e11] at hf0 ⊢
    rw [e4] at hg0 ⊢
    refine ⟨NE_tailF h.2.1.1, R.act2 h f1 H1 hm1 g1 g2 (fun j j1 _ => by rw [upc_at, if_neg j1]) (fun j _ j2 => by rw [upc_at, if_neg j2]) (fun k _ => by rw [upc_at, if_neg (by decide)]) ?_ ?_⟩
    · rw [upc_same, upc_same]
      refine ⟨NE_fresh (by rw [hf0, hg0]; exact h.mins) hf hg, ?_⟩
      obtain ⟨a, l, q1, q2, -⟩ := h.2.1.2
      exact ⟨a, 0, by rw [hg0]; exact q1, q2, hg 7 (by decide) (by decide), Nat.zero_le _, Or.inl (hg 5 (by decide) (by decide)), Or.inl (hg 6 (by decide) (by decide))⟩
    · rw [upc_at, if_neg (by decide), upc_at, if_neg (by decide), f1 43 (by decide) (by decide), g2 13 (by decide)]
      exact h.2.2.2.2.2.2
theorem refV_0 {p t : Int32} {ok : Bool} (h : refV p ok t = 0) : (1 ≤ p ∧ p ≤ 99) ∧ ok = true ∧ t ≤ 9000 := by
  unfold refV at h
  by_cases h1 : 1 ≤ p ∧ p ≤ 99
  · rw [if_pos h1] at h
    cases ok with
    | false => rw [if_neg (by decide)] at h; exact absurd h (by decide)
    | true =>
      rw [if_pos rfl] at h
      by_cases h2 : t ≤ 9000
      · exact ⟨h1, rfl, h2⟩
      · rw [if_neg h2] at h; exact absurd h (by decide)
  · rw [if_neg h1] at h; exact absurd h (by decide)
theorem n99 {p : Int32} (h : 1 ≤ p ∧ p ≤ 99) : ∃ N : Nat, 1 ≤ N ∧ N ≤ 99 ∧ p = nI N := by
  obtain ⟨N, hN, rfl⟩ := nI_of2 (M := 99) (n := 99) rfl (fun q => by have := h.1; rw [Int32.le_iff_toInt_le] at this; rw [Int32.lt_iff_toInt_lt] at q; have e1 : (1 : Int32).toInt = 1 := rfl; have e0 : (0 : Int32).toInt = 0 := rfl; omega) h.2
  exact ⟨N, (nI_leI (a := 1) (by decide) (by omega)).mp h.1, hN, rfl⟩
theorem ok9000 {μ : Nat → Int32} (h : OKb 9099 μ) (q : μ 0 ≤ 9000) : OKb 9000 μ := by
  obtain ⟨a, l, h1, h2, h3⟩ := h
  rw [h1] at q
  exact ⟨a, l, h1, (nI_leI (by omega) (by decide)).mp (show nI a ≤ nI 9000 from q), h3⟩
theorem ppC_of {c c1 : St} (h3 : c1 3 = c 3) (h4 : c1 4 = c 4) : ppC c1 = ppC c := by unfold ppC; rw [h3, h4]
theorem ppM_of {m m1 : St} (h1 : m1 1 = m 1) (h0 : ∀ k, k < 10 → m1 0 k = m 0 k) : ppM m1 = ppM m := by
  unfold ppM; rw [h1, h0 1 (by decide), h0 2 (by decide), h0 3 (by decide), h0 4 (by decide), h0 6 (by decide), h0 7 (by decide), h0 8 (by decide)]
theorem P_minute {p : Int32} {c m : St} (h : R c m) : w_X8_minute p c (fun r c' => w_X9_minute p m (fun r' m' => r = r' ∧ R c' m')) := by
  unfold w_X8_minute w_X9_minute
  simp only [refC, refM, h.mt, h.lost, h.mins]
  by_cases hz : refV p (decide (¬ m 0 0 = 0 ∧ m 4 5 = 0)) (m 4 0) = 0
  · simp only [hz, b0, b0', b1, b1', true_implies, not_true_eq_false, false_implies, not_false_eq_true, and_true, true_and]
    obtain ⟨hp, -, ht⟩ := refV_0 hz
    obtain ⟨N, hN1, hN2, rfl⟩ := n99 hp
    have hok := ok9000 h.2.1.2 ht
    obtain ⟨a, l, q1, q2, -⟩ := id hok
    refine A_push h (fun c1 f1 H1 => ?_)
    have e11 : c1 11 = c 11 := f1 11 (by decide) (by decide)
    have ec : ppC c1 = ppM m := (ppC_of (f1 3 (by decide) (by decide)) (f1 4 (by decide) (by decide))).trans h.pp
    refine C_passMany (a := a) (N := N) (by decide) (by decide) rfl (by omega) (by rw [e11, h.mins]; exact q1) (by omega) (by rw [f1 3 (by decide) (by decide)]; exact h.wlC) ?_
    refine A_rem h (fun m1 hm1 g1 g2 => ?_)
    have e4 : m1 4 = m 4 := g1 4 (by decide) (by decide)
    have em : ppM m1 = ppM m := ppM_of (g1 1 (by decide) (by decide)) (fun k hk => g2 k (by omega))
    have := M_loop (L := fun n k σ => w_X9_minute_L18 (fun r' m' => (upc c1 11 (pc_ (goF (ppC c1) N (pc_ (c1 11)))) 11 1 + 10000 : Int32) = r' ∧ R (upc c1 11 (pc_ (goF (ppC c1) N (pc_ (c1 11))))) m') n (nI N) k σ) (EX := fun σ => w_X9_minute_J42 (fun r' m' => (upc c1 11 (pc_ (goF (ppC c1) N (pc_ (c1 11)))) 11 1 + 10000 : Int32) = r' ∧ R (upc c1 11 (pc_ (goF (ppC c1) N (pc_ (c1 11))))) m') σ) (N := N) (by omega) (fun n k σ q => q) N FU m1 a (Nat.le_refl _) (by show N < 1100; omega) (by rw [e4]; exact q1) (by omega) (by rw [g2 4 (by decide)]; exact h.wlM) ?_
    · rw [Nat.sub_self] at this; exact this
    · have hne : NE (goF (ppM m) N (pc_ (c 11))) (goF (ppM m) N (m 4)) := NE_goF N h.2.1.1
      refine ⟨?_, R.act2 h f1 H1 hm1 g1 g2 (fun j j1 _ => by rw [upc_at, if_neg j1]) (fun j _ j2 => by rw [upc_at, if_neg j2]) (fun k _ => by rw [upc_at, if_neg (by decide)]) ?_ ?_⟩
      · rw [upc_same, upc_same, ec, em, e11, e4]
        rw [show pc_ (goF (ppM m) N (pc_ (c 11))) 1 = goF (ppM m) N (pc_ (c 11)) 1 from rfl, hne.1 1 (by decide)]
      · rw [upc_same, upc_same, ec, em, e11, e4]
        exact ⟨by rw [pc_pc]; exact hne, (hok.go (ppM m) N).mono (by omega)⟩
      · rw [upc_at, if_neg (by decide), upc_at, if_neg (by decide), f1 43 (by decide) (by decide), g2 13 (by decide)]
        exact h.2.2.2.2.2.2
  · simp only [bF hz]; exact ⟨trivial, h⟩
