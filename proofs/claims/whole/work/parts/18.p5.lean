/-! ===== pure: more pairs ===== -/
theorem C_put_full {a1 L1 a2 L2 : Nat} {p3 p4 p5 : Int32} {n : Nat} {σ : St} {Post : Int32 → St → Prop} (hp : p3 = nI n) (hn : L1 ≤ n) (hn2 : n < 2 ^ 31) (h : Post 0 σ) : w_X5_putPair a1 L1 a2 L2 p3 p4 p5 σ Post := by
  subst hp
  exact ⟨fun c => absurd c (nI_pos hn2), fun _ => ⟨fun _ => h, fun c => absurd (nI_le hn hn2) c⟩⟩
theorem C_put_ok {a1 a2 L : Nat} {p3 p4 p5 : Int32} {n : Nat} {σ : St} {Post : Int32 → St → Prop} (hp : p3 = nI n) (hn : n < L) (hL : L < 2 ^ 31) (h : Post 1 (up (up σ a1 n p4) a2 n p5)) : w_X5_putPair a1 L a2 L p3 p4 p5 σ Post := by
  subst hp
  refine ⟨fun c => absurd c (nI_pos (by omega)), fun _ => ⟨fun c => absurd c (nI_ge hn hL), fun _ => ⟨fun _ => ⟨vp_in_nI hn hL, ?_⟩, fun c => absurd (nI_lt hn hL) c⟩⟩⟩
  rintro _ rfl
  refine ⟨vp_in_nI hn hL, ?_⟩
  rintro _ rfl
  rw [cl_nI (by omega)]
  exact h
theorem up_same {σ : St} {i k : Nat} : up σ i k (σ i k) = σ := by rw [up_def, upd_self, upc_self]
theorem P_see {p1 p2 : Int32} {c m : St} (h : R c m) : w_X8_see p1 p2 c (fun r c' => w_X9_see p1 p2 m (fun r' m' => r = r' ∧ R c' m')) := by
  unfold w_X8_see w_X9_see
  simp only [isW, in_0_999, in_n150_150]
  by_cases h1 : (0 : Int32) ≤ p1 ∧ p1 ≤ 999
  · by_cases h2 : (-150 : Int32) ≤ p2 ∧ p2 ≤ 150
    · simp only [if_pos h1, if_pos h2, b0, b0', b1, b1', true_implies, not_true_eq_false, false_implies, not_false_eq_true, and_true, true_and]
      obtain ⟨s, t, b, hs, ht, hb, ⟨s1, s2, s3⟩, q1, q2⟩ := h.2.2.2.1
      unfold w_X5_addSeen
      by_cases hf : s < 10
      · refine C_put_ok s1 hf (by decide) ?_
        refine ⟨fun z => absurd z (by decide), fun _ => ?_⟩
        rintro _ rfl
        refine ⟨Or.inr rfl, ?_⟩
        rw [s2]
        refine ⟨fun z => absurd z (by decide), fun _ => ⟨fun _ => ⟨vin rfl hf, ?_⟩, fun z => absurd z (fun z => by
          have := (nI_eq (by omega) (by decide)).mp (show nI s = nI 10 from z); omega)⟩⟩
        rintro _ rfl
        have f1 : up m 14 s p1 0 35 = nI s := by rw [up_ne (by decide)]; exact s2
        rw [cl_nI (by omega), f1]
        refine ⟨vin rfl hf, ?_⟩
        rintro _ rfl _ rfl
        have f2 : up (up m 14 s p1) 15 s p2 0 35 = nI s := by rw [up_ne (by decide), f1]
        have f3 : up (up c 37 s p1) 38 s p2 36 0 = nI s := by rw [up_ne (by decide), up_ne (by decide)]; exact s1
        rw [cl_nI (by omega), f2, f3, nI_1]
        refine ⟨by simp [up_at], R.ofNb h (fun j hj => by rw [up_ne (by omega), up_ne (by omega), up_ne (by omega)]) (fun j j1 j2 => by rw [up_ne j1, up_ne (by omega), up_ne (by omega)]) (fun k k1 k2 k3 => by simp [up_at, k1]) ?_⟩
        refine ⟨s + 1, t, b, by omega, ht, hb, ⟨by simp [up_at], by simp [up_at], fun k hk => ?_⟩, by simpa [up_at] using q1, by simpa [up_at] using q2⟩
        simp only [up_at]
        by_cases e : k = s
        · obtain ⟨a, ha, hpa⟩ := nI_of2 (M := 999) (n := 999) rfl (Int32.not_lt.mpr h1.1) h1.2
          exact ⟨by simp [e], by simp [e], a, ha, by simp [e, hpa]⟩
        · obtain ⟨g1, g2, g3⟩ := s3 k (by omega)
          exact ⟨by simp [e, g1], by simp [e, g2], by simpa [e] using g3⟩
      · have hs10 : s = 10 := by omega
        subst hs10
        refine C_put_full s1 (by decide) (by decide) ?_
        refine ⟨fun _ => ?_, fun z => absurd rfl z⟩
        rintro _ rfl
        rw [show c 36 0 + (0 : Int32) = c 36 0 from Int32.add_zero _, up_same]
        refine ⟨Or.inl rfl, ?_⟩
        rw [s2]
        exact ⟨fun _ => ⟨fun z => absurd rfl z, fun _ => h⟩, fun z => absurd rfl z⟩
    · simp only [if_pos h1, if_neg h2, b0, b0', b1, b1', true_implies, not_true_eq_false, false_implies, not_false_eq_true, and_true, true_and]; exact h
  · simp only [if_neg h1, b0, b0', b1, b1', true_implies, not_true_eq_false, false_implies, not_false_eq_true, and_true, true_and]; exact h
theorem P_write {p1 p2 : Int32} {c m : St} (h : R c m) : w_X8_write p1 p2 c (fun r c' => w_X9_write p1 p2 m (fun r' m' => r = r' ∧ R c' m')) := by
  unfold w_X8_write w_X9_write
  simp only [isW, in_n2000_2000]
  by_cases h1 : (-2000 : Int32) ≤ p1 ∧ p1 ≤ 2000
  · by_cases h2 : (-2000 : Int32) ≤ p2 ∧ p2 ≤ 2000
    · simp only [if_pos h1, if_pos h2, b0, b0', b1, b1', true_implies, not_true_eq_false, false_implies, not_false_eq_true, and_true, true_and]
      obtain ⟨s, t, b, hs, ht, hb, q1, q2, ⟨s1, s2, s3⟩⟩ := h.2.2.2.1
      unfold w_X5_addToBook
      by_cases hf : b < 15
      · refine C_put_ok s1 hf (by decide) ?_
        refine ⟨fun z => absurd z (by decide), fun _ => ?_⟩
        rintro _ rfl
        refine ⟨Or.inr rfl, ?_⟩
        rw [s2]
        refine ⟨fun z => absurd z (by decide), fun _ => ⟨fun _ => ⟨vin rfl hf, ?_⟩, fun z => absurd z (fun z => by
          have := (nI_eq (by omega) (by decide)).mp (show nI b = nI 15 from z); omega)⟩⟩
        rintro _ rfl
        have f1 : up m 19 b p1 0 42 = nI b := by rw [up_ne (by decide)]; exact s2
        rw [cl_nI (by omega), f1]
        refine ⟨vin rfl hf, ?_⟩
        rintro _ rfl _ rfl
        have f2 : up (up m 19 b p1) 20 b p2 0 42 = nI b := by rw [up_ne (by decide), f1]
        have f3 : up (up c 41 b p1) 42 b p2 36 2 = nI b := by rw [up_ne (by decide), up_ne (by decide)]; exact s1
        rw [cl_nI (by omega), f2, f3, nI_1]
        refine ⟨by simp [up_at], R.ofNb h (fun j hj => by rw [up_ne (by omega), up_ne (by omega), up_ne (by omega)]) (fun j j1 j2 => by rw [up_ne j1, up_ne (by omega), up_ne (by omega)]) (fun k k1 k2 k3 => by simp [up_at, k3]) ?_⟩
        refine ⟨s, t, b + 1, hs, ht, by omega, by simpa [up_at] using q1, by simpa [up_at] using q2, ⟨by simp [up_at], by simp [up_at], fun k hk => ?_⟩⟩
        simp only [up_at]
        by_cases e : k = b
        · exact ⟨by simp [e], by simp [e]⟩
        · obtain ⟨g1, g2⟩ := s3 k (by omega)
          exact ⟨by simp [e, g1], by simp [e, g2]⟩
      · have hs10 : b = 15 := by omega
        subst hs10
        refine C_put_full s1 (by decide) (by decide) ?_
        refine ⟨fun _ => ?_, fun z => absurd rfl z⟩
        rintro _ rfl
        rw [show c 36 2 + (0 : Int32) = c 36 2 from Int32.add_zero _, up_same]
        refine ⟨Or.inl rfl, ?_⟩
        rw [s2]
        exact ⟨fun _ => ⟨fun z => absurd rfl z, fun _ => h⟩, fun z => absurd rfl z⟩
    · simp only [if_pos h1, if_neg h2, b0, b0', b1, b1', true_implies, not_true_eq_false, false_implies, not_false_eq_true, and_true, true_and]; exact h
  · simp only [if_neg h1, b0, b0', b1, b1', true_implies, not_true_eq_false, false_implies, not_false_eq_true, and_true, true_and]; exact h
theorem P_tail {p1 p2 p3 : Int32} {c m : St} (h : R c m) : w_X8_tail p1 p2 p3 c (fun r c' => w_X9_tail p1 p2 p3 m (fun r' m' => r = r' ∧ R c' m')) := by
  unfold w_X8_tail w_X9_tail
  simp only [isW, in_0_999, in_n9000_9000, inL p2.toInt64]
  by_cases h1 : (0 : Int32) ≤ p1 ∧ p1 ≤ 999
  · have hA : (p1.toInt64 + 1 ≤ p2.toInt64 ∧ p2.toInt64 ≤ 999) ↔ ((0 : Int32) ≤ p2 ∧ p2 ≤ 999) ∧ ¬ p2 ≤ p1 := by
      have a1 := h1.1
      have a2 := h1.2
      rw [Int32.le_iff_toInt_le] at a1 a2
      rw [Int64.le_iff_toInt_le, Int64.le_iff_toInt_le, Int32.le_iff_toInt_le, Int32.le_iff_toInt_le, Int32.le_iff_toInt_le, Int64.toInt_add, Int32.toInt_toInt64, Int32.toInt_toInt64]
      have e1 : (1 : Int64).toInt = 1 := rfl
      have e2 : (999 : Int64).toInt = 999 := rfl
      have e3 : (999 : Int32).toInt = 999 := rfl
      have e4 : (0 : Int32).toInt = 0 := rfl
      rw [e1, e2, e3, e4]
      rw [e3] at a2
      rw [e4] at a1
      have eb : (p1.toInt + 1).bmod (2 ^ 64) = p1.toInt + 1 := Int.bmod_eq_of_le (by omega) (by omega)
      rw [eb]
      omega
    simp only [hA]
    by_cases h2 : (0 : Int32) ≤ p2 ∧ p2 ≤ 999
    · by_cases h3 : p2 ≤ p1
      · simp only [if_pos h1, if_pos h2, h3, b0, b0', b1, b1', true_implies, not_true_eq_false, false_implies, not_false_eq_true, and_true, true_and, and_false, if_false]; exact h
      · by_cases h4 : (-9000 : Int32) ≤ p3 ∧ p3 ≤ 9000
        · simp only [if_pos h1, if_pos h2, if_pos h4, h3, h2, b0, b0', b1, b1', true_implies, not_true_eq_false, false_implies, not_false_eq_true, and_true, true_and, and_self, if_true]
          obtain ⟨s, t, b, hs, ht, hb, q1, ⟨s1, s2, s3⟩, q2⟩ := h.2.2.2.1
          unfold w_X5_addTail
          by_cases hf : t < 6
          · refine C_put_ok s1 hf (by decide) ?_
            refine ⟨fun z => absurd z (by decide), fun _ => ?_⟩
            rintro _ rfl
            refine ⟨Or.inr rfl, ?_⟩
            rw [s2]
            refine ⟨fun z => absurd z (by decide), fun _ => ⟨fun _ => ⟨vin rfl hf, ?_⟩, fun z => absurd z (fun z => by
              have := (nI_eq (by omega) (by decide)).mp (show nI t = nI 6 from z); omega)⟩⟩
            rintro _ rfl
            have f1 : up m 16 t p1 0 38 = nI t := by rw [up_ne (by decide)]; exact s2
            rw [cl_nI (by omega), f1]
            refine ⟨vin rfl hf, ?_⟩
            rintro _ rfl
            have f2 : up (up m 16 t p1) 17 t p2 0 38 = nI t := by rw [up_ne (by decide), f1]
            rw [cl_nI (by omega), f2]
            refine ⟨vin rfl hf, ?_⟩
            rintro _ rfl _ rfl
            have f3 : up (up (up m 16 t p1) 17 t p2) 18 t p3 0 38 = nI t := by rw [up_ne (by decide), f2]
            have f4 : up (up c 39 t (p2 - p1)) 40 t p3 36 1 = nI t := by rw [up_ne (by decide), up_ne (by decide)]; exact s1
            rw [cl_nI (by omega), f3, f4, nI_1]
            refine ⟨by simp [up_at], R.ofNb h (fun j hj => by rw [up_ne (by omega), up_ne (by omega), up_ne (by omega)]) (fun j j1 j2 => by rw [up_ne j1, up_ne (by omega), up_ne (by omega), up_ne (by omega)]) (fun k k1 k2 k3 => by simp [up_at, k2]) ?_⟩
            refine ⟨s, t + 1, b, hs, by omega, hb, by simpa [up_at] using q1, ⟨by simp [up_at], by simp [up_at], fun k hk => ?_⟩, by simpa [up_at] using q2⟩
            simp only [up_at]
            by_cases e : k = t
            · exact ⟨by simp [e], by simp [e]⟩
            · obtain ⟨g1, g2⟩ := s3 k (by omega)
              exact ⟨by simp [e, g1], by simp [e, g2]⟩
          · have hs10 : t = 6 := by omega
            subst hs10
            refine C_put_full s1 (by decide) (by decide) ?_
            refine ⟨fun _ => ?_, fun z => absurd rfl z⟩
            rintro _ rfl
            rw [show c 36 1 + (0 : Int32) = c 36 1 from Int32.add_zero _, up_same]
            refine ⟨Or.inl rfl, ?_⟩
            rw [s2]
            exact ⟨fun _ => ⟨fun z => absurd rfl z, fun _ => h⟩, fun z => absurd rfl z⟩
        · simp only [if_pos h1, if_pos h2, if_neg h4, h3, h2, b0, b0', b1, b1', true_implies, not_true_eq_false, false_implies, not_false_eq_true, and_true, true_and, and_self, if_true]; exact h
    · simp only [if_pos h1, if_neg h2, h2, b0, b0', b1, b1', true_implies, not_true_eq_false, false_implies, not_false_eq_true, and_true, true_and, false_and, if_false]; exact h
  · simp only [if_neg h1, b0, b0', b1, b1', true_implies, not_true_eq_false, false_implies, not_false_eq_true, and_true, true_and]; exact h
theorem P_worm {p : Int32} {c m : St} (h : R c m) : w_X8_worm p c (fun r c' => w_X9_worm p m (fun r' m' => r = r' ∧ R c' m')) := by
  unfold w_X8_worm w_X9_worm
  simp only [isW, in_0_v]
  have e4 : c 3 4 = m 0 4 := h.1.2.2.1.1
  obtain ⟨b, hb1, hb2, eb⟩ := h.wlM
  rw [e4, eb]
  have es : nI b - (1 : Int32) = nI (b - 1) := pk_sub (b := 1) hb1
  rw [es]
  by_cases hp : (0 : Int32) ≤ p ∧ p ≤ nI (b - 1)
  · simp only [if_pos hp, b0, b0', b1, b1', true_implies, not_true_eq_false, false_implies, not_false_eq_true, and_true, true_and]
    obtain ⟨a, ha, rfl⟩ := nI_of2 (M := nI (b - 1)) (n := b - 1) (nI_toInt (by omega)) (Int32.not_lt.mpr hp.1) hp.2
    refine C_wormAt rfl (by omega) ⟨vin rfl (by omega), ?_⟩
    rw [cl_nI (by omega)]
    refine ⟨?_, h⟩
    rw [h.1.2.2.2.2.2.2.1 a (by rw [eb, cl_nI (by omega)]; omega)]
  · simp only [if_neg hp, b0, b0', b1, b1', true_implies, not_true_eq_false, false_implies, not_false_eq_true, and_true, true_and]; exact h
theorem C_hairsOf {j : Nat} {p : Int32} {k : Nat} {σ : St} {Post : Int32 → St → Prop} (hp : p = nI k) (hk : k < 6) (h : Post (σ (j + 2) k) σ) : w_X3_hairsOf j p σ Post := by
  subst hp
  refine ⟨fun c => absurd c (nI_pos (by omega)), fun _ => ⟨fun c => absurd c (nI_ge hk (by decide)), fun _ => ⟨vp_in_nI hk (by decide), ?_⟩⟩⟩
  rw [nI_clamp (by omega)]
  exact h
theorem C_lightOf {j : Nat} {p : Int32} {k : Nat} {σ : St} {Post : Int32 → St → Prop} (hp : p = nI k) (hk : k < 6) (h : Post (σ (j + 3) k) σ) : w_X3_lightOf j p σ Post := by
  subst hp
  refine ⟨fun c => absurd c (nI_pos (by omega)), fun _ => ⟨fun c => absurd c (nI_ge hk (by decide)), fun _ => ⟨vp_in_nI hk (by decide), ?_⟩⟩⟩
  rw [nI_clamp (by omega)]
  exact h
theorem P_star {p1 p2 : Int32} {c m : St} (h : R c m) : w_X8_star p1 p2 c (fun r c' => w_X9_star p1 p2 m (fun r' m' => r = r' ∧ R c' m')) := by
  unfold w_X8_star w_X9_star
  simp only [isW, in_0_v]
  obtain ⟨n, hn, e1, e2, e3⟩ := h.1.2.2.2.2.2.1
  rw [e1, e2]
  by_cases hp : (0 : Int32) ≤ p1 ∧ p1 ≤ nI n - 1
  · have hn0 : 1 ≤ n := by
      rcases Nat.lt_or_ge n 1 with q | q
      · have : n = 0 := by omega
        subst this
        exact absurd (show (0 : Int32) ≤ nI 0 - 1 by
          have := hp.1; have := hp.2
          rw [Int32.le_iff_toInt_le] at *
          omega) (by decide)
      · exact q
    have es : nI n - (1 : Int32) = nI (n - 1) := pk_sub (b := 1) hn0
    have hp2 := hp
    rw [es] at hp2
    obtain ⟨a, ha, rfl⟩ := nI_of2 (M := nI (n - 1)) (n := n - 1) (nI_toInt (by omega)) (Int32.not_lt.mpr hp2.1) hp2.2
    obtain ⟨g1, g2⟩ := e3 a (by omega)
    by_cases hw : (0 : Int32) ≤ p2 ∧ p2 ≤ 1
    · obtain ⟨w, hw2, rfl⟩ := nI_of2 (M := 1) (n := 1) rfl (Int32.not_lt.mpr hw.1) hw.2
      have : w = 0 ∨ w = 1 := by omega
      rcases this with rfl | rfl
      · simp only [if_pos hp, if_pos hw, b0, b0', b1, b1', true_implies, not_true_eq_false, false_implies, not_false_eq_true, and_true, true_and]
        refine ⟨fun z => absurd rfl z, fun _ => C_hairsOf rfl (by omega) ⟨fun z => absurd rfl z, fun _ => ⟨vin rfl (by omega), ?_⟩⟩⟩
        rw [cl_nI (by omega)]
        exact ⟨g1, h⟩
      · simp only [if_pos hp, if_pos hw, b0, b0', b1, b1', true_implies, not_true_eq_false, false_implies, not_false_eq_true, and_true, true_and]
        refine ⟨fun _ => C_lightOf rfl (by omega) ⟨fun _ => ⟨fun z => absurd rfl z, fun _ => ⟨vin rfl (by omega), ?_⟩⟩, fun z => absurd z (by decide)⟩, fun z => absurd z (by decide)⟩
        rw [cl_nI (by omega)]
        exact ⟨g2, h⟩
    · simp only [if_pos hp, if_neg hw, b0, b0', b1, b1', true_implies, not_true_eq_false, false_implies, not_false_eq_true, and_true, true_and]
      refine ⟨fun _ => ⟨fun _ => h, fun z => ?_⟩, fun z => ?_⟩
      · exact absurd ⟨by rw [z]; decide, by rw [z]; decide⟩ hw
      · exact absurd ⟨by rw [z]; decide, by rw [z]; decide⟩ hw
  · simp only [if_neg hp, b0, b0', b1, b1', true_implies, not_true_eq_false, false_implies, not_false_eq_true, and_true, true_and]; exact h
