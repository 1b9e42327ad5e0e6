/-! ===== pure: the pairs ===== -/
theorem in_g {L H : Int64} {lo hi : Int32} (h1 : lo.toInt64 = L) (h2 : hi.toInt64 = H) (p : Int32) (σ : St) (K : Int32 → St → Prop) : w_X9_in p.toInt64 L H σ K ↔ K (if lo ≤ p ∧ p ≤ hi then 1 else 0) σ := by subst h1; subst h2; exact inM p lo hi σ K
theorem in_0_255 (p : Int32) (σ : St) (K : Int32 → St → Prop) : w_X9_in p.toInt64 (0 : Int64) (255 : Int64) σ K ↔ K (if (0 : Int32) ≤ p ∧ p ≤ (255 : Int32) then 1 else 0) σ := in_g (by decide) (by decide) p σ K
theorem in_0_1 (p : Int32) (σ : St) (K : Int32 → St → Prop) : w_X9_in p.toInt64 (0 : Int64) (1 : Int64) σ K ↔ K (if (0 : Int32) ≤ p ∧ p ≤ (1 : Int32) then 1 else 0) σ := in_g (by decide) (by decide) p σ K
theorem in_0_99 (p : Int32) (σ : St) (K : Int32 → St → Prop) : w_X9_in p.toInt64 (0 : Int64) (99 : Int64) σ K ↔ K (if (0 : Int32) ≤ p ∧ p ≤ (99 : Int32) then 1 else 0) σ := in_g (by decide) (by decide) p σ K
theorem in_0_20 (p : Int32) (σ : St) (K : Int32 → St → Prop) : w_X9_in p.toInt64 (0 : Int64) (20 : Int64) σ K ↔ K (if (0 : Int32) ≤ p ∧ p ≤ (20 : Int32) then 1 else 0) σ := in_g (by decide) (by decide) p σ K
theorem in_1_99 (p : Int32) (σ : St) (K : Int32 → St → Prop) : w_X9_in p.toInt64 (1 : Int64) (99 : Int64) σ K ↔ K (if (1 : Int32) ≤ p ∧ p ≤ (99 : Int32) then 1 else 0) σ := in_g (by decide) (by decide) p σ K
theorem in_n99_99 (p : Int32) (σ : St) (K : Int32 → St → Prop) : w_X9_in p.toInt64 (-99 : Int64) (99 : Int64) σ K ↔ K (if (-99 : Int32) ≤ p ∧ p ≤ (99 : Int32) then 1 else 0) σ := in_g (by decide) (by decide) p σ K
theorem in_0_999 (p : Int32) (σ : St) (K : Int32 → St → Prop) : w_X9_in p.toInt64 (0 : Int64) (999 : Int64) σ K ↔ K (if (0 : Int32) ≤ p ∧ p ≤ (999 : Int32) then 1 else 0) σ := in_g (by decide) (by decide) p σ K
theorem in_1_200 (p : Int32) (σ : St) (K : Int32 → St → Prop) : w_X9_in p.toInt64 (1 : Int64) (200 : Int64) σ K ↔ K (if (1 : Int32) ≤ p ∧ p ≤ (200 : Int32) then 1 else 0) σ := in_g (by decide) (by decide) p σ K
theorem in_1_60 (p : Int32) (σ : St) (K : Int32 → St → Prop) : w_X9_in p.toInt64 (1 : Int64) (60 : Int64) σ K ↔ K (if (1 : Int32) ≤ p ∧ p ≤ (60 : Int32) then 1 else 0) σ := in_g (by decide) (by decide) p σ K
theorem in_1_20 (p : Int32) (σ : St) (K : Int32 → St → Prop) : w_X9_in p.toInt64 (1 : Int64) (20 : Int64) σ K ↔ K (if (1 : Int32) ≤ p ∧ p ≤ (20 : Int32) then 1 else 0) σ := in_g (by decide) (by decide) p σ K
theorem in_0_9999 (p : Int32) (σ : St) (K : Int32 → St → Prop) : w_X9_in p.toInt64 (0 : Int64) (9999 : Int64) σ K ↔ K (if (0 : Int32) ≤ p ∧ p ≤ (9999 : Int32) then 1 else 0) σ := in_g (by decide) (by decide) p σ K
theorem in_1_9 (p : Int32) (σ : St) (K : Int32 → St → Prop) : w_X9_in p.toInt64 (1 : Int64) (9 : Int64) σ K ↔ K (if (1 : Int32) ≤ p ∧ p ≤ (9 : Int32) then 1 else 0) σ := in_g (by decide) (by decide) p σ K
theorem in_0_100 (p : Int32) (σ : St) (K : Int32 → St → Prop) : w_X9_in p.toInt64 (0 : Int64) (100 : Int64) σ K ↔ K (if (0 : Int32) ≤ p ∧ p ≤ (100 : Int32) then 1 else 0) σ := in_g (by decide) (by decide) p σ K
theorem in_n150_150 (p : Int32) (σ : St) (K : Int32 → St → Prop) : w_X9_in p.toInt64 (-150 : Int64) (150 : Int64) σ K ↔ K (if (-150 : Int32) ≤ p ∧ p ≤ (150 : Int32) then 1 else 0) σ := in_g (by decide) (by decide) p σ K
theorem in_n9000_9000 (p : Int32) (σ : St) (K : Int32 → St → Prop) : w_X9_in p.toInt64 (-9000 : Int64) (9000 : Int64) σ K ↔ K (if (-9000 : Int32) ≤ p ∧ p ≤ (9000 : Int32) then 1 else 0) σ := in_g (by decide) (by decide) p σ K
theorem in_n2000_2000 (p : Int32) (σ : St) (K : Int32 → St → Prop) : w_X9_in p.toInt64 (-2000 : Int64) (2000 : Int64) σ K ↔ K (if (-2000 : Int32) ≤ p ∧ p ≤ (2000 : Int32) then 1 else 0) σ := in_g (by decide) (by decide) p σ K
theorem in_48_57 (p : Int32) (σ : St) (K : Int32 → St → Prop) : w_X9_in p.toInt64 (48 : Int64) (57 : Int64) σ K ↔ K (if (48 : Int32) ≤ p ∧ p ≤ (57 : Int32) then 1 else 0) σ := in_g (by decide) (by decide) p σ K
theorem in_0_v (p hi : Int32) (σ : St) (K : Int32 → St → Prop) : w_X9_in p.toInt64 (0 : Int64) hi.toInt64 σ K ↔ K (if (0 : Int32) ≤ p ∧ p ≤ hi then 1 else 0) σ := in_g (by decide) rfl p σ K
theorem b1 {A B : Prop} : (((1 : Int32) = 0 → A) ∧ (¬ (1 : Int32) = 0 → B)) ↔ B := ⟨fun h => h.2 (by decide), fun h => ⟨fun c => absurd c (by decide), fun _ => h⟩⟩
theorem b1' {A B : Prop} : ((¬ (1 : Int32) = 0 → B) ∧ ((1 : Int32) = 0 → A)) ↔ B := ⟨fun h => h.1 (by decide), fun h => ⟨fun _ => h, fun c => absurd c (by decide)⟩⟩
theorem b0 {A B : Prop} : (((0 : Int32) = 0 → A) ∧ (¬ (0 : Int32) = 0 → B)) ↔ A := ⟨fun h => h.1 rfl, fun h => ⟨fun _ => h, fun c => absurd rfl c⟩⟩
theorem b0' {A B : Prop} : ((¬ (0 : Int32) = 0 → B) ∧ ((0 : Int32) = 0 → A)) ↔ A := ⟨fun h => h.2 rfl, fun h => ⟨fun c => absurd rfl c, fun _ => h⟩⟩
theorem bT {P A B : Prop} (h : P) : ((P → A) ∧ (¬ P → B)) ↔ A := ⟨fun q => q.1 h, fun q => ⟨fun _ => q, fun c => absurd h c⟩⟩
theorem bT' {P A B : Prop} (h : P) : ((¬ P → B) ∧ (P → A)) ↔ A := ⟨fun q => q.2 h, fun q => ⟨fun c => absurd h c, fun _ => q⟩⟩
theorem bF {P A B : Prop} (h : ¬ P) : ((P → A) ∧ (¬ P → B)) ↔ B := ⟨fun q => q.2 h, fun q => ⟨fun c => absurd c h, fun _ => q⟩⟩
theorem bF' {P A B : Prop} (h : ¬ P) : ((¬ P → B) ∧ (P → A)) ↔ B := ⟨fun q => q.1 h, fun q => ⟨fun _ => q, fun c => absurd c h⟩⟩
theorem R.ofTx {c m c' m' : St} (h : R c m) (h1 : ∀ j, j ≠ 1 → j ≠ 2 → c' j = c j) (h2 : ∀ j, j ≠ 0 → j ≠ 5 → m' j = m j) (h4 : ∀ k, k ≠ 15 → m' 0 k = m 0 k) (hT : RTx c' m') : R c' m' := by
  obtain ⟨a1, a2, a3, a4, a5, a6, a7⟩ := h
  exact ⟨a1.congr (fun j _ _ => h1 j (by omega) (by omega)) (fun j _ _ => h2 j (by omega) (by omega)) (fun k _ => h4 k (by omega)), by rw [h1 11 (by decide) (by decide), h2 4 (by decide) (by decide)]; exact a2,
    a3.congr (h1 14 (by decide) (by decide)) (fun j _ _ => h1 j (by omega) (by omega)) (h2 12 (by decide) (by decide)) (h4 31 (by decide)),
    a4.congr (fun j _ _ => h1 j (by omega) (by omega)) (fun j _ _ => h2 j (by omega) (by omega)) (h4 35 (by decide)) (h4 38 (by decide)) (h4 42 (by decide)),
    a5.congr (fun j _ _ => h1 j (by omega) (by omega)) (h2 21 (by decide) (by decide)) (h2 22 (by decide) (by decide)), hT, by rw [h1 43 (by decide) (by decide), h4 13 (by decide)]; exact a7⟩
theorem R.ofNb {c m c' m' : St} (h : R c m) (h1 : ∀ j, ¬ (36 ≤ j ∧ j ≤ 42) → c' j = c j) (h2 : ∀ j, j ≠ 0 → ¬ (14 ≤ j ∧ j ≤ 20) → m' j = m j) (h4 : ∀ k, k ≠ 35 → k ≠ 38 → k ≠ 42 → m' 0 k = m 0 k) (hB : RNb c' m') : R c' m' := by
  obtain ⟨a1, a2, a3, a4, a5, a6, a7⟩ := h
  exact ⟨a1.congr (fun j _ _ => h1 j (by omega)) (fun j _ _ => h2 j (by omega) (by omega)) (fun k _ => h4 k (by omega) (by omega) (by omega)), by rw [h1 11 (by decide), h2 4 (by decide) (by decide)]; exact a2,
    a3.congr (h1 14 (by decide)) (fun j _ _ => h1 j (by omega)) (h2 12 (by decide) (by decide)) (h4 31 (by decide) (by decide) (by decide)), hB,
    a5.congr (fun j _ _ => h1 j (by omega)) (h2 21 (by decide) (by decide)) (h2 22 (by decide) (by decide)),
    a6.congr (by rw [h1 1 (by decide)]) (by rw [h1 1 (by decide)]) (h1 2 (by decide)) (h2 5 (by decide) (by decide)) (h4 15 (by decide) (by decide) (by decide)) (h4 16 (by decide) (by decide) (by decide)), by rw [h1 43 (by decide), h4 13 (by decide) (by decide) (by decide)]; exact a7⟩
/-- the pair of a call: the same answer, and the two systems alike again -/
abbrev QQ (c : St) (r : Int32) (m : St) (r' : Int32) : Prop := r = r' ∧ R c m
theorem P_feed {p : Int32} {c m : St} (h : R c m) : w_X8_feed p c (fun r c' => w_X9_feed p m (fun r' m' => r = r' ∧ R c' m')) := by
  unfold w_X8_feed w_X9_feed
  simp only [isW, in_0_255]
  by_cases hp : 0 ≤ p ∧ p ≤ 255
  · simp only [if_pos hp, b0, b0', b1, b1', true_implies, not_true_eq_false, false_implies, not_false_eq_true, and_true, true_and]
    obtain ⟨⟨n, hn, e1, e2, hk⟩, e3⟩ := h.2.2.2.2.2.1
    unfold w_X6_addLetter
    rw [e1]
    refine ⟨fun q => absurd q (nI_pos (by omega)), fun _ => ⟨fun q => ?_, fun q => ?_⟩⟩
    · have hlt : n < 230 := (nI_ltI (by omega) (by decide)).mp q
      refine ⟨vp_in_nI hlt (by decide), ?_⟩
      rintro _ rfl _ rfl
      rw [b1, e2]
      refine ⟨fun _ => ⟨vp_in_nI hlt (by decide), ?_⟩, fun z => absurd z (fun z => by
        have := (nI_eq (by omega) (by decide)).mp (show nI n = nI 230 from z); omega)⟩
      rintro _ rfl _ rfl
      rw [cl_nI (by omega)]
      have f1 : up c 2 n p 1 0 = nI n := by rw [up_ne (by decide)]; exact e1
      have f2 : up m 5 n p 0 15 = nI n := by rw [up_ne (by decide)]; exact e2
      rw [f1, f2, nI_1]
      refine ⟨by simp [up_at], R.ofTx h (fun j j1 j2 => by rw [up_ne j1, up_ne j2]) (fun j j1 j2 => by rw [up_ne j1, up_ne j2]) (fun k k1 => by simp [up_at, k1]) ?_⟩
      refine ⟨⟨n + 1, by omega, by simp [up_at], by simp [up_at], fun k hk2 => ?_⟩, by simp [up_at, e3]⟩
      simp only [up_at]
      by_cases e : k = n
      · obtain ⟨a, ha, hpa⟩ := nI_of2 (M := 255) (n := 255) rfl (Int32.not_lt.mpr hp.1) hp.2
        exact ⟨by simp [e], a, ha, by simp [e, hpa]⟩
      · obtain ⟨g1, g2⟩ := hk k (by omega)
        exact ⟨by simp [e, g1], by simpa [e] using g2⟩
    · have hge : n = 230 := by
        rcases Nat.lt_or_ge n 230 with z | z
        · exact absurd (nI_lt z (by decide)) q
        · omega
      subst hge
      refine ⟨fun _ => ?_, fun z => absurd rfl z⟩
      rw [e2]
      exact ⟨fun z => absurd rfl z, fun _ => h⟩
  · simp only [if_neg hp, b0, b0', b1, b1', true_implies, not_true_eq_false, false_implies, not_false_eq_true, and_true, true_and]
    exact h
theorem P_fault {c m : St} (h : R c m) : w_X8_fault c (fun r c' => w_X9_fault m (fun r' m' => r = r' ∧ R c' m')) := ⟨h.2.2.2.2.2.1.2, h⟩
theorem P_seed {p : Int32} {c m : St} (h : R c m) : w_X8_seed p c (fun r c' => w_X9_seed p m (fun r' m' => r = r' ∧ R c' m')) := by
  refine ⟨fun q => ?_, fun q => ?_⟩
  · rintro _ rfl _ rfl
    refine ⟨fun _ => ?_, fun z => absurd q z⟩
    rintro _ rfl _ rfl
    refine ⟨h.2.2.2.2.2.2, R.act h (fun j _ _ _ _ j5 _ => up_ne j5) (fun j j1 _ _ _ => up_ne j1) (fun k _ _ k3 => by simp [up_at, k3]) ?_ ?_ (by simp [up_at])⟩
    · rw [up_ne (by decide), up_ne (by decide)]; exact h.2.1
    · exact RHi.congr h.2.2.1 (up_ne (by decide)) (fun j _ _ => up_ne (by omega)) (up_ne (by decide)) (by simp [up_at])
  · exact ⟨fun z => absurd z q, fun _ => ⟨rfl, h⟩⟩
theorem C_entryAt {a L : Nat} {p : Int32} {k : Nat} {σ : St} {Post : Int32 → St → Prop} (hp : p = nI k) (hk : k < L) (hL : L < 2 ^ 31) (h : Post (σ a k) σ) : w_X5_entryAt a L p σ Post := by
  subst hp
  refine ⟨fun c => absurd c (nI_pos (by omega)), fun _ => ⟨fun c => absurd c (nI_ge hk hL), fun _ => ⟨vp_in_nI hk hL, ?_⟩⟩⟩
  rw [nI_clamp (by omega)]
  exact h
/-- the first entry that is otherwise -/
def wrF (f g : Nat → Int32) (e n : Int32) : Nat → Nat → Int32
  | 0, _ => -1
  | j + 1, k => if f k = e ∧ g k = n then wrF f g e n j (k + 1) else nI k
theorem C_fw {c : St} {Post : Int32 → St → Prop} {e n : Int32} {b : Nat} (hb : b ≤ 15) (h0 : c 36 2 = nI b) : ∀ (j fuel k : Nat), k + j = b → j < fuel → Post (wrF (c 41) (c 42) e n j k) c → w_X5_firstWrong_L2 Post fuel e n (nI k) c := by
  intro j
  induction j with
  | zero =>
    intro fuel k h1 h2 h3
    obtain ⟨f, rfl⟩ : ∃ f, fuel = f + 1 := ⟨fuel - 1, by omega⟩
    refine ⟨fun _ => h3, fun q => absurd ?_ q⟩
    rw [h0]; exact nI_le (by omega) (by omega)
  | succ j ih =>
    intro fuel k h1 h2 h3
    obtain ⟨f, rfl⟩ : ∃ f, fuel = f + 1 := ⟨fuel - 1, by omega⟩
    refine ⟨fun q => absurd q (by rw [h0]; exact nI_ge (by omega) (by omega)), fun _ => C_entryAt rfl (by omega) (by decide) ?_⟩
    unfold wrF at h3
    refine ⟨fun q => ?_, fun q => C_entryAt rfl (by omega) (by decide) ⟨fun q2 => ?_, fun q2 => ?_⟩⟩
    · rw [if_neg (fun z => q z.1)] at h3; exact h3
    · rintro _ rfl
      rw [if_pos ⟨q, q2⟩] at h3
      rw [nI_1]
      exact ih f (k + 1) (by omega) (by omega) h3
    · rw [if_neg (fun z => q2 z.2)] at h3; exact h3
theorem M_fw {m : St} {Post : Int32 → St → Prop} {b : Nat} (hb : b ≤ 15) (h0 : m 0 42 = nI b) : ∀ (j fuel k : Nat), k + j = b → j < fuel → Post (wrF (m 19) (m 20) (m 4 1) (m 4 2) j k) m → w_X9_judge_L2 Post fuel (nI k) m := by
  intro j
  induction j with
  | zero =>
    intro fuel k h1 h2 h3
    obtain ⟨f, rfl⟩ : ∃ f, fuel = f + 1 := ⟨fuel - 1, by omega⟩
    refine ⟨fun _ => h3, fun q => absurd ?_ q⟩
    rw [h0]; exact nI_le (by omega) (by omega)
  | succ j ih =>
    intro fuel k h1 h2 h3
    obtain ⟨f, rfl⟩ : ∃ f, fuel = f + 1 := ⟨fuel - 1, by omega⟩
    refine ⟨fun q => absurd q (by rw [h0]; exact nI_ge (by omega) (by omega)), fun _ => ⟨vin rfl (by omega), ?_⟩⟩
    rw [cl_nI (by omega)]
    unfold wrF at h3
    refine ⟨fun q => ?_, fun q => ⟨vin rfl (by omega), fun q2 => ?_, fun q2 => ?_⟩⟩
    · rw [if_neg (fun z => q z.1)] at h3; exact h3
    · rintro _ rfl
      rw [if_pos ⟨q, q2⟩] at h3
      rw [nI_1]
      exact ih f (k + 1) (by omega) (by omega) h3
    · rw [if_neg (fun z => q2 z.2)] at h3; exact h3
theorem wrF_congr {f g f' g' : Nat → Int32} {e n : Int32} : ∀ (j k : Nat), (∀ i, k ≤ i → i < k + j → f i = f' i ∧ g i = g' i) → wrF f g e n j k = wrF f' g' e n j k
  | 0, _, _ => rfl
  | j + 1, k, h => by
    unfold wrF
    obtain ⟨h1, h2⟩ := h k (Nat.le_refl k) (by omega)
    rw [h1, h2, wrF_congr j (k + 1) (fun i h3 h4 => h i (by omega) (by omega))]
theorem P_judge {c m : St} (h : R c m) : w_X8_judge c (fun r c' => w_X9_judge m (fun r' m' => r = r' ∧ R c' m')) := by
  obtain ⟨s, t, b, hs, ht, hb, -, -, ⟨e1, e2, e3⟩⟩ := h.2.2.2.1
  unfold w_X8_judge w_X5_firstWrong w_X9_judge
  refine C_fw hb e1 b FU 0 (by omega) (by show b < 1100; omega) ?_
  refine M_fw hb e2 b FU 0 (by omega) (by show b < 1100; omega) ?_
  refine ⟨?_, h⟩
  rw [h.east, h.north]
  exact wrF_congr b 0 (fun i _ h4 => e3 i (by omega))
theorem P_tear {c m : St} (h : R c m) : w_X8_tear c (fun r c' => w_X9_tear m (fun r' m' => r = r' ∧ R c' m')) := by
  obtain ⟨s, t, b, hs, ht, hb, ⟨s1, s2, -⟩, ⟨t1, t2, -⟩, b1, b2, -⟩ := h.2.2.2.1
  rintro _ rfl _ rfl _ rfl _ rfl _ rfl _ rfl _ rfl _ rfl
  refine ⟨by rw [s1, s2, t1, t2, b1, b2], R.ofNb h (fun j hj => ?_) (fun j j1 _ => ?_) (fun k k1 k2 k3 => by simp [up_at, k1, k2, k3]) ?_⟩
  · rw [up_ne (by omega), up_ne (by omega), up_ne (by omega)]
  · rw [up_ne j1, up_ne j1, up_ne j1]
  · exact ⟨0, 0, 0, by omega, by omega, by omega, ⟨by simp [up_at]; rfl, by simp [up_at]; rfl, fun k hk => absurd hk (Nat.not_lt_zero k)⟩, ⟨by simp [up_at]; rfl, by simp [up_at]; rfl, fun k hk => absurd hk (Nat.not_lt_zero k)⟩, by simp [up_at]; rfl, by simp [up_at]; rfl, fun k hk => absurd hk (Nat.not_lt_zero k)⟩
