/-! ===== pure: the notebook's questions ===== -/
def toI (b : Bool) : Int32 := if b = true then 1 else 0
theorem toI_ne (b : Bool) : toI b = 0 ↔ b = false := by cases b <;> decide
theorem toI_01 (b : Bool) : toI b = 0 ∨ toI b = 1 := by cases b <;> decide
def allB (p : Nat → Bool) : Nat → Nat → Bool
  | 0, _ => true
  | j + 1, k => p k && allB p j (k + 1)
def exB (p : Nat → Bool) : Nat → Nat → Bool
  | 0, _ => false
  | j + 1, k => p k || exB p j (k + 1)
def vv (k : Nat) : Int32 := nI k - 9
theorem vv_0 : vv 0 = -9 := by decide
theorem vv_toInt {k : Nat} (h : k < 2 ^ 30) : (vv k).toInt = (k : Int) - 9 := pk_sub_toInt (b := 9) h (by decide)
theorem vv_1 (k : Nat) : vv k + 1 = vv (k + 1) := by
  unfold vv
  rw [nI_succ, Int32.sub_eq_add_neg, Int32.sub_eq_add_neg, Int32.add_assoc, Int32.add_assoc, Int32.add_comm (-9) 1]
theorem vv_9 {k : Nat} (h : k < 2 ^ 30) : (9 : Int32) < vv k ↔ 19 ≤ k := by
  rw [Int32.lt_iff_toInt_lt, vv_toInt h, show (9 : Int32).toInt = 9 by decide]; omega
theorem vv_10 {k : Nat} (h : k < 2 ^ 30) : (10 : Int32) ≤ vv k ↔ 19 ≤ k := by
  rw [Int32.le_iff_toInt_le, vv_toInt h, show (10 : Int32).toInt = 10 by decide]; omega
def okW (E S : Nat → Int32) (ja jm ck wl pl v : Int32) (k : Nat) : Bool := !(decide (E k - E k / wl * wl = pl)) || decide (S k = ck + v + (if E k = ja then jm else 0))
def NBc (c : St) (E S : Nat → Int32) (s : Nat) (ja jm ck : Int32) : Prop := c 36 0 = nI s ∧ s ≤ 10 ∧ (∀ k, k < s → c 37 k = E k ∧ c 38 k = S k) ∧ c 3 5 = ja ∧ c 3 6 = jm ∧ c 3 1 = ck
def NBm (m : St) (E S : Nat → Int32) (s : Nat) (ja jm ck : Int32) : Prop := m 0 35 = nI s ∧ s ≤ 10 ∧ m 14 = E ∧ m 15 = S ∧ m 0 6 = ja ∧ m 0 7 = jm ∧ m 0 1 = ck
theorem C_wf {E S : Nat → Int32} {s : Nat} {ja jm ck wl pl v : Int32} {Post : Int32 → St → Prop} {c : St} (hc : NBc c E S s ja jm ck) (hw : wlOK wl) :
    ∀ (j fuel k : Nat), k + j = s → j < fuel → Post (toI (allB (okW E S ja jm ck wl pl v) j k)) c → w_X5_isWormFit_L3 Post fuel wl pl v (nI k) c := by
  obtain ⟨c1, c2, c3, c4, c5, c6⟩ := hc
  intro j
  induction j with
  | zero =>
    intro fuel k h1 h2 h3
    obtain ⟨fl, rfl⟩ : ∃ z, fuel = z + 1 := ⟨fuel - 1, by omega⟩
    exact ⟨fun _ => h3, fun q => absurd (by rw [c1]; exact nI_le (by omega) (by omega)) q⟩
  | succ j ih =>
    intro fuel k h1 h2 h3
    obtain ⟨fl, rfl⟩ : ∃ z, fuel = z + 1 := ⟨fuel - 1, by omega⟩
    unfold allB at h3
    obtain ⟨e1, e2⟩ := c3 k (by omega)
    have nx : okW E S ja jm ck wl pl v k = true → w_X5_isWormFit_J61 (w_X5_isWormFit_L3 Post fl) Post wl pl v (nI k) c := by
      rintro q _ rfl
      rw [nI_1]
      refine ih fl (k + 1) (by omega) (by omega) ?_
      rw [q, Bool.true_and] at h3; exact h3
    have st : okW E S ja jm ck wl pl v k = false → Post (0 : Int32) c := by
      intro q
      rw [q, Bool.false_and] at h3; exact h3
    unfold okW at nx st
    refine ⟨fun q => absurd q (by rw [c1]; exact nI_ge (by omega) (by omega)), fun _ => C_entryAt rfl (by omega) (by decide) ⟨fun q => absurd q (wl_le hw), fun _ => ⟨wl_ne hw, ?_⟩⟩⟩
    rw [e1]
    refine ⟨fun q => nx (by simp [q]), fun q => C_entryAt rfl (by omega) (by decide) ?_⟩
    rw [e2]
    have jj : ∀ x : Int32, x = (if E k = ja then jm else 0) → (S k = ((c 3 1 + v) + x) → w_X5_isWormFit_J61 (w_X5_isWormFit_L3 Post fl) Post wl pl v (nI k) c) ∧ (¬ S k = ((c 3 1 + v) + x) → Post (0 : Int32) c) := by
      rintro x rfl
      rw [c6]
      exact ⟨fun y => nx (by simp [y]), fun y => st (by simp [q, y])⟩
    refine ⟨fun y => jj 0 ?_, fun y => jj _ ?_⟩
    · rw [c4] at y; rw [if_neg y]
    · rw [c4] at y; rw [c5, if_pos y]
theorem M_dft {E S : Nat → Int32} {s : Nat} {ja jm ck wl pl v : Int32} {Post : Int32 → St → Prop} {m : St} (hm : NBm m E S s ja jm ck) (hw : wlOK wl) :
    ∀ (j fuel k : Nat) (b : Bool), k + j = s → j < fuel → Post (toI (b && allB (okW E S ja jm ck wl pl v) j k)) m → w_X9_doesFit_L6 Post fuel pl wl v (toI b) (nI k) m := by
  obtain ⟨c1, c2, c3, c3', c4, c5, c6⟩ := hm
  intro j
  induction j with
  | zero =>
    intro fuel k b h1 h2 h3
    obtain ⟨fl, rfl⟩ : ∃ z, fuel = z + 1 := ⟨fuel - 1, by omega⟩
    unfold allB at h3
    rw [Bool.and_true] at h3
    exact ⟨fun _ => ⟨toI_01 b, h3⟩, fun q => absurd (by rw [c1]; exact nI_le (by omega) (by omega)) q⟩
  | succ j ih =>
    intro fuel k b h1 h2 h3
    obtain ⟨fl, rfl⟩ : ∃ z, fuel = z + 1 := ⟨fuel - 1, by omega⟩
    unfold allB at h3
    have nx : ∀ b' : Bool, b' = (b && okW E S ja jm ck wl pl v k) → w_X9_doesFit_J66 (w_X9_doesFit_L6 Post fl) Post pl wl v (nI k) (toI b') m := by
      rintro b' rfl _ rfl
      rw [nI_1]
      refine ih fl (k + 1) _ (by omega) (by omega) ?_
      rw [Bool.and_assoc]; exact h3
    have n1 : okW E S ja jm ck wl pl v k = true → b = true → w_X9_doesFit_J61 (w_X9_doesFit_L6 Post fl) Post pl wl v (nI k) m := fun q1 q2 => nx true (by rw [q1, q2]; rfl)
    have n0 : (okW E S ja jm ck wl pl v k = false ∨ b = false) → w_X9_doesFit_J65 (w_X9_doesFit_L6 Post fl) Post pl wl v (nI k) m := fun q => nx false (by cases q with | inl q => rw [q, Bool.and_false] | inr q => rw [q, Bool.false_and])
    unfold okW at n1 n0
    refine ⟨fun q => absurd q (by rw [c1]; exact nI_ge (by omega) (by omega)), fun _ => ⟨fun q => n0 (Or.inr ((toI_ne b).mp q)), fun q => ⟨vp_in_nI (by omega) (by decide), wl_ne hw, ?_⟩⟩⟩
    have hb : b = true := by cases b with
      | true => rfl
      | false => exact absurd rfl q
    rw [nI_clamp (by omega), c3, c3']
    refine ⟨fun y => n1 (by simp [y]) hb, fun y => ⟨vp_in_nI (by omega) (by decide), vp_in_nI (by omega) (by decide), ?_⟩⟩
    have jj : ∀ x : Int32, x = (if E k = ja then jm else 0) → (¬ S k = ((m 0 1 + v) + x) → w_X9_doesFit_J65 (w_X9_doesFit_L6 Post fl) Post pl wl v (nI k) m) ∧ (S k = ((m 0 1 + v) + x) → w_X9_doesFit_J61 (w_X9_doesFit_L6 Post fl) Post pl wl v (nI k) m) := by
      rintro x rfl
      rw [c6]
      exact ⟨fun z => n0 (Or.inl (by simp [y, z])), fun z => n1 (by simp [z]) hb⟩
    refine ⟨fun z => jj 0 ?_, fun z => jj _ ?_⟩
    · rw [c4] at z; rw [if_neg z]
    · rw [c4] at z; rw [c5, if_pos z]
def ftF (p : Nat → Bool) : Nat → Nat → Int32 → Int32 → Int32 × Int32
  | 0, _, n, r => (n, r)
  | j + 1, k, n, r => if p k = true then ftF p j (k + 1) (n + 1) (if n = 0 then vv k + 9 else r) else ftF p j (k + 1) n r
theorem C_ft {E S : Nat → Int32} {s : Nat} {ja jm ck pl y : Int32} {Post : Int32 → St → Prop} {c : St} (hc : NBc c E S s ja jm ck) (hw : wlOK (c 3 4)) :
    ∀ (j fuel k : Nat) (n r : Int32), k + j = 19 → j < fuel → Post (if y = 0 then (ftF (fun k => allB (okW E S ja jm ck (c 3 4) pl (vv k)) s 0) j k n r).1 else (ftF (fun k => allB (okW E S ja jm ck (c 3 4) pl (vv k)) s 0) j k n r).2) c → w_X8_fits_L38 Post fuel pl y n r (vv k) c := by
  intro j
  induction j with
  | zero =>
    intro fuel k n r h1 h2 h3
    obtain ⟨fl, rfl⟩ : ∃ z, fuel = z + 1 := ⟨fuel - 1, by omega⟩
    refine ⟨fun _ => ⟨fun q => ?_, fun q => ?_⟩, fun q => absurd ((vv_9 (by omega)).mpr (by omega)) q⟩
    · rw [if_neg q] at h3; exact h3
    · rw [if_pos q] at h3; exact h3
  | succ j ih =>
    intro fuel k n r h1 h2 h3
    obtain ⟨fl, rfl⟩ : ∃ z, fuel = z + 1 := ⟨fuel - 1, by omega⟩
    refine ⟨fun q => absurd ((vv_9 (by omega)).mp q) (by omega), fun _ => C_wf hc hw s FU 0 (by omega) (by have := hc.2.1; show s < 1100; omega) ?_⟩
    unfold ftF at h3
    have g : ∀ n' r' : Int32, Post (if y = 0 then (ftF (fun k => allB (okW E S ja jm ck (c 3 4) pl (vv k)) s 0) j (k + 1) n' r').1 else (ftF (fun k => allB (okW E S ja jm ck (c 3 4) pl (vv k)) s 0) j (k + 1) n' r').2) c → w_X8_fits_J88 (w_X8_fits_L38 Post fl) Post pl y n' r' (vv k) c := by
      rintro n' r' hp _ rfl
      rw [vv_1]
      exact ih fl (k + 1) n' r' (by omega) (by omega) hp
    by_cases z : allB (okW E S ja jm ck (c 3 4) pl (vv k)) s 0 = true
    · simp only [if_pos z] at h3
      rw [z]
      refine ⟨fun q => absurd q (by decide), fun _ => ⟨fun q => ?_, fun q => ?_⟩⟩
      · rintro _ rfl
        rw [if_neg q] at h3; exact g _ _ h3
      · rintro _ rfl
        rw [if_pos q] at h3; exact g _ _ h3
    · simp only [if_neg z] at h3
      rw [Bool.not_eq_true] at z
      rw [z]
      exact ⟨fun _ => g _ _ h3, fun q => absurd rfl q⟩
theorem M_ft {E S : Nat → Int32} {s : Nat} {ja jm ck pl y : Int32} {Post : Int32 → St → Prop} {m : St} (hm : NBm m E S s ja jm ck) (hw : wlOK (m 0 4)) :
    ∀ (j fuel k : Nat) (n r : Int32), k + j = 19 → j < fuel → Post (if y = 0 then (ftF (fun k => allB (okW E S ja jm ck (m 0 4) pl (vv k)) s 0) j k n r).1 else (ftF (fun k => allB (okW E S ja jm ck (m 0 4) pl (vv k)) s 0) j k n r).2) m → w_X9_fits_L38 Post fuel pl y n r (vv k) m := by
  intro j
  induction j with
  | zero =>
    intro fuel k n r h1 h2 h3
    obtain ⟨fl, rfl⟩ : ∃ z, fuel = z + 1 := ⟨fuel - 1, by omega⟩
    refine ⟨fun _ => ⟨fun q => ?_, fun q => ?_⟩, fun q => absurd ((vv_10 (by omega)).mpr (by omega)) q⟩
    · rw [if_neg q] at h3; exact h3
    · rw [if_pos q] at h3; exact h3
  | succ j ih =>
    intro fuel k n r h1 h2 h3
    obtain ⟨fl, rfl⟩ : ∃ z, fuel = z + 1 := ⟨fuel - 1, by omega⟩
    refine ⟨fun q => absurd ((vv_10 (by omega)).mp q) (by omega), fun _ => M_dft hm hw s FU 0 true (by omega) (by have := hm.2.1; show s < 1100; omega) ?_⟩
    unfold ftF at h3
    have g : ∀ n' r' : Int32, Post (if y = 0 then (ftF (fun k => allB (okW E S ja jm ck (m 0 4) pl (vv k)) s 0) j (k + 1) n' r').1 else (ftF (fun k => allB (okW E S ja jm ck (m 0 4) pl (vv k)) s 0) j (k + 1) n' r').2) m → ∀ x14 : Int32, x14 = n' → ∀ x15 : Int32, x15 = vv k + (1 : Int32) → w_X9_fits_L38 Post fl pl y x14 r' x15 m := by
      rintro n' r' hp _ rfl _ rfl
      rw [vv_1]
      exact ih fl (k + 1) _ r' (by omega) (by omega) hp
    rw [Bool.true_and]
    by_cases z : allB (okW E S ja jm ck (m 0 4) pl (vv k)) s 0 = true
    · simp only [if_pos z] at h3
      rw [z]
      refine ⟨fun q => absurd q (by decide), fun _ => ⟨fun q => ⟨fun x => absurd x (by decide), fun _ => ?_⟩, fun q => ⟨fun x => absurd x (by decide), fun _ => ?_⟩⟩⟩
      · rw [if_neg q] at h3; exact g _ _ h3
      · rw [if_pos q] at h3; exact g _ _ h3
    · simp only [if_neg z] at h3
      rw [Bool.not_eq_true] at z
      rw [z]
      refine ⟨fun _ => ⟨fun _ => ?_, fun q => absurd rfl q⟩, fun q => absurd rfl q⟩
      rintro _ rfl
      rw [Int32.add_zero]
      exact g _ _ h3 _ rfl
theorem R.nb {c m : St} (h : R c m) : ∃ s, NBc c (m 14) (m 15) s (m 0 6) (m 0 7) (m 0 1) ∧ NBm m (m 14) (m 15) s (m 0 6) (m 0 7) (m 0 1) := by
  obtain ⟨⟨-, ⟨e1, -⟩, -, ⟨e5, e6⟩, -⟩, -, -, ⟨s, t, b, s1, -, -, ⟨s2, s3, s4⟩, -⟩, -⟩ := h
  exact ⟨s, ⟨s2, s1, fun k hk => ⟨(s4 k hk).1, (s4 k hk).2.1⟩, e5, e6, e1⟩, ⟨s3, s1, rfl, rfl, rfl, rfl, rfl⟩⟩
theorem R.wl {c m : St} (h : R c m) : c 3 4 = m 0 4 := h.1.2.2.1.1
theorem P_fits {p1 p2 : Int32} {c m : St} (h : R c m) : w_X8_fits p1 p2 c (fun r c' => w_X9_fits p1 p2 m (fun r' m' => r = r' ∧ R c' m')) := by
  unfold w_X8_fits w_X9_fits
  simp only [isW, in_0_v, in_0_1, h.wl]
  by_cases h1 : (0 : Int32) ≤ p1 ∧ p1 ≤ m 0 4 - 1
  · by_cases h2 : (0 : Int32) ≤ p2 ∧ p2 ≤ 1
    · simp only [if_pos h1, if_pos h2, b0, b0', b1, b1', true_implies, not_true_eq_false, false_implies, not_false_eq_true, and_true, true_and]
      obtain ⟨s, hc, hm⟩ := h.nb
      refine C_ft hc h.wlC 19 FU 0 0 (-1) rfl (by decide) (M_ft hm h.wlM 19 FU 0 0 (-1) rfl (by decide) ⟨?_, h⟩)
      rw [h.wl]
    · simp only [if_pos h1, if_neg h2, b0, b0', b1, b1', true_implies, not_true_eq_false, false_implies, not_false_eq_true, and_true, true_and]; exact h
  · simp only [if_neg h1, b0, b0', b1, b1', true_implies, not_true_eq_false, false_implies, not_false_eq_true, and_true, true_and]; exact h
/-! periods -/
theorem C_ip14 {E S : Nat → Int32} {s : Nat} {ja jm ck wl pl : Int32} {K2 : Int32 → Int32 → St → Prop} {Post : Int32 → St → Prop} {c : St} (hc : NBc c E S s ja jm ck) (hw : wlOK wl) :
    ∀ (j fuel k : Nat) (b : Bool), k + j = 19 → j < fuel → w_X5_isPeriod_J43 K2 Post wl pl (toI (b || exB (fun i => allB (okW E S ja jm ck wl pl (vv i)) s 0) j k)) c → w_X5_isPeriod_L14 K2 Post fuel wl pl (toI b) (vv k) c := by
  intro j
  induction j with
  | zero =>
    intro fuel k b h1 h2 h3
    obtain ⟨fl, rfl⟩ : ∃ z, fuel = z + 1 := ⟨fuel - 1, by omega⟩
    unfold exB at h3
    rw [Bool.or_false] at h3
    exact ⟨fun _ => h3, fun q => absurd ((vv_9 (by omega)).mpr (by omega)) q⟩
  | succ j ih =>
    intro fuel k b h1 h2 h3
    obtain ⟨fl, rfl⟩ : ∃ z, fuel = z + 1 := ⟨fuel - 1, by omega⟩
    unfold exB at h3
    refine ⟨fun q => absurd ((vv_9 (by omega)).mp q) (by omega), fun _ => ⟨fun q => ?_, fun q => C_wf hc hw s FU 0 (by omega) (by have := hc.2.1; show s < 1100; omega) ?_⟩⟩
    · cases b with
      | true => rw [Bool.true_or] at h3; exact h3
      | false => exact absurd rfl q
    · rintro _ rfl
      rw [vv_1]
      refine ih fl (k + 1) _ (by omega) (by omega) ?_
      cases b with
      | true => exact absurd q (by decide)
      | false => rw [Bool.false_or] at h3; exact h3
theorem C_ip {E S : Nat → Int32} {s : Nat} {ja jm ck : Int32} {Post : Int32 → St → Prop} {c : St} {d : Nat} (hc : NBc c E S s ja jm ck) (hd : d ≤ 9) (hw : wlOK (nI d)) :
    ∀ (j fuel k : Nat), k + j = d → j < fuel → Post (toI (allB (fun pl => exB (fun i => allB (okW E S ja jm ck (nI d) (nI pl) (vv i)) s 0) 19 0) j k)) c → w_X5_isPeriod_L2 Post fuel (nI d) (nI k) c := by
  intro j
  induction j with
  | zero =>
    intro fuel k h1 h2 h3
    obtain ⟨fl, rfl⟩ : ∃ z, fuel = z + 1 := ⟨fuel - 1, by omega⟩
    exact ⟨fun _ => h3, fun q => absurd (nI_le (by omega) (by omega)) q⟩
  | succ j ih =>
    intro fuel k h1 h2 h3
    obtain ⟨fl, rfl⟩ : ∃ z, fuel = z + 1 := ⟨fuel - 1, by omega⟩
    unfold allB at h3
    refine ⟨fun q => absurd q (nI_ge (by omega) (by omega)), fun _ => C_ip14 (b := false) hc hw 19 FU 0 rfl (by decide) ?_⟩
    rw [Bool.false_or]
    generalize exB (fun i => allB (okW E S ja jm ck (nI d) (nI k) (vv i)) s 0) 19 0 = x at h3
    cases x with
    | true =>
      rw [Bool.true_and] at h3
      refine ⟨fun _ => ?_, fun q => absurd q (by decide)⟩
      rintro _ rfl
      rw [nI_1]
      exact ih fl (k + 1) (by omega) (by omega) h3
    | false =>
      rw [Bool.false_and] at h3
      exact ⟨fun q => absurd rfl q, fun _ => h3⟩
def maF (p : Nat → Bool) (bit : Nat → Int32) : Nat → Nat → Int32 → Int32
  | 0, _, x => x
  | j + 1, k, x => maF p bit j (k + 1) (if p k = true then x ||| bit k else x)
def perB (E S : Nat → Int32) (ja jm ck : Int32) (s d : Nat) : Bool := allB (fun pl => exB (fun i => allB (okW E S ja jm ck (nI d) (nI pl) (vv i)) s 0) 19 0) d 0
theorem C_pe {E S : Nat → Int32} {s : Nat} {ja jm ck : Int32} {Post : Int32 → St → Prop} {c : St} (hc : NBc c E S s ja jm ck) :
    ∀ (j fuel k : Nat) (x : Int32), 1 ≤ k → k + j = 10 → j < fuel → Post (maF (perB E S ja jm ck s) (fun k => (1 : Int32) <<< (nI k &&& 31)) j k x) c → w_X8_periods_L4 Post fuel x (nI k) c := by
  intro j
  induction j with
  | zero =>
    intro fuel k x h0 h1 h2 h3
    obtain ⟨fl, rfl⟩ : ∃ z, fuel = z + 1 := ⟨fuel - 1, by omega⟩
    obtain rfl : k = 10 := by omega
    exact ⟨fun _ => h3, fun q => absurd (by decide) q⟩
  | succ j ih =>
    intro fuel k x h0 h1 h2 h3
    obtain ⟨fl, rfl⟩ : ∃ z, fuel = z + 1 := ⟨fuel - 1, by omega⟩
    unfold maF at h3
    refine ⟨fun q => absurd q (nI_nlt (b := k) (a := 9) (by omega) (by decide)), fun _ => C_ip (d := k) hc (by omega) ⟨k, h0, by omega, rfl⟩ k FU 0 (by omega) (by show k < 1100; omega) ?_⟩
    change (toI (perB E S ja jm ck s k) = 0 → _) ∧ (¬ toI (perB E S ja jm ck s k) = 0 → _)
    generalize perB E S ja jm ck s k = z at h3
    cases z with
    | true =>
      refine ⟨fun q => absurd q (by decide), fun _ => ?_⟩
      rintro _ rfl _ rfl
      rw [nI_1]
      exact ih fl (k + 1) _ (by omega) (by omega) (by omega) h3
    | false =>
      refine ⟨fun _ => ?_, fun q => absurd rfl q⟩
      rintro _ rfl
      rw [nI_1]
      exact ih fl (k + 1) _ (by omega) (by omega) (by omega) h3
theorem M_p28 {E S : Nat → Int32} {s : Nat} {ja jm ck wl x pl : Int32} {K4 : Int32 → Int32 → St → Prop} {K15 : Int32 → Int32 → Int32 → Int32 → St → Prop} {Post : Int32 → St → Prop} {m : St} {b3 : Bool} (hm : NBm m E S s ja jm ck) (hw : wlOK wl) :
    ∀ (j fuel k : Nat) (b : Bool), k + j = 19 → j < fuel → w_X9_periods_J79 K4 K15 Post x wl pl (toI (b3 && (b || exB (fun i => allB (okW E S ja jm ck wl pl (vv i)) s 0) j k))) m → w_X9_periods_L28 K4 K15 Post fuel x wl (toI b3) pl (toI b) (vv k) m := by
  intro j
  induction j with
  | zero =>
    intro fuel k b h1 h2 h3
    obtain ⟨fl, rfl⟩ : ∃ z, fuel = z + 1 := ⟨fuel - 1, by omega⟩
    unfold exB at h3
    rw [Bool.or_false] at h3
    refine ⟨fun _ => ⟨fun q => ?_, fun q => ⟨fun q2 => ?_, fun q2 => ?_⟩⟩, fun q => absurd ((vv_10 (by omega)).mpr (by omega)) q⟩
    · rw [(toI_ne b3).mp q, Bool.false_and] at h3; exact h3
    · rw [(toI_ne b).mp q2, Bool.and_false] at h3; exact h3
    · cases b3 <;> cases b <;> first | exact absurd rfl q | exact absurd rfl q2 | exact h3
  | succ j ih =>
    intro fuel k b h1 h2 h3
    obtain ⟨fl, rfl⟩ : ∃ z, fuel = z + 1 := ⟨fuel - 1, by omega⟩
    unfold exB at h3
    have g : ∀ b' : Bool, b' = (b || allB (okW E S ja jm ck wl pl (vv k)) s 0) → w_X9_periods_J57 K4 K15 (w_X9_periods_L28 K4 K15 Post fl) Post x wl (toI b3) pl (vv k) (toI b') m := by
      rintro b' rfl _ rfl
      rw [vv_1]
      refine ih fl (k + 1) _ (by omega) (by omega) ?_
      rw [Bool.or_assoc]; exact h3
    refine ⟨fun q => absurd ((vv_10 (by omega)).mp q) (by omega), fun _ => ⟨fun q => ?_, fun q => M_dft hm hw s FU 0 true (by omega) (by have := hm.2.1; show s < 1100; omega) ?_⟩⟩
    · cases b with
      | true => exact g true (by rw [Bool.true_or])
      | false => exact absurd rfl q
    · rw [Bool.true_and]
      obtain rfl : b = false := (toI_ne b).mp q
      generalize allB (okW E S ja jm ck wl pl (vv k)) s 0 = z at g
      cases z with
      | true => exact ⟨fun q => absurd q (by decide), fun _ => g true rfl⟩
      | false => exact ⟨fun _ => g false rfl, fun q => absurd rfl q⟩
theorem M_p15 {E S : Nat → Int32} {s : Nat} {ja jm ck x : Int32} {K4 : Int32 → Int32 → St → Prop} {Post : Int32 → St → Prop} {m : St} {d : Nat} (hm : NBm m E S s ja jm ck) (hd : d ≤ 9) (hw : wlOK (nI d)) :
    ∀ (j fuel k : Nat) (b : Bool), k + j = d → j < fuel → K4 (if (b && allB (fun pl => exB (fun i => allB (okW E S ja jm ck (nI d) (nI pl) (vv i)) s 0) 19 0) j k) = true then x ||| ((1 : Int32) <<< (nI d &&& 31)) else x) (nI (d + 1)) m → w_X9_periods_L15 K4 Post fuel x (nI d) (toI b) (nI k) m := by
  intro j
  induction j with
  | zero =>
    intro fuel k b h1 h2 h3
    obtain ⟨fl, rfl⟩ : ∃ z, fuel = z + 1 := ⟨fuel - 1, by omega⟩
    unfold allB at h3
    rw [Bool.and_true] at h3
    refine ⟨fun _ => ⟨fun q => ?_, fun q => ?_⟩, fun q => absurd (nI_le (by omega) (by omega)) q⟩
    · rintro _ rfl _ rfl
      rw [nI_1, Int32.or_zero]
      rw [(toI_ne b).mp q, if_neg (by decide)] at h3; exact h3
    · rintro _ rfl _ rfl
      rw [nI_1]
      cases b with
      | true => exact h3
      | false => exact absurd rfl q
  | succ j ih =>
    intro fuel k b h1 h2 h3
    obtain ⟨fl, rfl⟩ : ∃ z, fuel = z + 1 := ⟨fuel - 1, by omega⟩
    unfold allB at h3
    refine ⟨fun q => absurd q (nI_ge (by omega) (by omega)), fun _ => M_p28 (b := false) hm hw 19 FU 0 rfl (by decide) ?_⟩
    rw [Bool.false_or]
    rintro _ rfl
    rw [nI_1]
    refine ih fl (k + 1) _ (by omega) (by omega) ?_
    rw [Bool.and_assoc]; exact h3
theorem M_pe {E S : Nat → Int32} {s : Nat} {ja jm ck : Int32} {Post : Int32 → St → Prop} {m : St} (hm : NBm m E S s ja jm ck) :
    ∀ (j fuel k : Nat) (x : Int32), 1 ≤ k → k + j = 10 → j < fuel → Post (maF (perB E S ja jm ck s) (fun k => (1 : Int32) <<< (nI k &&& 31)) j k x) m → w_X9_periods_L4 Post fuel x (nI k) m := by
  intro j
  induction j with
  | zero =>
    intro fuel k x h0 h1 h2 h3
    obtain ⟨fl, rfl⟩ : ∃ z, fuel = z + 1 := ⟨fuel - 1, by omega⟩
    obtain rfl : k = 10 := by omega
    exact ⟨fun _ => h3, fun q => absurd (by decide) q⟩
  | succ j ih =>
    intro fuel k x h0 h1 h2 h3
    obtain ⟨fl, rfl⟩ : ∃ z, fuel = z + 1 := ⟨fuel - 1, by omega⟩
    unfold maF at h3
    refine ⟨fun q => absurd q (nI_ge (a := k) (b := 10) (by omega) (by decide)), fun _ => M_p15 (b := true) (d := k) hm (by omega) ⟨k, h0, by omega, rfl⟩ k FU 0 (by omega) (by show k < 1100; omega) ?_⟩
    rw [Bool.true_and]
    exact ih fl (k + 1) _ (by omega) (by omega) (by omega) h3
theorem P_periods {c m : St} (h : R c m) : w_X8_periods c (fun r c' => w_X9_periods m (fun r' m' => r = r' ∧ R c' m')) := by
  obtain ⟨s, hc, hm⟩ := h.nb
  exact C_pe hc 9 FU 1 0 (by decide) rfl (by decide) (M_pe hm 9 FU 1 0 (by decide) rfl (by decide) ⟨rfl, h⟩)
/-! axes -/
def okA (T1 T2 : Nat → Int32) (v : Int32) (k : Nat) : Bool := decide (v * T1 k = T2 k)
theorem C_af {T1 T2 : Nat → Int32} {t : Nat} {v : Int32} {Post : Int32 → St → Prop} {c : St} (ht : t ≤ 6) (h0 : c 36 1 = nI t) (hT : ∀ k, k < t → c 39 k = T1 k ∧ c 40 k = T2 k) :
    ∀ (j fuel k : Nat), k + j = t → j < fuel → Post (toI (allB (okA T1 T2 v) j k)) c → w_X5_isAxisFit_L2 Post fuel v (nI k) c := by
  intro j
  induction j with
  | zero =>
    intro fuel k h1 h2 h3
    obtain ⟨fl, rfl⟩ : ∃ z, fuel = z + 1 := ⟨fuel - 1, by omega⟩
    exact ⟨fun _ => h3, fun q => absurd (by rw [h0]; exact nI_le (by omega) (by omega)) q⟩
  | succ j ih =>
    intro fuel k h1 h2 h3
    obtain ⟨fl, rfl⟩ : ∃ z, fuel = z + 1 := ⟨fuel - 1, by omega⟩
    unfold allB at h3
    obtain ⟨e1, e2⟩ := hT k (by omega)
    refine ⟨fun q => absurd q (by rw [h0]; exact nI_ge (by omega) (by omega)), fun _ => C_entryAt rfl (by omega) (by decide) (C_entryAt rfl (by omega) (by decide) ?_)⟩
    rw [e1, e2]
    refine ⟨fun q => ?_, fun q => ?_⟩
    · rintro _ rfl
      rw [nI_1]
      refine ih fl (k + 1) (by omega) (by omega) ?_
      rw [show okA T1 T2 v k = true by unfold okA; simp [q], Bool.true_and] at h3; exact h3
    · rw [show okA T1 T2 v k = false by unfold okA; simp [q], Bool.false_and] at h3; exact h3
theorem C_ax {T1 T2 : Nat → Int32} {t : Nat} {Post : Int32 → St → Prop} {c : St} (ht : t ≤ 6) (h0 : c 36 1 = nI t) (hT : ∀ k, k < t → c 39 k = T1 k ∧ c 40 k = T2 k) :
    ∀ (j fuel k : Nat) (x : Int32), k + j = 19 → j < fuel → Post (maF (fun k => allB (okA T1 T2 (vv k)) t 0) (fun k => (1 : Int32) <<< ((vv k + 9) &&& 31)) j k x) c → w_X8_axes_L5 Post fuel x (vv k) c := by
  intro j
  induction j with
  | zero =>
    intro fuel k x h1 h2 h3
    obtain ⟨fl, rfl⟩ : ∃ z, fuel = z + 1 := ⟨fuel - 1, by omega⟩
    exact ⟨fun _ => h3, fun q => absurd ((vv_9 (by omega)).mpr (by omega)) q⟩
  | succ j ih =>
    intro fuel k x h1 h2 h3
    obtain ⟨fl, rfl⟩ : ∃ z, fuel = z + 1 := ⟨fuel - 1, by omega⟩
    unfold maF at h3
    refine ⟨fun q => absurd ((vv_9 (by omega)).mp q) (by omega), fun _ => C_af ht h0 hT t FU 0 (by omega) (by show t < 1100; omega) ?_⟩
    generalize allB (okA T1 T2 (vv k)) t 0 = z at h3 ⊢
    cases z with
    | true =>
      refine ⟨fun q => absurd q (by decide), fun _ => ?_⟩
      rintro _ rfl _ rfl
      rw [vv_1]
      exact ih fl (k + 1) _ (by omega) (by omega) h3
    | false =>
      refine ⟨fun _ => ?_, fun q => absurd rfl q⟩
      rintro _ rfl
      rw [vv_1]
      exact ih fl (k + 1) _ (by omega) (by omega) h3
theorem M_a16 {t : Nat} {v x : Int32} {K5 : Int32 → Int32 → St → Prop} {Post : Int32 → St → Prop} {m : St} (ht : t ≤ 6) (h0 : m 0 38 = nI t) :
    ∀ (j fuel k : Nat) (b : Bool), k + j = t → j < fuel → (∀ x10 : Int32, x10 = v + 1 → K5 (if (b && allB (okA (fun k => m 17 k - m 16 k) (m 18) v) j k) = true then x ||| ((1 : Int32) <<< ((v + 9) &&& 31)) else x) x10 m) → w_X9_axes_L16 K5 Post fuel x v (toI b) (nI k) m := by
  intro j
  induction j with
  | zero =>
    intro fuel k b h1 h2 h3
    obtain ⟨fl, rfl⟩ : ∃ z, fuel = z + 1 := ⟨fuel - 1, by omega⟩
    unfold allB at h3
    rw [Bool.and_true] at h3
    refine ⟨fun _ => ⟨fun q => ?_, fun q => ?_⟩, fun q => absurd (by rw [h0]; exact nI_le (by omega) (by omega)) q⟩
    · rintro _ rfl
      rw [Int32.or_zero]
      rw [(toI_ne b).mp q] at h3; exact h3
    · rintro _ rfl
      cases b with
      | true => exact h3
      | false => exact absurd rfl q
  | succ j ih =>
    intro fuel k b h1 h2 h3
    obtain ⟨fl, rfl⟩ : ∃ z, fuel = z + 1 := ⟨fuel - 1, by omega⟩
    unfold allB at h3
    have g : ∀ b' : Bool, b' = (b && okA (fun k => m 17 k - m 16 k) (m 18) v k) → w_X9_axes_J61 K5 (w_X9_axes_L16 K5 Post fl) Post x v (nI k) (toI b') m := by
      rintro b' rfl _ rfl
      rw [nI_1]
      refine ih fl (k + 1) _ (by omega) (by omega) ?_
      rw [Bool.and_assoc]; exact h3
    unfold okA at g
    refine ⟨fun q => absurd q (by rw [h0]; exact nI_ge (by omega) (by omega)), fun _ => ⟨fun q => g false (by rw [(toI_ne b).mp q, Bool.false_and]), fun q => ⟨vp_in_nI (by omega) (by decide), vp_in_nI (by omega) (by decide), vp_in_nI (by omega) (by decide), ?_⟩⟩⟩
    have hb : b = true := by cases b with
      | true => rfl
      | false => exact absurd rfl q
    rw [nI_clamp (by omega)]
    exact ⟨fun y => g false (by simp [hb]; exact fun z => y z.symm), fun y => g true (by simp [hb]; exact y.symm)⟩
theorem M_ax {t : Nat} {Post : Int32 → St → Prop} {m : St} (ht : t ≤ 6) (h0 : m 0 38 = nI t) :
    ∀ (j fuel k : Nat) (x : Int32), k + j = 19 → j < fuel → Post (maF (fun k => allB (okA (fun k => m 17 k - m 16 k) (m 18) (vv k)) t 0) (fun k => (1 : Int32) <<< ((vv k + 9) &&& 31)) j k x) m → w_X9_axes_L5 Post fuel x (vv k) m := by
  intro j
  induction j with
  | zero =>
    intro fuel k x h1 h2 h3
    obtain ⟨fl, rfl⟩ : ∃ z, fuel = z + 1 := ⟨fuel - 1, by omega⟩
    exact ⟨fun _ => h3, fun q => absurd ((vv_10 (by omega)).mpr (by omega)) q⟩
  | succ j ih =>
    intro fuel k x h1 h2 h3
    obtain ⟨fl, rfl⟩ : ∃ z, fuel = z + 1 := ⟨fuel - 1, by omega⟩
    unfold maF at h3
    refine ⟨fun q => absurd ((vv_10 (by omega)).mp q) (by omega), fun _ => M_a16 (b := true) ht h0 t FU 0 (by omega) (by show t < 1100; omega) ?_⟩
    rintro _ rfl
    rw [vv_1, Bool.true_and]
    exact ih fl (k + 1) _ (by omega) (by omega) h3
theorem P_axes {c m : St} (h : R c m) : w_X8_axes c (fun r c' => w_X9_axes m (fun r' m' => r = r' ∧ R c' m')) := by
  obtain ⟨s, t, b, s1, t1, b1, -, ⟨t2, t3, t4⟩, -⟩ := id h.2.2.2.1
  exact C_ax t1 t2 t4 19 FU 0 0 rfl (by decide) (M_ax t1 t3 19 FU 0 0 rfl (by decide) ⟨rfl, h⟩)
/-! look -/
theorem bits1 : ∀ f : Fin 512, ∀ r : Fin 9, (nI f.val ||| ((1 : Int32) <<< (nI r.val &&& 31))) = nI (f.val ||| 2 ^ r.val) := by decide +kernel
theorem bits2 : ∀ f : Fin 512, ∀ q : Fin 9, ((nI f.val >>> (nI q.val &&& 31)) &&& (1 : Int32) = 1) ↔ Nat.testBit f.val q.val = true := by decide +kernel
theorem C_hs {E : Nat → Int32} {s : Nat} {wl x : Int32} {Post : Int32 → St → Prop} {c : St} (hs : s ≤ 10) (h0 : c 36 0 = nI s) (hE : ∀ k, k < s → c 37 k = E k) (hw : wlOK wl) :
    ∀ (j fuel k : Nat), k + j = s → j < fuel → Post (toI (exB (fun k => decide (E k - E k / wl * wl = x - x / wl * wl)) j k)) c → w_X5_hasSeenPlaceOf_L2 Post fuel x wl (nI k) c := by
  intro j
  induction j with
  | zero =>
    intro fuel k h1 h2 h3
    obtain ⟨fl, rfl⟩ : ∃ z, fuel = z + 1 := ⟨fuel - 1, by omega⟩
    exact ⟨fun _ => h3, fun q => absurd (by rw [h0]; exact nI_le (by omega) (by omega)) q⟩
  | succ j ih =>
    intro fuel k h1 h2 h3
    obtain ⟨fl, rfl⟩ : ∃ z, fuel = z + 1 := ⟨fuel - 1, by omega⟩
    unfold exB at h3
    refine ⟨fun q => absurd q (by rw [h0]; exact nI_ge (by omega) (by omega)), fun _ => C_entryAt rfl (by omega) (by decide) ⟨fun q => absurd q (wl_le hw), fun _ => ⟨wl_ne hw, ⟨fun q => absurd q (wl_le hw), fun _ => ⟨wl_ne hw, ?_⟩⟩⟩⟩⟩
    rw [hE k (by omega)]
    refine ⟨fun q => ?_, fun q => ?_⟩
    · rintro _ rfl
      rw [nI_1]
      refine ih fl (k + 1) (by omega) (by omega) ?_
      rw [decide_eq_false q, Bool.false_or] at h3; exact h3
    · rw [decide_eq_true q, Bool.true_or] at h3; exact h3
def lkF (p : Nat → Bool) : Nat → Nat → Int32
  | 0, _ => -1
  | j + 1, k => if p k = true then lkF p j (k + 1) else nI k
theorem C_lk {E : Nat → Int32} {s a : Nat} {Post : Int32 → St → Prop} {c : St} (hs : s ≤ 10) (h0 : c 36 0 = nI s) (hE : ∀ k, k < s → c 37 k = E k) (hw : wlOK (c 3 4)) (h11 : c 11 0 = nI a) (ha : a < 2 ^ 30) :
    ∀ (j fuel k : Nat), k + j = a + 99 → j < fuel → Post (lkF (fun i => exB (fun k => decide (E k - E k / c 3 4 * c 3 4 = nI i - nI i / c 3 4 * c 3 4)) s 0) j k) c → w_X8_look_L21 Post fuel (nI k) c := by
  intro j
  induction j with
  | zero =>
    intro fuel k h1 h2 h3
    obtain ⟨fl, rfl⟩ : ∃ z, fuel = z + 1 := ⟨fuel - 1, by omega⟩
    refine ⟨fun _ => h3, fun q => absurd ?_ q⟩
    rw [h11, show (99 : Int32) = nI 99 from rfl, nI_add]; exact nI_le (by omega) (by omega)
  | succ j ih =>
    intro fuel k h1 h2 h3
    obtain ⟨fl, rfl⟩ : ∃ z, fuel = z + 1 := ⟨fuel - 1, by omega⟩
    unfold lkF at h3
    refine ⟨fun q => absurd q ?_, fun _ => C_hs hs h0 hE hw s FU 0 (by omega) (by show s < 1100; omega) ?_⟩
    · rw [h11, show (99 : Int32) = nI 99 from rfl, nI_add]; exact nI_ge (by omega) (by omega)
    · generalize exB (fun z => decide (E z - E z / c 3 4 * c 3 4 = nI k - nI k / c 3 4 * c 3 4)) s 0 = z at h3 ⊢
      cases z with
      | true =>
        refine ⟨fun _ => ?_, fun q => absurd q (by decide)⟩
        rintro _ rfl
        rw [nI_1]
        exact ih fl (k + 1) (by omega) (by omega) h3
      | false => exact ⟨fun q => absurd rfl q, fun _ => h3⟩
theorem M_lm {s a : Nat} {Post : Int32 → St → Prop} {m : St} (hs : s ≤ 10) (h0 : m 0 35 = nI s) (hE : ∀ k, k < s → ∃ b : Nat, b ≤ 999 ∧ m 14 k = nI b) (hw : wlOK (m 0 4)) :
    ∀ (j fuel k f : Nat), k + j = s → j < fuel → f < 512 → (∀ f', f' < 512 → (∀ q : Nat, q < 9 → (Nat.testBit f' q = (Nat.testBit f q || exB (fun k => decide (m 14 k - m 14 k / m 0 4 * m 0 4 = nI q)) j k))) → ∀ x : Int32, x = m 4 0 → w_X9_look_L51 Post FU (nI f') x m) → w_X9_look_L14 Post fuel (nI f) (nI k) m := by
  intro j
  induction j with
  | zero =>
    intro fuel k f h1 h2 hf h3
    obtain ⟨fl, rfl⟩ : ∃ z, fuel = z + 1 := ⟨fuel - 1, by omega⟩
    exact ⟨fun _ => h3 f hf (fun q _ => by unfold exB; rw [Bool.or_false]), fun q => absurd (by rw [h0]; exact nI_le (by omega) (by omega)) q⟩
  | succ j ih =>
    intro fuel k f h1 h2 hf h3
    obtain ⟨fl, rfl⟩ : ∃ z, fuel = z + 1 := ⟨fuel - 1, by omega⟩
    refine ⟨fun q => absurd q (by rw [h0]; exact nI_ge (by omega) (by omega)), fun _ => ⟨vp_in_nI (by omega) (by decide), wl_ne hw, ?_⟩⟩
    rw [nI_clamp (by omega)]
    obtain ⟨b, hb, eb⟩ := hE k (by omega)
    obtain ⟨r, -, hr, er⟩ := wl_rem hw (a := b) (by omega)
    rw [eb, er]
    rintro _ rfl _ rfl
    rw [nI_1, bits1 ⟨f, hf⟩ ⟨r, hr⟩]
    refine ih fl (k + 1) _ (by omega) (by omega) (Nat.or_lt_two_pow (n := 9) hf (Nat.pow_lt_pow_right (by decide) hr)) (fun f' hf' hq => h3 f' hf' (fun q hq9 => ?_))
    rw [hq q hq9]
    show (Nat.testBit (f ||| 2 ^ r) q || _) = _
    rw [Nat.testBit_or, Nat.testBit_two_pow]
    conv => rhs; unfold exB
    rw [← Bool.or_assoc]
    congr 2
    rw [eb, er]
    exact decide_eq_decide.mpr ⟨fun z => by rw [z], fun z => nI_inj (by omega) (by omega) z⟩
theorem M_lk {s a f : Nat} {Post : Int32 → St → Prop} {m : St} (hw : wlOK (m 0 4)) (hf : f < 512) (hq : ∀ q : Nat, q < 9 → (Nat.testBit f q = exB (fun k => decide (m 14 k - m 14 k / m 0 4 * m 0 4 = nI q)) s 0)) (h4 : m 4 0 = nI a) (ha : a < 2 ^ 30) :
    ∀ (j fuel k : Nat), k + j = a + 99 → j < fuel → Post (lkF (fun i => exB (fun k => decide (m 14 k - m 14 k / m 0 4 * m 0 4 = nI i - nI i / m 0 4 * m 0 4)) s 0) j k) m → w_X9_look_L51 Post fuel (nI f) (nI k) m := by
  intro j
  induction j with
  | zero =>
    intro fuel k h1 h2 h3
    obtain ⟨fl, rfl⟩ : ∃ z, fuel = z + 1 := ⟨fuel - 1, by omega⟩
    refine ⟨fun _ => h3, fun q => absurd ?_ q⟩
    rw [h4, show (99 : Int32) = nI 99 from rfl, nI_add]; exact nI_le (by omega) (by omega)
  | succ j ih =>
    intro fuel k h1 h2 h3
    obtain ⟨fl, rfl⟩ : ∃ z, fuel = z + 1 := ⟨fuel - 1, by omega⟩
    unfold lkF at h3
    refine ⟨fun q => absurd q ?_, fun _ => ⟨wl_ne hw, ?_⟩⟩
    · rw [h4, show (99 : Int32) = nI 99 from rfl, nI_add]; exact nI_ge (by omega) (by omega)
    · obtain ⟨r, -, hr, er⟩ := wl_rem hw (a := k) (by omega)
      rw [er] at h3 ⊢
      have hx := (bits2 ⟨f, hf⟩ ⟨r, hr⟩).trans (by show Nat.testBit f r = true ↔ _; rw [hq r hr])
      have nx : (exB (fun k => decide (m 14 k - m 14 k / m 0 4 * m 0 4 = nI r)) s 0 = true) → w_X9_look_L51 Post fl (nI f) (nI k + 1) m := by
        intro z
        rw [if_pos z] at h3
        rw [nI_1]
        exact ih fl (k + 1) (by omega) (by omega) h3
      refine ⟨fun q => ⟨fun y => absurd rfl y, fun _ => ?_⟩, fun q => ⟨fun _ => ?_, fun y => absurd y (by decide)⟩⟩
      · rw [if_neg (fun z => q (hx.mpr z))] at h3; exact h3
      · rintro _ rfl
        exact nx (hx.mp q)
theorem P_look {c m : St} (h : R c m) : w_X8_look c (fun r c' => w_X9_look m (fun r' m' => r = r' ∧ R c' m')) := by
  unfold w_X8_look w_X9_look
  rw [h.mt]
  obtain ⟨s, t, b, s1, -, -, ⟨s2, s3, s4⟩, -⟩ := id h.2.2.2.1
  obtain ⟨a, l, q1, q2, -⟩ := id h.2.1.2
  by_cases h3 : m 0 0 = 0
  · exact (bT' h3).mpr ((bT' h3).mpr (by first | exact h | exact ⟨rfl, h⟩))
  · refine (bF' h3).mpr ?_
    rintro _ rfl
    rw [h.mins, q1]
    refine C_lk (E := m 14) (a := a) s1 s2 (fun k hk => (s4 k hk).1) h.wlC (by rw [h.mins]; exact q1) (by omega) 99 FU a rfl (by decide) ?_
    refine (bF' h3).mpr ?_
    refine M_lm (a := a) s1 s3 (fun k hk => (s4 k hk).2.2) h.wlM s FU 0 0 (by omega) (by show s < 1100; omega) (by decide) (fun f' hf' hq => ?_)
    rintro _ rfl
    rw [q1]
    refine M_lk (s := s) (a := a) h.wlM hf' (fun q hq9 => by rw [hq q hq9, Nat.zero_testBit, Bool.false_or]) q1 (by omega) 99 FU a rfl (by decide) ⟨?_, h⟩
    rw [h.wl]
