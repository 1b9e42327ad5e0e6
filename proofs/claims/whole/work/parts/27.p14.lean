/-! ===== pure: reading, blanks and numbers ===== -/
theorem up_up {σ : St} {i k : Nat} {x y : Int32} : up (up σ i k x) i k y = up σ i k y := by
  rw [up_def, up_eq, upd_upd, up_def (σ := σ) (x := x), upc_upc, ← up_def]
def ltF (L : Nat → Int32) (n a : Nat) : Int32 := if a < n then L a else -1
def skF (L : Nat → Int32) : Nat → Nat → Nat
  | 0, a => a
  | j + 1, a => if L a = 32 then skF L j (a + 1) else a
theorem skF_le (L : Nat → Int32) : ∀ (j a : Nat), a ≤ skF L j a ∧ skF L j a ≤ a + j
  | 0, a => ⟨Nat.le_refl _, Nat.le_refl _⟩
  | j + 1, a => by
    unfold skF
    split
    · have := skF_le L j (a + 1); omega
    · omega
theorem skF_32 (L : Nat → Int32) : ∀ (j a n : Nat), a + j = n → ¬ ltF L n (skF L j a) = 32
  | 0, a, n, h => by
    unfold skF ltF
    rw [if_neg (by omega)]; decide
  | j + 1, a, n, h => by
    unfold skF
    split
    · exact skF_32 L j (a + 1) n (by omega)
    · rename_i q
      unfold ltF
      rw [if_pos (by omega)]; exact q
theorem skF_id {L : Nat → Int32} {j a n : Nat} (h : a + j = n) (q : ¬ ltF L n a = 32) : skF L j a = a := by
  cases j with
  | zero => rfl
  | succ j =>
    unfold skF
    unfold ltF at q
    rw [if_pos (by omega)] at q
    rw [if_neg q]
def VT (c m : St) (n : Nat) : Prop := c 1 0 = nI n ∧ m 0 15 = nI n ∧ n ≤ 230 ∧ ∀ k, k < n → c 2 k = m 5 k ∧ ∃ x : Nat, x ≤ 255 ∧ m 5 k = nI x
def VA (c m : St) (n a : Nat) : Prop := c 1 1 = 0 ∧ c 1 3 = nI a ∧ m 0 17 = nI a ∧ a ≤ n
theorem VT.congr {c m c' m' : St} {n : Nat} (h : VT c m n) (h1 : c' 1 0 = c 1 0) (h2 : c' 2 = c 2) (h3 : m' 0 15 = m 0 15) (h4 : m' 5 = m 5) : VT c' m' n := by
  unfold VT; rw [h1, h2, h3, h4]; exact h
theorem C_lt {c m : St} {n a : Nat} {Post : Int32 → St → Prop} (hT : VT c m n) (h3 : c 1 3 = nI a) (ha : a ≤ n) (h : Post (ltF (m 5) n a) c) : w_X6_letterHere c Post := by
  obtain ⟨t1, t2, t3, t4⟩ := hT
  refine ⟨fun q => absurd q (by rw [h3]; exact nI_pos (by omega)), fun _ => ⟨fun q => ?_, fun q => ⟨fun q2 => absurd q2 ?_, fun q2 => ⟨?_, ?_⟩⟩⟩⟩
  · rw [t1, h3] at q
    have : ¬ a < n := fun z => absurd q (nI_ge z (by omega))
    unfold ltF at h; rw [if_neg this] at h; exact h
  · rw [t1, h3] at q
    have : a < n := Nat.lt_of_not_le (fun z => q (nI_le z (by omega)))
    rw [h3]; exact nI_ge (by omega) (by omega)
  · rw [t1, h3] at q
    have : a < n := Nat.lt_of_not_le (fun z => q (nI_le z (by omega)))
    exact vin h3 (by omega)
  · rw [t1, h3] at q
    have : a < n := Nat.lt_of_not_le (fun z => q (nI_le z (by omega)))
    unfold ltF at h; rw [if_pos this] at h
    rw [h3, nI_clamp (by omega), (t4 a this).1]; exact h
theorem C_sk {n : Nat} {Post : St → Prop} {m : St} : ∀ (j fuel i a : Nat) (c : St), VT c m n → c 1 3 = nI a → a + j = n → i ≤ a → j < fuel → Post (up c 1 3 (nI (skF (m 5) j a))) → w_X6_skipBlanks_L2 Post fuel (nI i) c := by
  intro j
  induction j with
  | zero =>
    intro fuel i a c hT h3 h1 hi h2 h4
    obtain ⟨fl, rfl⟩ : ∃ z, fuel = z + 1 := ⟨fuel - 1, by omega⟩
    have h4' : Post c := by
      have := h4
      unfold skF at this
      rw [← h3, up_same] at this; exact this
    refine ⟨fun _ => h4', fun _ => C_lt hT h3 (by omega) ⟨fun _ => h4', fun q => ?_⟩⟩
    unfold ltF at q
    rw [if_neg (by omega)] at q
    exact absurd q (by decide)
  | succ j ih =>
    intro fuel i a c hT h3 h1 hi h2 h4
    obtain ⟨fl, rfl⟩ : ∃ z, fuel = z + 1 := ⟨fuel - 1, by omega⟩
    have hn := hT.2.2.1
    refine ⟨fun q => absurd q (nI_ge (a := i) (b := 230) (by omega) (by decide)), fun _ => C_lt hT h3 (by omega) ?_⟩
    unfold ltF
    rw [if_pos (by omega)]
    unfold skF at h4
    refine ⟨fun q => ?_, fun q => ?_⟩
    · rw [if_neg q, ← h3, up_same] at h4; exact h4
    · rintro _ rfl _ rfl
      rw [if_pos q] at h4
      rw [nI_1, h3, nI_1]
      refine ih fl (i + 1) (a + 1) _ (hT.congr (by simp [up_at]) (by rw [up_ne (by decide)]) rfl rfl) (by simp [up_at]) (by omega) (by omega) (by omega) ?_
      rw [up_up]; exact h4
theorem C_skip {n a : Nat} {Post : St → Prop} {c m : St} (hT : VT c m n) (h3 : c 1 3 = nI a) (ha : a ≤ n) (h : Post (up c 1 3 (nI (skF (m 5) (n - a) a)))) : w_X6_skipBlanks c Post :=
  C_sk (n - a) FU 0 a c hT h3 (by omega) (by omega) (by have := hT.2.2.1; show n - a < 1100; omega) h
theorem M_hr {n : Nat} {Post : Int32 → St → Prop} {c : St} : ∀ (j fuel a : Nat) (m : St), VT c m n → m 0 17 = nI a → a + j = n → j < fuel → Post (ltF (m 5) n (skF (m 5) j a)) (up m 0 17 (nI (skF (m 5) j a))) → w_X9_here_L0 Post fuel m := by
  intro j
  induction j with
  | zero =>
    intro fuel a m hT h3 h1 h2 h4
    obtain ⟨fl, rfl⟩ : ∃ z, fuel = z + 1 := ⟨fuel - 1, by omega⟩
    obtain ⟨t1, t2, t3, t4⟩ := hT
    unfold skF at h4
    rw [← h3, up_same] at h4
    unfold ltF at h4
    rw [if_neg (by omega)] at h4
    have le : m 0 15 ≤ m 0 17 := by rw [t2, h3]; exact nI_le (by omega) (by omega)
    exact ⟨fun _ => ⟨fun _ => h4, fun q => absurd le q⟩, fun q => absurd le q⟩
  | succ j ih =>
    intro fuel a m hT h3 h1 h2 h4
    obtain ⟨fl, rfl⟩ : ∃ z, fuel = z + 1 := ⟨fuel - 1, by omega⟩
    obtain ⟨t1, t2, t3, t4⟩ := id hT
    have nle : ¬ m 0 15 ≤ m 0 17 := by rw [t2, h3]; exact nI_ge (by omega) (by omega)
    refine ⟨fun q => absurd q nle, fun _ => ⟨vin h3 (by omega), ?_⟩⟩
    unfold skF at h4
    unfold w_X9_here_J38
    rw [h3] at nle ⊢
    rw [nI_clamp (by omega)]
    refine ⟨fun q => ⟨fun q2 => absurd q2 nle, fun _ => ⟨vp_in_nI (by omega) (by decide), ?_⟩⟩, fun q => ?_⟩
    · rw [if_neg q, ← h3, up_same] at h4
      unfold ltF at h4
      rw [if_pos (by omega)] at h4
      exact h4
    · rintro _ rfl
      rw [if_pos q] at h4
      rw [nI_1]
      have e5 : up m 0 17 (nI (a + 1)) 5 = m 5 := up_ne (by decide)
      refine ih fl (a + 1) _ (hT.congr rfl rfl (by simp [up_at]) e5) (by simp [up_at]) (by omega) (by omega) ?_
      rw [e5, up_up]
      exact h4
theorem M_here {n a : Nat} {Post : Int32 → St → Prop} {c m : St} (hT : VT c m n) (h3 : m 0 17 = nI a) (ha : a ≤ n) (h : Post (ltF (m 5) n (skF (m 5) (n - a) a)) (up m 0 17 (nI (skF (m 5) (n - a) a)))) : w_X9_here m Post :=
  M_hr (n - a) FU a m hT h3 (by omega) (by have := hT.2.2.1; show n - a < 1100; omega) h
/-! figures -/
abbrev fig (x : Int32) : Prop := (48 : Int32) ≤ x ∧ x ≤ 57
def dgF (L : Nat → Int32) : Nat → Nat → Nat
  | 0, a => a
  | j + 1, a => if fig (L a) then dgF L j (a + 1) else a
def cvF (L : Nat → Int32) : Nat → Nat → Int32 → Int32
  | 0, _, v => v
  | j + 1, a, v => if fig (L a) then cvF L j (a + 1) (if (9999 : Int32) < (((v * (10 : Int32)) + L a) - (48 : Int32)) then (9999 : Int32) else (((v * (10 : Int32)) + L a) - (48 : Int32))) else v
def mvF (L : Nat → Int32) : Nat → Nat → Int32 → Int32
  | 0, _, v => v
  | j + 1, a, v => if fig (L a) then mvF L j (a + 1) (if v ≤ 10000 then (((10 : Int32) * v) + L a) - (48 : Int32) else v) else v
theorem dgF_le (L : Nat → Int32) : ∀ (j a : Nat), a ≤ dgF L j a ∧ dgF L j a ≤ a + j
  | 0, a => ⟨Nat.le_refl _, Nat.le_refl _⟩
  | j + 1, a => by
    unfold dgF
    split
    · have := dgF_le L j (a + 1); omega
    · omega
theorem fig_nI {x : Nat} (hx : x ≤ 255) : fig (nI x) ↔ 48 ≤ x ∧ x ≤ 57 := by
  unfold fig
  rw [Int32.le_iff_toInt_le, Int32.le_iff_toInt_le, nI_toInt (by omega), show (48 : Int32).toInt = 48 by decide, show (57 : Int32).toInt = 57 by decide]
  omega
theorem val3 {L : Nat → Int32} {n : Nat} (hL : ∀ k, k < n → ∃ x : Nat, x ≤ 255 ∧ L k = nI x) : ∀ (j a t x : Nat), a + j = n → t ≤ 3 → x < 10 ^ t → dgF L j a + t ≤ a + 3 → ∃ y : Nat, y ≤ 999 ∧ cvF L j a (nI x) = nI y ∧ mvF L j a (nI x) = nI y
  | 0, a, t, x, h1, ht, hx, h2 => by
    refine ⟨x, ?_, rfl, rfl⟩
    have : 10 ^ t ≤ 10 ^ 3 := Nat.pow_le_pow_right (by decide) ht
    omega
  | j + 1, a, t, x, h1, ht, hx, h2 => by
    unfold cvF mvF
    unfold dgF at h2
    by_cases q : fig (L a)
    · rw [if_pos q] at h2 ⊢
      rw [if_pos q]
      obtain ⟨y, hy, ey⟩ := hL a (by omega)
      have hf := (fig_nI hy).mp (by rw [← ey]; exact q)
      have hd := (dgF_le L j (a + 1)).1
      have ht2 : t + 1 ≤ 3 := by omega
      have hx9 : 10 * x + (y - 48) < 10 ^ (t + 1) := by rw [Nat.pow_succ]; omega
      have h10 : 10 ^ (t + 1) ≤ 10 ^ 3 := Nat.pow_le_pow_right (by decide) ht2
      have e1 : ((nI x * (10 : Int32)) + L a) - (48 : Int32) = nI (10 * x + (y - 48)) := by
        rw [ey, show (10 : Int32) = nI 10 from rfl, show (48 : Int32) = nI 48 from rfl, pk_mul, nI_add, pk_sub (by omega)]
        congr 1; omega
      have e2 : (((10 : Int32) * nI x) + L a) - (48 : Int32) = nI (10 * x + (y - 48)) := by rw [Int32.mul_comm]; exact e1
      rw [e1, e2, if_neg (show ¬ (9999 : Int32) < nI (10 * x + (y - 48)) from nI_nlt (a := 9999) (by omega) (by decide)), if_pos (show nI x ≤ (10000 : Int32) from nI_le (b := 10000) (by omega) (by decide))]
      exact val3 hL j (a + 1) (t + 1) _ (by omega) ht2 hx9 (by omega)
    · rw [if_neg q, if_neg q]
      refine ⟨x, ?_, rfl, rfl⟩
      have : 10 ^ t ≤ 10 ^ 3 := Nat.pow_le_pow_right (by decide) ht
      omega
theorem figC {x : Int32} {c : St} {K : Int32 → St → Prop} : w_X6_isFigure x c K ↔ K (if fig x then 1 else 0) c := by
  unfold fig
  constructor
  · intro h
    by_cases h1 : x < 48
    · rw [if_neg (fun q => absurd h1 (Int32.not_lt.mpr q.1))]; exact h.1 h1
    · by_cases h2 : (57 : Int32) < x
      · rw [if_neg (fun q => absurd h2 (Int32.not_lt.mpr q.2))]; exact (h.2 h1).1 h2
      · rw [if_pos ⟨Int32.not_lt.mp h1, Int32.not_lt.mp h2⟩]; exact (h.2 h1).2 h2
  · intro h
    refine ⟨fun h1 => ?_, fun h1 => ⟨fun h2 => ?_, fun h2 => ?_⟩⟩
    · rw [if_neg (fun q => absurd h1 (Int32.not_lt.mpr q.1))] at h; exact h
    · rw [if_neg (fun q => absurd h2 (Int32.not_lt.mpr q.2))] at h; exact h
    · rw [if_pos ⟨Int32.not_lt.mp h1, Int32.not_lt.mp h2⟩] at h; exact h
theorem figM {x : Int32} {m : St} {K : Int32 → St → Prop} : w_X9_in x.toInt64 (48 : Int64) (57 : Int64) m K ↔ K (if fig x then 1 else 0) m := in_g (by decide) (by decide) x m K
theorem C_dg {lo hi x2 : Int32} {n : Nat} {Post : Int32 → St → Prop} {m : St} : ∀ (j fuel i a : Nat) (v : Int32) (c : St), VT c m n → c 1 3 = nI a → a + j = n → i ≤ a → j < fuel → w_X6_readNumber_J70 Post lo hi x2 (cvF (m 5) j a v) (up c 1 3 (nI (dgF (m 5) j a))) → w_X6_readNumber_L15 Post fuel lo hi x2 v (nI i) c := by
  intro j
  induction j with
  | zero =>
    intro fuel i a v c hT h3 h1 hia h2 h4
    obtain ⟨fl, rfl⟩ : ∃ z, fuel = z + 1 := ⟨fuel - 1, by omega⟩
    have h4' : w_X6_readNumber_J70 Post lo hi x2 v c := by
      have := h4
      unfold dgF cvF at this
      rw [← h3, up_same] at this; exact this
    refine ⟨fun _ => h4', fun _ => C_lt hT h3 (by omega) (figC.mpr ⟨fun _ => h4', fun q => absurd ?_ q⟩)⟩
    rw [show ltF (m 5) n a = -1 by unfold ltF; rw [if_neg (by omega)]]; decide
  | succ j ih =>
    intro fuel i a v c hT h3 h1 hia h2 h4
    obtain ⟨fl, rfl⟩ : ∃ z, fuel = z + 1 := ⟨fuel - 1, by omega⟩
    have hn := hT.2.2.1
    refine ⟨fun q => absurd q (nI_ge (a := i) (b := 230) (by omega) (by decide)), fun _ => C_lt hT h3 (by omega) (figC.mpr ?_)⟩
    unfold dgF cvF at h4
    rw [show ltF (m 5) n a = m 5 a by unfold ltF; rw [if_pos (by omega)]]
    by_cases q : fig (m 5 a)
    · rw [if_pos q] at h4 ⊢
      rw [if_pos q] at h4
      refine ⟨fun y => absurd y (by decide), fun _ => C_lt hT h3 (by omega) ?_⟩
      rw [show ltF (m 5) n a = m 5 a by unfold ltF; rw [if_pos (by omega)]]
      rintro _ rfl _ rfl _ rfl
      rw [nI_1, h3, nI_1]
      refine ih fl (i + 1) (a + 1) _ _ (hT.congr (by simp [up_at]) (by rw [up_ne (by decide)]) rfl rfl) (by simp [up_at]) (by omega) (by omega) (by omega) ?_
      rw [up_up]; exact h4
    · rw [if_neg q] at h4 ⊢
      rw [if_neg q, ← h3, up_same] at h4
      exact ⟨fun _ => h4, fun y => absurd rfl y⟩
theorem M_dg {lo hi : Int32} {n : Nat} {Post : Int32 → St → Prop} {c : St} : ∀ (j fuel a : Nat) (m : St), VT c m n → m 0 17 = nI a → a + j = n → j < fuel → w_X9_takeNumber_J129 Post lo hi (up (up m 0 18 (mvF (m 5) j a (m 0 18))) 0 17 (nI (dgF (m 5) j a))) → w_X9_takeNumber_L42 Post fuel lo hi m := by
  intro j
  induction j with
  | zero =>
    intro fuel a m hT h3 h1 h2 h4
    obtain ⟨fl, rfl⟩ : ∃ z, fuel = z + 1 := ⟨fuel - 1, by omega⟩
    obtain ⟨t1, t2, t3, t4⟩ := hT
    unfold dgF mvF at h4
    rw [up_same, ← h3, up_same] at h4
    have le : m 0 15 ≤ m 0 17 := by rw [t2, h3]; exact nI_le (by omega) (by omega)
    exact ⟨fun _ => h4, fun q => absurd le q⟩
  | succ j ih =>
    intro fuel a m hT h3 h1 h2 h4
    obtain ⟨fl, rfl⟩ : ∃ z, fuel = z + 1 := ⟨fuel - 1, by omega⟩
    obtain ⟨t1, t2, t3, t4⟩ := id hT
    have nle : ¬ m 0 15 ≤ m 0 17 := by rw [t2, h3]; exact nI_ge (by omega) (by omega)
    refine ⟨fun q => absurd q nle, fun _ => ⟨vin h3 (by omega), ?_⟩⟩
    unfold dgF mvF at h4
    rw [h3, nI_clamp (by omega)]
    refine figM.mpr ?_
    by_cases q : fig (m 5 a)
    · rw [if_pos q] at h4 ⊢
      rw [if_pos q] at h4
      have nx : ∀ s0 : Int32, s0 = (if m 0 18 ≤ 10000 then (((10 : Int32) * m 0 18) + m 5 a) - (48 : Int32) else m 0 18) → w_X9_takeNumber_J113 (w_X9_takeNumber_L42 Post fl) Post lo hi s0 m := by
        rintro s0 hs _ rfl _ rfl
        have e17 : up m 0 18 s0 0 17 = nI a := by simp [up_at]; exact h3
        rw [e17, nI_1]
        have e5 : up (up m 0 18 s0) 0 17 (nI (a + 1)) 5 = m 5 := by rw [up_ne (by decide), up_ne (by decide)]
        refine ih fl (a + 1) _ (hT.congr rfl rfl (by simp [up_at]) e5) (by simp [up_at]) (by omega) (by omega) ?_
        rw [e5, show up (up m 0 18 s0) 0 17 (nI (a + 1)) 0 18 = s0 by simp [up_at], hs]
        rw [show ∀ (x y z w : Int32), up (up (up (up m 0 18 x) 0 17 y) 0 18 z) 0 17 w = up (up m 0 18 z) 0 17 w from fun x y z w => by
          funext i k
          simp only [up_at]
          by_cases z1 : i = 0 ∧ k = 17
          · simp [z1]
          · simp [z1]; by_cases z2 : i = 0 ∧ k = 18
            · simp [z2]
            · simp [z2]]
        exact h4
      refine ⟨fun y => absurd y (by decide), fun _ => ⟨fun y => ⟨vin h3 (by omega), ?_⟩, fun y => ?_⟩⟩
      · rw [h3, nI_clamp (by omega)]; exact nx _ (by rw [if_pos y])
      · exact nx _ (by rw [if_neg y])
    · rw [if_neg q] at h4 ⊢
      rw [if_neg q, up_same, ← h3, up_same] at h4
      exact ⟨fun _ => h4, fun y => absurd rfl y⟩
/-- one number, read by both -/
theorem J_num (lo hi : Int32) {c m : St} {n a : Nat} (hT : VT c m n) (hA : VA c m n a) : ∃ (r : Int32) (c' : St) (q : Int32) (m' : St),
    (∀ Post : Int32 → St → Prop, Post r c' → w_X6_readNumber lo hi c Post) ∧ (∀ Post : Int32 → St → Prop, Post q m' → w_X9_takeNumber lo hi m Post) ∧
    (∀ j, j ≠ 0 → m' j = m j) ∧ (∀ k, k < 16 ∨ 19 < k → m' 0 k = m 0 k) ∧
    ((q = 0 ∧ ∃ v e : Nat, r = nI v ∧ v ≤ 999 ∧ lo ≤ nI v ∧ nI v ≤ hi ∧ e ≤ n ∧ a < e ∧ c' = up c 1 3 (nI e) ∧ m' 0 17 = nI e ∧ m' 0 18 = nI v ∧ m' 0 16 = m 0 16) ∨
     ((q = 1 ∨ q = 2) ∧ c' 1 1 = q ∧ c' 1 2 = m' 0 16 ∧ c' 1 0 = c 1 0 ∧ ∀ j, j ≠ 1 → c' j = c j)) := by
  obtain ⟨a1, a2, a3, a4⟩ := hA
  have hn := hT.2.2.1
  have hs := skF_le (m 5) (n - a) a
  generalize es : skF (m 5) (n - a) a = s at hs
  have hd := dgF_le (m 5) (n - s) s
  have T1 : VT (up c 1 3 (nI s)) m n := hT.congr (by simp [up_at]) (by rw [up_ne (by decide)]) rfl rfl
  have T2 : VT c (up m 0 17 (nI s)) n := hT.congr rfl rfl (by simp [up_at]) (by rw [up_ne (by decide)])
  have hC : ∀ Post : Int32 → St → Prop, w_X6_readNumber_J70 Post lo hi (nI s) (cvF (m 5) (n - s) s 0) (up c 1 3 (nI (dgF (m 5) (n - s) s))) → w_X6_readNumber lo hi c Post := by
    intro Post hP
    refine C_skip hT a2 a4 ?_
    rw [es]
    rintro _ rfl
    have e3 : up c 1 3 (nI s) 1 3 = nI s := by simp [up_at]
    rw [e3]
    refine C_dg (n - s) FU 0 s 0 _ T1 e3 (by omega) (by omega) (by show n - s < 1100; omega) ?_
    rw [up_up]
    exact hP
  by_cases hfig : s < n ∧ fig (m 5 s)
  · have hlt : ltF (m 5) n s = m 5 s := by unfold ltF; rw [if_pos hfig.1]
    have hdg : s < dgF (m 5) (n - s) s := by
      obtain ⟨z, hz⟩ : ∃ z, n - s = z + 1 := ⟨n - s - 1, by omega⟩
      rw [hz]; unfold dgF; rw [if_pos hfig.2]
      have := dgF_le (m 5) z (s + 1); omega
    generalize ed : dgF (m 5) (n - s) s = e at hd hC hdg
    have hM : ∀ Post : Int32 → St → Prop, w_X9_takeNumber_J129 Post lo hi (up (up (up (up m 0 19 (nI s)) 0 17 (nI s)) 0 18 (mvF (m 5) (n - s) s 0)) 0 17 (nI e)) → w_X9_takeNumber lo hi m Post := by
      intro Post hP
      refine M_here hT a3 a4 ?_
      rw [es, hlt]
      refine figM.mpr ?_
      rw [if_pos hfig.2]
      refine ⟨fun _ => ?_, fun y => absurd y (by decide)⟩
      rintro _ rfl _ rfl
      have e17 : up m 0 17 (nI s) 0 17 = nI s := by simp [up_at]
      rw [e17]
      have e5 : up (up (up m 0 17 (nI s)) 0 19 (nI s)) 0 18 0 5 = m 5 := by rw [up_ne (by decide), up_ne (by decide), up_ne (by decide)]
      refine M_dg (n - s) FU s _ (hT.congr rfl rfl (by simp [up_at]) e5) (by simp [up_at]) (by omega) (by show n - s < 1100; omega) ?_
      rw [e5, ed, show up (up (up m 0 17 (nI s)) 0 19 (nI s)) 0 18 0 0 18 = 0 by simp [up_at]]
      rw [show ∀ (z w : Int32), up (up (up (up (up m 0 17 (nI s)) 0 19 (nI s)) 0 18 0) 0 18 z) 0 17 w = up (up (up (up m 0 19 (nI s)) 0 17 (nI s)) 0 18 z) 0 17 w from fun z w => by
        funext i k
        simp only [up_at]
        by_cases z0 : i = 0
        · subst z0
          by_cases z1 : k = 17 <;> by_cases z2 : k = 18 <;> by_cases z3 : k = 19 <;> simp [z1, z2, z3]
        · simp [z0]]
      exact hP
    have f0 : ∀ (x : Int32) (j : Nat), j ≠ 0 → up (up (up (up m 0 19 (nI s)) 0 17 (nI s)) 0 18 x) 0 17 (nI e) j = m j := fun x j hj => by rw [up_ne hj, up_ne hj, up_ne hj, up_ne hj]
    have f1 : ∀ (x : Int32) (k : Nat), (k < 16 ∨ 19 < k) → up (up (up (up m 0 19 (nI s)) 0 17 (nI s)) 0 18 x) 0 17 (nI e) 0 k = m 0 k := fun x k hk => by
      rw [up_at, if_neg (by omega), up_at, if_neg (by omega), up_at, if_neg (by omega), up_at, if_neg (by omega)]
    have g17 : ∀ x : Int32, up (up (up (up m 0 19 (nI s)) 0 17 (nI s)) 0 18 x) 0 17 (nI e) 0 17 = nI e := fun x => by simp [up_at]
    have g18 : ∀ x : Int32, up (up (up (up m 0 19 (nI s)) 0 17 (nI s)) 0 18 x) 0 17 (nI e) 0 18 = x := fun x => by simp [up_at]
    have g19 : ∀ x : Int32, up (up (up (up m 0 19 (nI s)) 0 17 (nI s)) 0 18 x) 0 17 (nI e) 0 19 = nI s := fun x => by simp [up_at]
    have h3 : up c 1 3 (nI e) 1 3 = nI e := by simp [up_at]
    have h1 : up c 1 3 (nI e) 1 1 = 0 := by simp [up_at]; exact a1
    have hne : ¬ nI e = nI s := fun z => absurd (nI_inj (by omega) (by omega) z) (by omega)
    have hlen : ∀ b : Nat, b < 2 ^ 30 → ((nI b < nI e - nI s) ↔ b < e - s) := fun b hb => by
      rw [pk_sub (by omega), Int32.lt_iff_toInt_lt, nI_toInt (by omega), nI_toInt (by omega)]; omega
    by_cases hb : (¬ (e - s ≤ 3) ∨ ∃ v : Nat, e - s ≤ 3 ∧ cvF (m 5) (n - s) s 0 = nI v ∧ mvF (m 5) (n - s) s 0 = nI v ∧ ¬ (lo ≤ nI v ∧ nI v ≤ hi))
    · refine ⟨lo, up (up (up c 1 3 (nI e)) 1 1 2) 1 2 (nI s), 2, up (up (up (up (up m 0 19 (nI s)) 0 17 (nI s)) 0 18 (mvF (m 5) (n - s) s 0)) 0 17 (nI e)) 0 16 (nI s), by
        intro Post hP
        refine hC Post ?_
        unfold w_X6_readNumber_J70
        rw [h3]
        have J : w_X6_readNumber_J106 Post lo (nI s) (up c 1 3 (nI e)) := ⟨fun y => absurd h1 y, fun _ => by rintro _ rfl _ rfl; exact hP⟩
        refine ⟨fun _ => ⟨fun _ => J, fun y => ?_⟩, fun y => absurd y hne⟩
        rcases hb with hb | ⟨v, hb, k1, k2, k3⟩
        · exact absurd ((hlen 3 (by decide)).mpr (by omega)) y
        · rw [k1, isW, if_neg k3]
          exact ⟨fun y => absurd rfl y, fun _ => J⟩, by
        intro Post hP
        refine hM Post ?_
        unfold w_X9_takeNumber_J129 w_X9_takeNumber_J157
        rw [g17, g18, g19]
        have J : w_X9_fails 2 (nI s) (up (up (up (up m 0 19 (nI s)) 0 17 (nI s)) 0 18 (mvF (m 5) (n - s) s 0)) 0 17 (nI e)) Post := by rintro _ rfl; exact hP
        refine ⟨fun _ => J, fun y => ?_⟩
        rcases hb with hb | ⟨v, hb, k1, k2, k3⟩
        · exact absurd ((hlen 3 (by decide)).mpr (by omega)) y
        · rw [k2] at J ⊢
          refine (inM _ _ _ _ _).mpr ?_
          rw [if_neg k3]
          exact ⟨fun y => absurd rfl y, fun _ => J⟩, fun j hj => by rw [up_ne hj]; exact f0 _ j hj, fun k hk => by rw [up_at, if_neg (by omega)]; exact f1 _ k hk,
        Or.inr ⟨Or.inr rfl, by simp [up_at], by simp [up_at], by simp [up_at], fun j hj => by rw [up_ne hj, up_ne hj, up_ne hj]⟩⟩
    · have h33 : e - s ≤ 3 := Classical.byContradiction (fun z => hb (Or.inl z))
      obtain ⟨v, hv, k1, k2⟩ := val3 (L := m 5) (n := n) (fun k hk => (hT.2.2.2 k hk).2) (n - s) s 0 0 (by omega) (by decide) (by decide) (by rw [ed]; omega)
      have h44 : lo ≤ nI v ∧ nI v ≤ hi := Classical.byContradiction (fun z => hb (Or.inr ⟨v, h33, k1, k2, z⟩))
      · refine ⟨nI v, up c 1 3 (nI e), 0, up (up (up (up m 0 19 (nI s)) 0 17 (nI s)) 0 18 (nI v)) 0 17 (nI e), ?_, ?_, f0 _, f1 _, Or.inl ⟨rfl, v, e, rfl, hv, h44.1, h44.2, by omega, by omega, rfl, g17 _, g18 _, by simp [up_at]⟩⟩
        · intro Post hP
          refine hC Post ?_
          unfold w_X6_readNumber_J70
          rw [h3, show cvF (m 5) (n - s) s 0 = nI v from k1]
          refine ⟨fun _ => ⟨fun y => absurd ((hlen 3 (by decide)).mp y) (by omega), fun _ => ?_⟩, fun y => absurd y hne⟩
          rw [isW, if_pos h44]
          exact ⟨fun _ => hP, fun y => absurd y (by decide)⟩
        · intro Post hP
          refine hM Post ?_
          rw [show mvF (m 5) (n - s) s 0 = nI v from k2]
          unfold w_X9_takeNumber_J129
          rw [g17, g18, g19]
          refine ⟨fun y => absurd ((hlen 3 (by decide)).mp y) (by omega), fun _ => (inM _ _ _ _ _).mpr ?_⟩
          rw [if_pos h44]
          exact ⟨fun _ => hP, fun y => absurd y (by decide)⟩
  · have hnf : ¬ fig (ltF (m 5) n s) := by
      unfold ltF
      split
      · rename_i z; exact fun y => hfig ⟨z, y⟩
      · decide
    have ed : dgF (m 5) (n - s) s = s := by
      cases hz : n - s with
      | zero => rfl
      | succ z =>
        unfold dgF
        rw [if_neg (fun y => hfig ⟨by omega, y⟩)]
    refine ⟨lo, up (up (up c 1 3 (nI s)) 1 1 1) 1 2 (nI s), 1, up (up m 0 17 (nI s)) 0 16 (nI s), ?_, ?_, fun j hj => by rw [up_ne hj, up_ne hj], fun k hk => by rw [up_at, if_neg (by omega), up_at, if_neg (by omega)], Or.inr ⟨Or.inl rfl, by simp [up_at], by simp [up_at], by simp [up_at], fun j hj => by rw [up_ne hj, up_ne hj, up_ne hj]⟩⟩
    · intro Post hP
      refine hC Post ?_
      rw [ed]
      have h3 : up c 1 3 (nI s) 1 3 = nI s := by simp [up_at]
      have h1 : up c 1 3 (nI s) 1 1 = 0 := by simp [up_at]; exact a1
      unfold w_X6_readNumber_J70
      rw [h3]
      refine ⟨fun y => absurd rfl y, fun _ => ⟨fun y => absurd h1 y, fun _ => ?_⟩⟩
      rintro _ rfl _ rfl
      exact hP
    · intro Post hP
      refine M_here hT a3 a4 ?_
      rw [es]
      refine figM.mpr ?_
      rw [if_neg hnf]
      refine ⟨fun y => absurd rfl y, fun _ => ?_⟩
      rintro _ rfl
      rw [show up m 0 17 (nI s) 0 17 = nI s by simp [up_at]]
      exact hP
