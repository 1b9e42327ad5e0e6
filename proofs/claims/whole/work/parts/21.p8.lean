/-! ===== pure: undo, images, told, turns, nods, guide ===== -/
theorem R.img {c m c' m' : St} (h : R c m) (h1 : ∀ j, j ≠ 11 → j ≠ 14 → j ≠ 43 → ¬ (44 ≤ j ∧ j ≤ 47) → c' j = c j) (h2 : ∀ j, j ≠ 0 → j ≠ 4 → j ≠ 21 → j ≠ 22 → m' j = m j) (h4 : ∀ k, k ≠ 31 → k ≠ 13 → m' 0 k = m 0 k)
    (hN : RN (c' 11) (m' 4)) (hI : RIm c' m') (h0 : c' 14 0 = 0) (h01 : c' 14 1 = c 14 1) (h31 : m' 0 31 = 0) (hs : c' 43 0 = m' 0 13) : R c' m' := by
  obtain ⟨a1, a2, a3, a4, a5, a6, a7⟩ := h
  refine ⟨a1.congr (fun j _ _ => h1 j (by omega) (by omega) (by omega) (by omega)) (fun j _ _ => h2 j (by omega) (by omega) (by omega) (by omega)) (fun k _ => h4 k (by omega) (by omega)), hN, ?_,
    a4.congr (fun j _ _ => h1 j (by omega) (by omega) (by omega) (by omega)) (fun j _ _ => h2 j (by omega) (by omega) (by omega) (by omega)) (h4 35 (by decide) (by decide)) (h4 38 (by decide) (by decide)) (h4 42 (by decide) (by decide)),
    hI, a6.congr (by rw [h1 1 (by decide) (by decide) (by decide) (by decide)]) (by rw [h1 1 (by decide) (by decide) (by decide) (by decide)]) (h1 2 (by decide) (by decide) (by decide) (by decide)) (h2 5 (by decide) (by decide) (by decide) (by decide)) (h4 15 (by decide) (by decide)) (h4 16 (by decide) (by decide)), hs⟩
  obtain ⟨cnt, nx, b1, b2, b3, b4, b5, b6⟩ := a3
  exact ⟨0, nx, by omega, b2, h0, by rw [h01]; exact b4, h31, fun j hj => absurd hj (Nat.not_lt_zero j)⟩
theorem P_undo {c m : St} (h : R c m) : w_X8_undo c (fun r c' => w_X9_undo m (fun r' m' => r = r' ∧ R c' m')) := by
  obtain ⟨cnt, nx, a1, a2, a3, a4, a5, a6⟩ := h.2.2.1
  have ex : (((c 14 1) + (20 : Int32)) - (1 : Int32)) - (((c 14 1) + (20 : Int32)) - (1 : Int32)) / (20 : Int32) * (20 : Int32) = nI ((nx + 19) % 20) := by
    rw [a4, show (20 : Int32) = nI 20 from rfl, nI_add, show nI (nx + 20) - (1 : Int32) = nI (nx + 19) from pk_sub (a := nx + 20) (b := 1) (by omega)]
    exact modl (by omega) (by decide) (by decide)
  rintro _ rfl
  refine C_slotAt ex (Nat.mod_lt _ (by decide)) ?_
  rw [ex]
  by_cases h0 : cnt = 0
  · subst h0
    refine ⟨fun _ => ?_, fun q => absurd (by rw [a3]; decide) q⟩
    refine ⟨fun _ => ?_, fun q => absurd rfl q⟩
    unfold w_X9_undo
    rw [a5]
    exact ⟨fun q => absurd rfl q, fun _ => ⟨rfl, h⟩⟩
  · refine ⟨fun q => absurd q (by rw [a3]; exact nI_nlt (b := 1) (by omega) (by omega)), fun _ => ⟨fun q => absurd q (by simp), ?_⟩⟩
    rintro _ ⟨⟩
    have hlt : (nx + 19) % 20 < 20 := Nat.mod_lt _ (by decide)
    have hRN := a6 0 (by omega)
    rw [show (nx + 19 - 0) % 20 = (nx + 19) % 20 from rfl] at hRN
    refine ⟨⟨kd_night hlt, by show 16 + (nx + 19) % 20 < 48; omega⟩, C_copyFrom (by omega) hRN.b3 hRN.b4 (fun f hf => ?_)⟩
    rintro _ rfl _ rfl
    refine ⟨fun q => absurd q (by decide), fun _ => ?_⟩
    unfold w_X9_undo
    rw [a5]
    refine ⟨fun _ => ?_, fun q => absurd q (nI_ne0 (by omega) (by omega))⟩
    rintro _ rfl
    have es : nI cnt - (1 : Int32) = nI (cnt - 1) := pk_sub (b := 1) (by omega)
    have e14 : upc c 11 f 14 = c 14 := by simp [upc_at]
    have e0 : up (upc c 11 f) 14 1 (nI ((nx + 19) % 20)) 14 0 = nI cnt := by simp [up_at, e14, a3]
    rw [es, e0, es]
    refine up_loop (L := fun n k σ' => w_X9_undo_L22 _ n k σ') (N := 12) (I := fun k σ' => ∃ g : Nat → Int32, σ' = upc (up m 0 31 (nI (cnt - 1))) 4 g ∧ ∀ j, j < k → g j = m 12 (12 * (cnt - 1) + j)) ?_ ?_ 12 FU 0 _ rfl (by decide) ⟨_, upc_self.symm, fun j hj => absurd hj (Nat.not_lt_zero j)⟩
    · rintro n _ ⟨g, rfl, hg⟩
      refine ⟨fun _ => ⟨by simp [up_at, upc_at], ?_⟩, fun q => absurd (by decide) q⟩
      refine R.act h (fun j j1 _ _ j4 _ _ => by rw [up_ne j4, up_ne j4, upc_at, if_neg j1]) (fun j j1 j2 _ _ => by rw [upc_at, if_neg j2, up_ne j1]) (fun k _ k2 _ => by rw [upc_at, if_neg (by decide), up_at, if_neg (by omega)]) ?_ ?_ ?_
      · rw [up_ne (by decide), up_ne (by decide), upc_same, upc_same]
        exact hRN.eq12 hf (fun k hk => hg k hk)
      · refine ⟨cnt - 1, (nx + 19) % 20, by omega, hlt, by simp [up_at], by simp [up_at], by simp [up_at, upc_at], fun j hj => ?_⟩
        rw [up_ne (by omega), up_ne (by omega), upc_at, if_neg (by omega), upc_at, if_neg (by decide), up_ne (by decide)]
        have := a6 (j + 1) (by omega)
        rw [show ((nx + 19) % 20 + 19 - j) % 20 = (nx + 19 - (j + 1)) % 20 by omega, show cnt - 1 - 1 - j = cnt - 1 - (j + 1) by omega]
        exact this
      · rw [up_ne (by decide), up_ne (by decide), upc_at, if_neg (by decide), upc_at, if_neg (by decide), up_at, if_neg (by decide)]
        exact h.2.2.2.2.2.2
    · rintro n k _ hk ⟨g, rfl, hg⟩ K
      have e31 : upc (up m 0 31 (nI (cnt - 1))) 4 g 0 31 = nI (cnt - 1) := by simp [up_at, upc_at]
      have ei : (12 : Int32) * nI (cnt - 1) + nI k = nI (12 * (cnt - 1) + k) := by rw [show (12 : Int32) = nI 12 from rfl, pk_mul, nI_add]
      refine ⟨fun q => absurd q (nI_ge (b := 12) hk (by decide)), fun _ => ⟨by rw [e31, ei]; exact vin rfl (by omega), vin rfl hk, ?_⟩⟩
      rintro _ rfl _ rfl
      rw [nI_1, e31, ei, cl_nI (by omega), cl_nI (by omega), up_upc]
      refine K _ ⟨_, rfl, fun j hj => ?_⟩
      rw [upd_at]
      by_cases e : j = k
      · rw [if_pos e, e, upc_at, if_neg (by decide), up_ne (by decide)]
      · rw [if_neg e]; exact hg j (by omega)
theorem M_keep {i : Nat} {p : Int32} {m : St} {Post : Int32 → St → Prop} (hp : p = nI i) (hi : i < 2) (h : ∀ g : Nat → Int32, (∀ k, k < 12 → g (13 * i + k) = m 4 k) → g (13 * i + 12) = m 0 13 → (∀ q, (q < 13 * i ∨ 13 * i + 13 ≤ q) → g q = m 21 q) → Post 1 (up (up (upc m 21 g) 22 i 1) 0 31 0)) : w_X9_keep_L15 Post FU p 0 m := by
  subst hp
  have e13 : ∀ k : Nat, (13 : Int32) * nI i + nI k = nI (13 * i + k) := fun k => by rw [show (13 : Int32) = nI 13 from rfl, pk_mul, nI_add]
  refine up_loop (L := fun n k σ' => w_X9_keep_L15 Post n (nI i) k σ') (N := 12) (I := fun k σ' => ∃ g : Nat → Int32, σ' = upc m 21 g ∧ (∀ j, j < k → g (13 * i + j) = m 4 j) ∧ ∀ q, (q < 13 * i ∨ 13 * i + 13 ≤ q) → g q = m 21 q) ?_ ?_ 12 FU 0 m rfl (by decide) ⟨m 21, upc_self.symm, fun j hj => absurd hj (Nat.not_lt_zero j), fun _ _ => rfl⟩
  · rintro n _ ⟨g, rfl, h1, h2⟩
    refine ⟨fun _ => ?_, fun q => absurd (by decide) q⟩
    rw [show (13 : Int32) * nI i + 12 = nI (13 * i + 12) from e13 12]
    refine ⟨vin rfl (by omega), ?_⟩
    rintro _ rfl
    refine ⟨vin rfl hi, ?_⟩
    rintro _ rfl _ rfl
    rw [cl_nI (by omega), cl_nI (by omega), up_upc, upc_at, if_neg (by decide)]
    refine h _ (fun k hk => ?_) (by simp [upd]) (fun q hq => ?_)
    · rw [upd_at, if_neg (by omega)]; exact h1 k hk
    · rw [upd_at, if_neg (by omega)]; exact h2 q hq
  · rintro n k _ hk ⟨g, rfl, h1, h2⟩ K
    refine ⟨fun q => absurd q (nI_ge (b := 12) hk (by decide)), fun _ => ⟨vin rfl hk, ?_, ?_⟩⟩
    · rw [e13]; exact vin rfl (by omega)
    · rintro _ rfl _ rfl
      rw [nI_1, e13, cl_nI (by omega), cl_nI (by omega), up_upc, upc_at, if_neg (by decide)]
      refine K _ ⟨_, rfl, fun j hj => ?_, fun q hq => ?_⟩
      · rw [upd_at]
        by_cases e : j = k
        · rw [if_pos (by rw [e]), e]
        · rw [if_neg (by omega)]; exact h1 j (by omega)
      · rw [upd_at, if_neg (by omega)]; exact h2 q hq
theorem M_back {i : Nat} {p : Int32} {m : St} {Post : Int32 → St → Prop} (hp : p = nI i) (hi : i < 2) (h : ∀ f : Nat → Int32, (∀ k, k < 12 → f k = m 21 (13 * i + k)) → Post 1 (up (up (upc m 4 f) 0 13 (m 21 (13 * i + 12))) 0 31 0)) : w_X9_goBack_L27 Post FU p 0 m := by
  subst hp
  have e13 : ∀ k : Nat, (13 : Int32) * nI i + nI k = nI (13 * i + k) := fun k => by rw [show (13 : Int32) = nI 13 from rfl, pk_mul, nI_add]
  refine up_loop (L := fun n k σ' => w_X9_goBack_L27 Post n (nI i) k σ') (N := 12) (I := fun k σ' => ∃ g : Nat → Int32, σ' = upc m 4 g ∧ ∀ j, j < k → g j = m 21 (13 * i + j)) ?_ ?_ 12 FU 0 m rfl (by decide) ⟨m 4, upc_self.symm, fun j hj => absurd hj (Nat.not_lt_zero j)⟩
  · rintro n _ ⟨g, rfl, h1⟩
    refine ⟨fun _ => ?_, fun q => absurd (by decide) q⟩
    rw [show (13 : Int32) * nI i + 12 = nI (13 * i + 12) from e13 12]
    refine ⟨vin rfl (by omega), ?_⟩
    rintro _ rfl _ rfl
    rw [cl_nI (by omega), upc_at, if_neg (by decide)]
    exact h g h1
  · rintro n k _ hk ⟨g, rfl, h1⟩ K
    refine ⟨fun q => absurd q (nI_ge (b := 12) hk (by decide)), fun _ => ⟨?_, vin rfl hk, ?_⟩⟩
    · rw [e13]; exact vin rfl (by omega)
    · rintro _ rfl _ rfl
      rw [nI_1, e13, cl_nI (by omega), cl_nI (by omega), up_upc, upc_at, if_neg (by decide)]
      refine K _ ⟨_, rfl, fun j hj => ?_⟩
      rw [upd_at]
      by_cases e : j = k
      · rw [if_pos e, e]
      · rw [if_neg e]; exact h1 j (by omega)
theorem n01 {p : Int32} (h : (0 : Int32) ≤ p ∧ p ≤ 1) : p = 0 ∨ p = 1 := by
  obtain ⟨w, hw, rfl⟩ := nI_of2 (M := 1) (n := 1) rfl (Int32.not_lt.mpr h.1) h.2
  have : w = 0 ∨ w = 1 := by omega
  rcases this with rfl | rfl
  · exact Or.inl rfl
  · exact Or.inr rfl
theorem P_keep {p : Int32} {c m : St} (h : R c m) : w_X8_keep p c (fun r c' => w_X9_keep p m (fun r' m' => r = r' ∧ R c' m')) := by
  obtain ⟨i1, i2⟩ := h.2.2.2.2.1
  unfold w_X8_keep w_X8_imageAt
  by_cases hp : (0 : Int32) ≤ p ∧ p ≤ 1
  · rcases n01 hp with rfl | rfl
    · refine ⟨fun q => absurd rfl q, fun _ => ⟨fun q => absurd q (by simp), ?_⟩⟩
      rintro _ ⟨⟩
      refine Or.inl ⟨rfl, ?_⟩
      rintro _ rfl
      refine C_copyFrom (by decide) (by rw [up_ne (by decide)]; exact h.2.1.b3) (by rw [up_ne (by decide)]; exact h.2.1.b4) (fun f hf => ?_)
      rw [up_ne (by decide)] at hf
      rintro _ rfl _ rfl
      unfold w_X9_keep
      rw [in_0_1, if_pos (by decide)]
      refine (b1' (A := _)).mpr (M_keep (i := 0) rfl (by decide) (fun g h1 h2 h3 => ⟨rfl, ?_⟩))
      refine R.img h (fun j j1 j2 j3 j4 => by rw [up_ne j2, up_ne (by omega), upc_at, if_neg (by omega), up_ne (by omega)]) (fun j j1 j2 j3 j4 => by rw [up_ne j1, up_ne j4, upc_at, if_neg j3]) (fun k k1 k2 => by simp [up_at, upc_at, k1]) ?_ ?_ (by simp [up_at]) (by simp [up_at, upc_at]) (by simp [up_at]) (by simp [up_at, upc_at]; exact h.2.2.2.2.2.2)
      · rw [up_ne (by decide), up_ne (by decide), upc_at, if_neg (by decide), up_ne (by decide), up_ne (by decide), up_ne (by decide), upc_at, if_neg (by decide)]
        exact h.2.1
      · refine ⟨⟨by simp [up_at, upc_at], fun _ => ⟨?_, ?_⟩⟩, ⟨by simpa [up_at, upc_at] using i2.1, fun q => ?_⟩⟩
        · rw [up_ne (by decide), up_ne (by decide), upc_same, up_ne (by decide), up_ne (by decide), upc_same]
          exact h.2.1.eq12 hf (fun k hk => by have := h1 k hk; rw [show 13 * 0 + k = k by omega] at this; exact this)
        · have := h2
          simp [up_at, upc_at] at this ⊢
          rw [this]; exact h.2.2.2.2.2.2
        · have q2 := i2.2 (by simpa [up_at, upc_at] using q)
          refine ⟨?_, ?_⟩
          · rw [up_ne (by decide), up_ne (by decide), upc_at, if_neg (by decide), up_ne (by decide), up_ne (by decide), up_ne (by decide), upc_same]
            exact q2.1.eq12 (fun _ _ => rfl) (fun k hk => h3 (13 + k) (Or.inr (by omega)))
          · rw [up_ne (by decide), up_ne (by decide), upc_at, if_neg (by decide), up_ne (by decide), up_ne (by decide), up_ne (by decide), upc_same, h3 25 (Or.inr (by decide))]
            exact q2.2
    · refine ⟨fun _ => ⟨fun q => absurd rfl q, fun _ => ⟨fun q => absurd q (by simp), ?_⟩⟩, fun q => absurd q (by decide)⟩
      rintro _ ⟨⟩
      refine Or.inr ⟨rfl, ?_⟩
      rintro _ rfl
      refine C_copyFrom (by decide) (by rw [up_ne (by decide)]; exact h.2.1.b3) (by rw [up_ne (by decide)]; exact h.2.1.b4) (fun f hf => ?_)
      rw [up_ne (by decide)] at hf
      rintro _ rfl _ rfl
      unfold w_X9_keep
      rw [in_0_1, if_pos (by decide)]
      refine (b1' (A := _)).mpr (M_keep (i := 1) rfl (by decide) (fun g h1 h2 h3 => ⟨rfl, ?_⟩))
      refine R.img h (fun j j1 j2 j3 j4 => by rw [up_ne j2, up_ne (by omega), upc_at, if_neg (by omega), up_ne (by omega)]) (fun j j1 j2 j3 j4 => by rw [up_ne j1, up_ne j4, upc_at, if_neg j3]) (fun k k1 k2 => by simp [up_at, upc_at, k1]) ?_ ?_ (by simp [up_at]) (by simp [up_at, upc_at]) (by simp [up_at]) (by simp [up_at, upc_at]; exact h.2.2.2.2.2.2)
      · rw [up_ne (by decide), up_ne (by decide), upc_at, if_neg (by decide), up_ne (by decide), up_ne (by decide), up_ne (by decide), upc_at, if_neg (by decide)]
        exact h.2.1
      · refine ⟨⟨by simpa [up_at, upc_at] using i1.1, fun q => ?_⟩, ⟨by simp [up_at, upc_at], fun _ => ⟨?_, ?_⟩⟩⟩
        · have q2 := i1.2 (by simpa [up_at, upc_at] using q)
          refine ⟨?_, ?_⟩
          · rw [up_ne (by decide), up_ne (by decide), upc_at, if_neg (by decide), up_ne (by decide), up_ne (by decide), up_ne (by decide), upc_same]
            exact q2.1.eq12 (fun _ _ => rfl) (fun k hk => h3 k (Or.inl (by omega)))
          · rw [up_ne (by decide), up_ne (by decide), upc_at, if_neg (by decide), up_ne (by decide), up_ne (by decide), up_ne (by decide), upc_same, h3 12 (Or.inl (by decide))]
            exact q2.2
        · rw [up_ne (by decide), up_ne (by decide), upc_same, up_ne (by decide), up_ne (by decide), upc_same]
          exact h.2.1.eq12 hf (fun k hk => by have := h1 k hk; rw [show 13 * 1 + k = 13 + k by omega] at this; exact this)
        · have := h2
          simp [up_at, upc_at] at this ⊢
          rw [this]; exact h.2.2.2.2.2.2
  · have p0 : ¬ p = 0 := fun q => hp (by rw [q]; decide)
    have p1 : ¬ p = 1 := fun q => hp (by rw [q]; decide)
    refine ⟨fun _ => ⟨fun _ => ⟨fun _ => ?_, fun i q => absurd q (by simp)⟩, fun q => absurd q p1⟩, fun q => absurd q p0⟩
    refine (in_0_1 _ _ _).mpr ?_
    rw [if_neg hp]
    exact (b0' (B := _)).mpr ⟨rfl, h⟩
theorem P_goBack {p : Int32} {c m : St} (h : R c m) : w_X8_goBack p c (fun r c' => w_X9_goBack p m (fun r' m' => r = r' ∧ R c' m')) := by
  obtain ⟨i1, i2⟩ := h.2.2.2.2.1
  unfold w_X8_goBack w_X8_imageAt
  by_cases hp : (0 : Int32) ≤ p ∧ p ≤ 1
  · rcases n01 hp with rfl | rfl
    · refine ⟨fun q => absurd rfl q, fun _ => ⟨fun q => absurd q (by simp), ?_⟩⟩
      rintro _ ⟨⟩
      refine Or.inl ⟨rfl, ?_⟩
      refine ⟨fun hk => ?_, fun hk => ?_⟩
      · obtain ⟨k1, k2⟩ := i1.2 hk
        refine C_copyFrom (by decide) k1.b3 k1.b4 (fun f hf => ?_)
        rintro _ rfl _ rfl
        unfold w_X9_goBack
        rw [in_0_1, if_pos (by decide)]
        refine (b1' (A := _)).mpr ⟨vin (n := 0) rfl (by decide), ⟨fun _ => M_back (i := 0) rfl (by decide) (fun g h1 => ⟨rfl, ?_⟩), fun q => absurd q (by rw [i1.1] at hk; exact hk)⟩⟩
        refine R.img h (fun j j1 j2 j3 j4 => by rw [up_ne j2, up_ne j3, upc_at, if_neg j1]) (fun j j1 j2 j3 j4 => by rw [up_ne j1, up_ne j1, upc_at, if_neg j2]) (fun k k1 k2 => by simp [up_at, upc_at, k1, k2]) ?_ ?_ (by simp [up_at]) (by simp [up_at, upc_at]) (by simp [up_at]) (by simp [up_at, upc_at]; exact k2)
        · rw [up_ne (by decide), up_ne (by decide), upc_same, up_ne (by decide), up_ne (by decide), upc_same]
          exact k1.eq12 hf (fun k hk => by have := h1 k hk; rw [show 13 * 0 + k = k by omega] at this; exact this)
        · exact RIm.congr h.2.2.2.2.1 (fun j _ _ => by rw [up_ne (by omega), up_ne (by omega), upc_at, if_neg (by omega)]) (by rw [up_ne (by decide), up_ne (by decide), upc_at, if_neg (by decide)]) (by rw [up_ne (by decide), up_ne (by decide), upc_at, if_neg (by decide)])
      · refine (in_0_1 _ _ _).mpr ?_
        rw [if_pos (by decide)]
        exact (b1' (A := _)).mpr ⟨vin (n := 0) rfl (by decide), ⟨fun q => absurd (by rw [i1.1] at hk; exact hk) q, fun _ => ⟨rfl, h⟩⟩⟩
    · refine ⟨fun _ => ⟨fun q => absurd rfl q, fun _ => ⟨fun q => absurd q (by simp), ?_⟩⟩, fun q => absurd q (by decide)⟩
      rintro _ ⟨⟩
      refine Or.inr ⟨rfl, ?_⟩
      refine ⟨fun hk => ?_, fun hk => ?_⟩
      · obtain ⟨k1, k2⟩ := i2.2 hk
        refine C_copyFrom (by decide) k1.b3 k1.b4 (fun f hf => ?_)
        rintro _ rfl _ rfl
        unfold w_X9_goBack
        rw [in_0_1, if_pos (by decide)]
        refine (b1' (A := _)).mpr ⟨vin (n := 1) rfl (by decide), ⟨fun _ => M_back (i := 1) rfl (by decide) (fun g h1 => ⟨rfl, ?_⟩), fun q => absurd q (by rw [i2.1] at hk; exact hk)⟩⟩
        refine R.img h (fun j j1 j2 j3 j4 => by rw [up_ne j2, up_ne j3, upc_at, if_neg j1]) (fun j j1 j2 j3 j4 => by rw [up_ne j1, up_ne j1, upc_at, if_neg j2]) (fun k k1 k2 => by simp [up_at, upc_at, k1, k2]) ?_ ?_ (by simp [up_at]) (by simp [up_at, upc_at]) (by simp [up_at]) (by simp [up_at, upc_at]; exact k2)
        · rw [up_ne (by decide), up_ne (by decide), upc_same, up_ne (by decide), up_ne (by decide), upc_same]
          exact k1.eq12 hf (fun k hk => by have := h1 k hk; rw [show 13 * 1 + k = 13 + k by omega] at this; exact this)
        · exact RIm.congr h.2.2.2.2.1 (fun j _ _ => by rw [up_ne (by omega), up_ne (by omega), upc_at, if_neg (by omega)]) (by rw [up_ne (by decide), up_ne (by decide), upc_at, if_neg (by decide)]) (by rw [up_ne (by decide), up_ne (by decide), upc_at, if_neg (by decide)])
      · refine (in_0_1 _ _ _).mpr ?_
        rw [if_pos (by decide)]
        exact (b1' (A := _)).mpr ⟨vin (n := 1) rfl (by decide), ⟨fun q => absurd (by rw [i2.1] at hk; exact hk) q, fun _ => ⟨rfl, h⟩⟩⟩
  · have p0 : ¬ p = 0 := fun q => hp (by rw [q]; decide)
    have p1 : ¬ p = 1 := fun q => hp (by rw [q]; decide)
    refine ⟨fun _ => ⟨fun _ => ⟨fun _ => ?_, fun i q => absurd q (by simp)⟩, fun q => absurd q p1⟩, fun q => absurd q p0⟩
    refine (in_0_1 _ _ _).mpr ?_
    rw [if_neg hp]
    exact (b0' (B := _)).mpr ⟨rfl, h⟩
theorem P_turns {p1 p2 : Int32} {c m : St} (h : R c m) : w_X8_turns p1 p2 c (fun r c' => w_X9_turns p1 p2 m (fun r' m' => r = r' ∧ R c' m')) := by
  unfold w_X8_turns w_X9_turns
  simp only [isW, in_0_99, in_0_999, h.mt]
  by_cases h1 : (0 : Int32) ≤ p1 ∧ p1 ≤ 99
  · by_cases h2 : (0 : Int32) ≤ p2 ∧ p2 ≤ 999
    · simp only [if_pos h1, if_pos h2, b0, b0', b1, b1', true_implies, not_true_eq_false, false_implies, not_false_eq_true, and_true, true_and]
      by_cases h3 : m 0 0 = 0
      · exact (bT h3).mpr ((bT h3).mpr h)
      · refine (bF h3).mpr ?_
        rintro _ rfl
        refine (bF h3).mpr (M_size ⟨?_, h⟩)
        rw [h.1.2.1.2.1]
        unfold sz32
        rw [Int32.zero_sub]
    · simp only [if_pos h1, if_neg h2, b0, b0', b1, b1', true_implies, not_true_eq_false, false_implies, not_false_eq_true, and_true, true_and]; exact h
  · simp only [if_neg h1, b0, b0', b1, b1', true_implies, not_true_eq_false, false_implies, not_false_eq_true, and_true, true_and]; exact h
def ndF (q : Int64) : Nat → Int64 → Int64
  | 0, x => x
  | n + 1, x => ndF q n ((x * q) / (100 : Int64))
theorem C_nd {c : St} {Post : Int32 → St → Prop} {p2 : Int32} {N : Nat} (hN : N < 1100) : ∀ (j fuel k : Nat) (x : Int64), k + j = N → j < fuel → Post (ndF ((100 : Int32) - p2).toInt64 j x).toInt32 c → w_X8_nods_L30 Post fuel (nI N) p2 x (nI k) c := by
  intro j
  induction j with
  | zero =>
    intro fuel k x h1 h2 h3
    obtain ⟨f, rfl⟩ : ∃ f, fuel = f + 1 := ⟨fuel - 1, by omega⟩
    exact ⟨fun _ => h3, fun q => absurd (nI_le (by omega) (by omega)) q⟩
  | succ j ih =>
    intro fuel k x h1 h2 h3
    obtain ⟨f, rfl⟩ : ∃ f, fuel = f + 1 := ⟨fuel - 1, by omega⟩
    refine ⟨fun q => absurd q (nI_ge (by omega) (by omega)), fun _ => ?_⟩
    rintro _ rfl _ rfl
    rw [nI_1]
    exact ih f (k + 1) _ (by omega) (by omega) h3
theorem M_nd {c : St} {Post : Int32 → St → Prop} {p2 : Int32} {N : Nat} (hN : N < 1100) : ∀ (j fuel k : Nat) (x : Int64), k + j = N → j < fuel → Post (ndF ((100 : Int32) - p2).toInt64 j x).toInt32 c → w_X9_nods_L34 Post fuel (nI N) p2 x (nI k) c := by
  intro j
  induction j with
  | zero =>
    intro fuel k x h1 h2 h3
    obtain ⟨f, rfl⟩ : ∃ f, fuel = f + 1 := ⟨fuel - 1, by omega⟩
    exact ⟨fun _ => h3, fun q => absurd (nI_le (by omega) (by omega)) q⟩
  | succ j ih =>
    intro fuel k x h1 h2 h3
    obtain ⟨f, rfl⟩ : ∃ f, fuel = f + 1 := ⟨fuel - 1, by omega⟩
    refine ⟨fun q => absurd q (nI_ge (by omega) (by omega)), fun _ => ?_⟩
    rintro _ rfl _ rfl
    rw [nI_1]
    exact ih f (k + 1) _ (by omega) (by omega) h3
theorem P_nods {p1 p2 : Int32} {c m : St} (h : R c m) : w_X8_nods p1 p2 c (fun r c' => w_X9_nods p1 p2 m (fun r' m' => r = r' ∧ R c' m')) := by
  unfold w_X8_nods w_X9_nods
  simp only [isW, in_0_99, in_0_100]
  by_cases h1 : (0 : Int32) ≤ p1 ∧ p1 ≤ 99
  · by_cases h2 : (0 : Int32) ≤ p2 ∧ p2 ≤ 100
    · simp only [if_pos h1, if_pos h2, b0, b0', b1, b1', true_implies, not_true_eq_false, false_implies, not_false_eq_true, and_true, true_and]
      obtain ⟨N, hN, rfl⟩ := nI_of2 (M := 99) (n := 99) rfl (Int32.not_lt.mpr h1.1) h1.2
      exact C_nd (by omega) N FU 0 _ (by omega) (by show N < 1100; omega) (M_nd (by omega) N FU 0 _ (by omega) (by show N < 1100; omega) ⟨rfl, h⟩)
    · simp only [if_pos h1, if_neg h2, b0, b0', b1, b1', true_implies, not_true_eq_false, false_implies, not_false_eq_true, and_true, true_and]; exact h
  · simp only [if_neg h1, b0, b0', b1, b1', true_implies, not_true_eq_false, false_implies, not_false_eq_true, and_true, true_and]; exact h
def gdF (rr ll : Nat → Int32) (b : Int32) : Nat → Nat → Option Nat → Option Nat
  | 0, _, o => o
  | j + 1, k, o => gdF rr ll b j (k + 1) (if ll k < b then o else match o with
    | none => some k
    | some q => if rr k < rr q ∨ (rr k = rr q ∧ ll q < ll k) then some k else some q)
def oI (o : Option Nat) : Int32 := match o with
  | none => -1
  | some q => nI q
theorem C_gd {c : St} {Post : Int32 → St → Prop} {b : Int32} {n : Nat} (hn : n ≤ 6) (h0 : c 3 8 = nI n) : ∀ (j fuel k : Nat) (o : Option Nat), k + j = n → j < fuel → (∀ q, o = some q → q < k) → Post (oI (gdF (c 5) (c 6) b j k o)) c → w_X3_starToGuideBy_L4 Post fuel b (oI o) (nI k) c := by
  intro j
  induction j with
  | zero =>
    intro fuel k o h1 h2 ho h3
    obtain ⟨f, rfl⟩ : ∃ f, fuel = f + 1 := ⟨fuel - 1, by omega⟩
    exact ⟨fun _ => h3, fun q => absurd (by rw [h0]; exact nI_le (by omega) (by omega)) q⟩
  | succ j ih =>
    intro fuel k o h1 h2 ho h3
    obtain ⟨f, rfl⟩ : ∃ f, fuel = f + 1 := ⟨fuel - 1, by omega⟩
    refine ⟨fun q => absurd q (by rw [h0]; exact nI_ge (by omega) (by omega)), fun _ => C_lightOf rfl (by omega) ?_⟩
    have J : ∀ o2 : Option Nat, (∀ q, o2 = some q → q < k + 1) → Post (oI (gdF (c 5) (c 6) b j (k + 1) o2)) c → w_X3_starToGuideBy_J37 (w_X3_starToGuideBy_L4 Post f) Post b (oI o2) (nI k) c := by
      rintro o2 ho2 hP _ rfl
      rw [nI_1]
      exact ih f (k + 1) o2 (by omega) (by omega) ho2 hP
    unfold gdF at h3
    refine ⟨fun q => ?_, fun q => ?_⟩
    · rw [if_pos q] at h3
      exact J o (fun z hz => by have := ho z hz; omega) h3
    · rw [if_neg q] at h3
      cases o with
      | none =>
        refine ⟨fun _ => J (some k) (fun z hz => by cases hz; omega) h3, fun z => absurd rfl z⟩
      | some w =>
        have hw := ho w rfl
        refine ⟨fun z => absurd z ?_, fun _ => ?_⟩
        · show ¬ nI w = -1
          intro z
          have := nI_pos (n := w) (by omega)
          rw [z] at this
          exact this (by decide)
        · show w_X3_isBetterStar (nI k) (nI w) c _
          refine C_hairsOf rfl (by omega) (C_hairsOf rfl (by omega) ⟨fun e => C_lightOf rfl (by omega) (C_lightOf rfl (by omega) ⟨fun l => ?_, fun l => ?_⟩), fun e => C_hairsOf rfl (by omega) (C_hairsOf rfl (by omega) ⟨fun l => ?_, fun l => ?_⟩)⟩)
          · refine ⟨fun _ => J (some w) (fun z hz => by cases hz; omega) ?_, fun z => absurd rfl z⟩
            dsimp only at h3
            rw [if_neg (by rintro (z | z); rw [Int32.lt_iff_toInt_lt] at z; have : (c 5 k).toInt = (c 5 w).toInt := by rw [show c 5 k = c 5 w from e]
                           omega
                           exact absurd z.2 (Int32.not_lt.mpr l))] at h3
            exact h3
          · refine ⟨fun z => absurd z (by decide), fun _ => J (some k) (fun z hz => by cases hz; omega) ?_⟩
            dsimp only at h3
            rw [if_pos (Or.inr ⟨e, Int32.not_le.mp l⟩)] at h3
            exact h3
          · refine ⟨fun _ => J (some w) (fun z hz => by cases hz; omega) ?_, fun z => absurd rfl z⟩
            dsimp only at h3
            rw [if_neg (by rintro (z | z); exact absurd z (Int32.not_lt.mpr l); exact e z.1)] at h3
            exact h3
          · refine ⟨fun z => absurd z (by decide), fun _ => J (some k) (fun z hz => by cases hz; omega) ?_⟩
            dsimp only at h3
            rw [if_pos (Or.inl (Int32.not_le.mp l))] at h3
            exact h3
theorem M_gd {m : St} {Post : Int32 → St → Prop} {b : Int32} {n : Nat} (hn : n ≤ 6) (h0 : m 0 9 = nI n) : ∀ (j fuel k : Nat) (o : Option Nat), k + j = n → j < fuel → (∀ q, o = some q → q < k) → Post (oI (gdF (m 2) (m 3) b j k o)) m → w_X9_guide_L19 Post fuel b (oI o) (nI k) m := by
  intro j
  induction j with
  | zero =>
    intro fuel k o h1 h2 ho h3
    obtain ⟨f, rfl⟩ : ∃ f, fuel = f + 1 := ⟨fuel - 1, by omega⟩
    exact ⟨fun _ => h3, fun q => absurd (by rw [h0]; exact nI_le (by omega) (by omega)) q⟩
  | succ j ih =>
    intro fuel k o h1 h2 ho h3
    obtain ⟨f, rfl⟩ : ∃ f, fuel = f + 1 := ⟨fuel - 1, by omega⟩
    refine ⟨fun q => absurd q (by rw [h0]; exact nI_ge (by omega) (by omega)), fun _ => ?_⟩
    have J : ∀ (o2 : Option Nat) (s : Int32), s = oI o2 → (∀ q, o2 = some q → q < k + 1) → Post (oI (gdF (m 2) (m 3) b j (k + 1) o2)) m → w_X9_guide_J103 (w_X9_guide_L19 Post f) Post b (nI k) s m := by
      rintro o2 s hs ho2 hP _ rfl
      rw [nI_1, hs]
      exact ih f (k + 1) o2 (by omega) (by omega) ho2 hP
    have vk : vp_in (nI k) 6 := vin rfl (by omega)
    have ek : (nI k).toNatClampNeg = k := cl_nI (by omega)
    unfold gdF at h3
    have J76 : (m 3 k < b → Post (oI (gdF (m 2) (m 3) b j (k + 1) o)) m) → (¬ m 3 k < b → Post (oI (gdF (m 2) (m 3) b j (k + 1) (some k))) m) → w_X9_guide_J76 (w_X9_guide_L19 Post f) Post b (oI o) (nI k) m := by
      intro g1 g2
      refine ⟨vk, ?_⟩
      rw [ek]
      exact ⟨fun q => J o _ rfl (fun z hz => by have := ho z hz; omega) (g1 q), fun q => ⟨fun z => absurd z (by decide), fun _ => J (some k) _ rfl (fun z hz => by cases hz; omega) (g2 q)⟩⟩
    have J80 : Post (oI (gdF (m 2) (m 3) b j (k + 1) o)) m → w_X9_guide_J80 (w_X9_guide_L19 Post f) Post b (oI o) (nI k) m := by
      intro g1
      refine ⟨vk, ?_⟩
      exact ⟨fun _ => J o _ rfl (fun z hz => by have := ho z hz; omega) g1, fun _ => ⟨fun _ => J o _ rfl (fun z hz => by have := ho z hz; omega) g1, fun z => absurd rfl z⟩⟩
    cases o with
    | none =>
      refine ⟨fun _ => J76 (fun q => ?_) (fun q => ?_), fun z => absurd (show oI none < 0 by decide) z⟩
      · rw [if_pos q] at h3; exact h3
      · rw [if_neg q] at h3; exact h3
    | some w =>
      have hw := ho w rfl
      have vw : vp_in (oI (some w)) 6 := vin (n := w) rfl (by omega)
      have ew : (oI (some w)).toNatClampNeg = w := cl_nI (by omega)
      refine ⟨fun z => absurd z (nI_pos (n := w) (by omega)), fun _ => ⟨vk, vw, ?_⟩⟩
      rw [ek, ew]
      refine ⟨fun q1 => J76 (fun q => ?_) (fun q => ?_), fun q1 => ⟨vk, vw, fun q2 => J80 ?_, fun q2 => ⟨vk, vw, fun q3 => J80 ?_, fun q3 => J76 (fun q => ?_) (fun q => ?_)⟩⟩⟩
      · rw [if_pos q] at h3; exact h3
      · rw [if_neg q] at h3; dsimp only at h3; rw [if_pos (Or.inl q1)] at h3; exact h3
      · by_cases q : m 3 k < b
        · rw [if_pos q] at h3; exact h3
        · rw [if_neg q] at h3; dsimp only at h3
          rw [if_neg (by rintro (z | z); exact q1 z; exact q2 z.1)] at h3; exact h3
      · by_cases q : m 3 k < b
        · rw [if_pos q] at h3; exact h3
        · rw [if_neg q] at h3; dsimp only at h3
          rw [if_neg (by rintro (z | z); exact q1 z; exact absurd z.2 (Int32.not_lt.mpr q3))] at h3; exact h3
      · rw [if_pos q] at h3; exact h3
      · rw [if_neg q] at h3; dsimp only at h3; rw [if_pos (Or.inr ⟨q2, Int32.not_le.mp q3⟩)] at h3; exact h3
theorem gdF_congr {r1 l1 r2 l2 : Nat → Int32} {b : Int32} {n : Nat} (hr : ∀ i, i < n → r1 i = r2 i ∧ l1 i = l2 i) : ∀ (j k : Nat) (o : Option Nat), k + j ≤ n → (∀ q, o = some q → q < k) → gdF r1 l1 b j k o = gdF r2 l2 b j k o
  | 0, _, _, _, _ => rfl
  | j + 1, k, o, h, ho => by
    unfold gdF
    obtain ⟨e1, e2⟩ := hr k (by omega)
    rw [e2]
    split
    · exact gdF_congr hr j (k + 1) o (by omega) (fun q hq => by have := ho q hq; omega)
    · cases o with
      | none => exact gdF_congr hr j (k + 1) (some k) (by omega) (fun q hq => by cases hq; omega)
      | some w =>
        have hw := ho w rfl
        obtain ⟨e3, e4⟩ := hr w (by omega)
        dsimp only
        rw [e1, e3, e4]
        split
        · exact gdF_congr hr j (k + 1) (some k) (by omega) (fun q hq => by cases hq; omega)
        · exact gdF_congr hr j (k + 1) (some w) (by omega) (fun q hq => by cases hq; omega)
theorem P_guide {p : Int32} {c m : St} (h : R c m) : w_X8_guide p c (fun r c' => w_X9_guide p m (fun r' m' => r = r' ∧ R c' m')) := by
  unfold w_X8_guide w_X9_guide
  simp only [isW, in_1_9]
  by_cases h1 : (1 : Int32) ≤ p ∧ p ≤ 9
  · simp only [if_pos h1, b0, b0', b1, b1', true_implies, not_true_eq_false, false_implies, not_false_eq_true, and_true, true_and]
    obtain ⟨n, hn, e1, e2, e3⟩ := h.1.2.2.2.2.2.1
    refine C_gd hn e1 n FU 0 none (by omega) (by show n < 1100; omega) (fun q hq => by cases hq) ?_
    refine M_gd hn e2 n FU 0 none (by omega) (by show n < 1100; omega) (fun q hq => by cases hq) ⟨?_, h⟩
    rw [gdF_congr (n := n) e3 n 0 none (by omega) (fun q hq => by cases hq)]
  · simp only [if_neg h1, b0, b0', b1, b1', true_implies, not_true_eq_false, false_implies, not_false_eq_true, and_true, true_and]; exact h
theorem P_told {p : Int32} {c m : St} (h : R c m) : w_X8_told p c (fun r c' => w_X9_told p m (fun r' m' => r = r' ∧ R c' m')) := by
  obtain ⟨⟨⟨t0, t0b⟩, ⟨t1, t2, t3⟩, ⟨t4, -⟩, ⟨t5, t6⟩, ⟨t7, -⟩, ⟨n8, -, t8, t8b, -⟩, -, -⟩, hN, ⟨cnt, nx, -, -, u1, -, u2, -⟩, ⟨s, t, b, -, -, -, ⟨v1, v2, -⟩, ⟨w1, w2, -⟩, ⟨x1, x2, -⟩⟩, -, ⟨⟨n9, -, y1, y2, -⟩, -⟩, -⟩ := id h
  obtain ⟨a, l, -, -, -, -, o5, o6⟩ := hN.2
  by_cases c0 : p = 0
  · rcases t0b with q | q
    · exact (bT c0).mpr ((bT (show c 3 0 = 0 by rw [t0]; exact q)).mpr ((bT c0).mpr ((bT q).mpr ⟨rfl, h⟩)))
    · exact (bT c0).mpr ((bF (show ¬ c 3 0 = 0 by rw [t0, q]; decide)).mpr ((bT c0).mpr ((bF (show ¬ m 0 0 = 0 by rw [q]; decide)).mpr ⟨rfl, h⟩)))
  by_cases c1 : p = 1
  · exact (bF c0).mpr ((bT c1).mpr ((bF c0).mpr ((bT c1).mpr (⟨by rw [t1], h⟩))))
  by_cases c2 : p = 2
  · exact (bF c0).mpr ((bF c1).mpr ((bT c2).mpr ((bF c0).mpr ((bF c1).mpr ((bT c2).mpr (⟨by rw [t2], h⟩))))))
  by_cases c3 : p = 3
  · exact (bF c0).mpr ((bF c1).mpr ((bF c2).mpr ((bT c3).mpr ((bF c0).mpr ((bF c1).mpr ((bF c2).mpr ((bT c3).mpr (⟨t3, h⟩))))))))
  by_cases c4 : p = 4
  · exact (bF c0).mpr ((bF c1).mpr ((bF c2).mpr ((bF c3).mpr ((bT c4).mpr ((bF c0).mpr ((bF c1).mpr ((bF c2).mpr ((bF c3).mpr ((bT c4).mpr (⟨t4, h⟩))))))))))
  by_cases c5 : p = 5
  · exact (bF c0).mpr ((bF c1).mpr ((bF c2).mpr ((bF c3).mpr ((bF c4).mpr ((bT c5).mpr ((bF c0).mpr ((bF c1).mpr ((bF c2).mpr ((bF c3).mpr ((bF c4).mpr ((bT c5).mpr (⟨t5, h⟩))))))))))))
  by_cases c6 : p = 6
  · exact (bF c0).mpr ((bF c1).mpr ((bF c2).mpr ((bF c3).mpr ((bF c4).mpr ((bF c5).mpr ((bT c6).mpr ((bF c0).mpr ((bF c1).mpr ((bF c2).mpr ((bF c3).mpr ((bF c4).mpr ((bF c5).mpr ((bT c6).mpr (⟨by rw [t6], h⟩))))))))))))))
  by_cases c7 : p = 7
  · exact (bF c0).mpr ((bF c1).mpr ((bF c2).mpr ((bF c3).mpr ((bF c4).mpr ((bF c5).mpr ((bF c6).mpr ((bT c7).mpr ((bF c0).mpr ((bF c1).mpr ((bF c2).mpr ((bF c3).mpr ((bF c4).mpr ((bF c5).mpr ((bF c6).mpr ((bT c7).mpr (⟨t7, h⟩))))))))))))))))
  by_cases c8 : p = 8
  · exact (bF c0).mpr ((bF c1).mpr ((bF c2).mpr ((bF c3).mpr ((bF c4).mpr ((bF c5).mpr ((bF c6).mpr ((bF c7).mpr ((bT c8).mpr ((bF c0).mpr ((bF c1).mpr ((bF c2).mpr ((bF c3).mpr ((bF c4).mpr ((bF c5).mpr ((bF c6).mpr ((bF c7).mpr ((bT c8).mpr (⟨t8.trans t8b.symm, h⟩))))))))))))))))))
  by_cases c9 : p = 9
  · exact (bF c0).mpr ((bF c1).mpr ((bF c2).mpr ((bF c3).mpr ((bF c4).mpr ((bF c5).mpr ((bF c6).mpr ((bF c7).mpr ((bF c8).mpr ((bT c9).mpr ((bF c0).mpr ((bF c1).mpr ((bF c2).mpr ((bF c3).mpr ((bF c4).mpr ((bF c5).mpr ((bF c6).mpr ((bF c7).mpr ((bF c8).mpr ((bT c9).mpr (⟨y1.trans y2.symm, h⟩))))))))))))))))))))
  by_cases c10 : p = 10
  · exact (bF c0).mpr ((bF c1).mpr ((bF c2).mpr ((bF c3).mpr ((bF c4).mpr ((bF c5).mpr ((bF c6).mpr ((bF c7).mpr ((bF c8).mpr ((bF c9).mpr ((bT c10).mpr ((bF c0).mpr ((bF c1).mpr ((bF c2).mpr ((bF c3).mpr ((bF c4).mpr ((bF c5).mpr ((bF c6).mpr ((bF c7).mpr ((bF c8).mpr ((bF c9).mpr ((bT c10).mpr (⟨h.mins, h⟩))))))))))))))))))))))
  by_cases c11 : p = 11
  · exact (bF c0).mpr ((bF c1).mpr ((bF c2).mpr ((bF c3).mpr ((bF c4).mpr ((bF c5).mpr ((bF c6).mpr ((bF c7).mpr ((bF c8).mpr ((bF c9).mpr ((bF c10).mpr ((bT c11).mpr ((bF c0).mpr ((bF c1).mpr ((bF c2).mpr ((bF c3).mpr ((bF c4).mpr ((bF c5).mpr ((bF c6).mpr ((bF c7).mpr ((bF c8).mpr ((bF c9).mpr ((bF c10).mpr ((bT c11).mpr (⟨by rw [h.east], h⟩))))))))))))))))))))))))
  by_cases c12 : p = 12
  · exact (bF c0).mpr ((bF c1).mpr ((bF c2).mpr ((bF c3).mpr ((bF c4).mpr ((bF c5).mpr ((bF c6).mpr ((bF c7).mpr ((bF c8).mpr ((bF c9).mpr ((bF c10).mpr ((bF c11).mpr ((bT c12).mpr ((bF c0).mpr ((bF c1).mpr ((bF c2).mpr ((bF c3).mpr ((bF c4).mpr ((bF c5).mpr ((bF c6).mpr ((bF c7).mpr ((bF c8).mpr ((bF c9).mpr ((bF c10).mpr ((bF c11).mpr ((bT c12).mpr (⟨by rw [h.north], h⟩))))))))))))))))))))))))))
  by_cases c13 : p = 13
  · rcases o5 with q | q
    · exact (bF c0).mpr ((bF c1).mpr ((bF c2).mpr ((bF c3).mpr ((bF c4).mpr ((bF c5).mpr ((bF c6).mpr ((bF c7).mpr ((bF c8).mpr ((bF c9).mpr ((bF c10).mpr ((bF c11).mpr ((bF c12).mpr ((bT c13).mpr ((bT (show c 11 3 = 0 by rw [h.lost]; exact q)).mpr ((bF c0).mpr ((bF c1).mpr ((bF c2).mpr ((bF c3).mpr ((bF c4).mpr ((bF c5).mpr ((bF c6).mpr ((bF c7).mpr ((bF c8).mpr ((bF c9).mpr ((bF c10).mpr ((bF c11).mpr ((bF c12).mpr ((bT c13).mpr (⟨q.symm, h⟩)))))))))))))))))))))))))))))
    · exact (bF c0).mpr ((bF c1).mpr ((bF c2).mpr ((bF c3).mpr ((bF c4).mpr ((bF c5).mpr ((bF c6).mpr ((bF c7).mpr ((bF c8).mpr ((bF c9).mpr ((bF c10).mpr ((bF c11).mpr ((bF c12).mpr ((bT c13).mpr ((bF (show ¬ c 11 3 = 0 by rw [h.lost, q]; decide)).mpr ((bF c0).mpr ((bF c1).mpr ((bF c2).mpr ((bF c3).mpr ((bF c4).mpr ((bF c5).mpr ((bF c6).mpr ((bF c7).mpr ((bF c8).mpr ((bF c9).mpr ((bF c10).mpr ((bF c11).mpr ((bF c12).mpr ((bT c13).mpr (⟨q.symm, h⟩)))))))))))))))))))))))))))))
  by_cases c14 : p = 14
  · rcases o6 with q | q
    · exact (bF c0).mpr ((bF c1).mpr ((bF c2).mpr ((bF c3).mpr ((bF c4).mpr ((bF c5).mpr ((bF c6).mpr ((bF c7).mpr ((bF c8).mpr ((bF c9).mpr ((bF c10).mpr ((bF c11).mpr ((bF c12).mpr ((bF c13).mpr ((bT c14).mpr ((bT (show c 11 4 = 0 by rw [h.shutv]; exact q)).mpr ((bF c0).mpr ((bF c1).mpr ((bF c2).mpr ((bF c3).mpr ((bF c4).mpr ((bF c5).mpr ((bF c6).mpr ((bF c7).mpr ((bF c8).mpr ((bF c9).mpr ((bF c10).mpr ((bF c11).mpr ((bF c12).mpr ((bF c13).mpr ((bT c14).mpr (⟨q.symm, h⟩)))))))))))))))))))))))))))))))
    · exact (bF c0).mpr ((bF c1).mpr ((bF c2).mpr ((bF c3).mpr ((bF c4).mpr ((bF c5).mpr ((bF c6).mpr ((bF c7).mpr ((bF c8).mpr ((bF c9).mpr ((bF c10).mpr ((bF c11).mpr ((bF c12).mpr ((bF c13).mpr ((bT c14).mpr ((bF (show ¬ c 11 4 = 0 by rw [h.shutv, q]; decide)).mpr ((bF c0).mpr ((bF c1).mpr ((bF c2).mpr ((bF c3).mpr ((bF c4).mpr ((bF c5).mpr ((bF c6).mpr ((bF c7).mpr ((bF c8).mpr ((bF c9).mpr ((bF c10).mpr ((bF c11).mpr ((bF c12).mpr ((bF c13).mpr ((bT c14).mpr (⟨q.symm, h⟩)))))))))))))))))))))))))))))))
  by_cases c15 : p = 15
  · exact (bF c0).mpr ((bF c1).mpr ((bF c2).mpr ((bF c3).mpr ((bF c4).mpr ((bF c5).mpr ((bF c6).mpr ((bF c7).mpr ((bF c8).mpr ((bF c9).mpr ((bF c10).mpr ((bF c11).mpr ((bF c12).mpr ((bF c13).mpr ((bF c14).mpr ((bT c15).mpr ((bF c0).mpr ((bF c1).mpr ((bF c2).mpr ((bF c3).mpr ((bF c4).mpr ((bF c5).mpr ((bF c6).mpr ((bF c7).mpr ((bF c8).mpr ((bF c9).mpr ((bF c10).mpr ((bF c11).mpr ((bF c12).mpr ((bF c13).mpr ((bF c14).mpr ((bT c15).mpr (⟨h.light, h⟩))))))))))))))))))))))))))))))))
  by_cases c16 : p = 16
  · exact (bF c0).mpr ((bF c1).mpr ((bF c2).mpr ((bF c3).mpr ((bF c4).mpr ((bF c5).mpr ((bF c6).mpr ((bF c7).mpr ((bF c8).mpr ((bF c9).mpr ((bF c10).mpr ((bF c11).mpr ((bF c12).mpr ((bF c13).mpr ((bF c14).mpr ((bF c15).mpr ((bT c16).mpr (C_tailLength ((bF c0).mpr ((bF c1).mpr ((bF c2).mpr ((bF c3).mpr ((bF c4).mpr ((bF c5).mpr ((bF c6).mpr ((bF c7).mpr ((bF c8).mpr ((bF c9).mpr ((bF c10).mpr ((bF c11).mpr ((bF c12).mpr ((bF c13).mpr ((bF c14).mpr ((bF c15).mpr ((bT c16).mpr (M_tailNow ⟨NE_tailF hN.1, h⟩)))))))))))))))))))))))))))))))))))
  by_cases c17 : p = 17
  · exact (bF c0).mpr ((bF c1).mpr ((bF c2).mpr ((bF c3).mpr ((bF c4).mpr ((bF c5).mpr ((bF c6).mpr ((bF c7).mpr ((bF c8).mpr ((bF c9).mpr ((bF c10).mpr ((bF c11).mpr ((bF c12).mpr ((bF c13).mpr ((bF c14).mpr ((bF c15).mpr ((bF c16).mpr ((bT c17).mpr ((bF c0).mpr ((bF c1).mpr ((bF c2).mpr ((bF c3).mpr ((bF c4).mpr ((bF c5).mpr ((bF c6).mpr ((bF c7).mpr ((bF c8).mpr ((bF c9).mpr ((bF c10).mpr ((bF c11).mpr ((bF c12).mpr ((bF c13).mpr ((bF c14).mpr ((bF c15).mpr ((bF c16).mpr ((bT c17).mpr (⟨v1.trans v2.symm, h⟩))))))))))))))))))))))))))))))))))))
  by_cases c18 : p = 18
  · exact (bF c0).mpr ((bF c1).mpr ((bF c2).mpr ((bF c3).mpr ((bF c4).mpr ((bF c5).mpr ((bF c6).mpr ((bF c7).mpr ((bF c8).mpr ((bF c9).mpr ((bF c10).mpr ((bF c11).mpr ((bF c12).mpr ((bF c13).mpr ((bF c14).mpr ((bF c15).mpr ((bF c16).mpr ((bF c17).mpr ((bT c18).mpr ((bF c0).mpr ((bF c1).mpr ((bF c2).mpr ((bF c3).mpr ((bF c4).mpr ((bF c5).mpr ((bF c6).mpr ((bF c7).mpr ((bF c8).mpr ((bF c9).mpr ((bF c10).mpr ((bF c11).mpr ((bF c12).mpr ((bF c13).mpr ((bF c14).mpr ((bF c15).mpr ((bF c16).mpr ((bF c17).mpr ((bT c18).mpr (⟨w1.trans w2.symm, h⟩))))))))))))))))))))))))))))))))))))))
  by_cases c19 : p = 19
  · exact (bF c0).mpr ((bF c1).mpr ((bF c2).mpr ((bF c3).mpr ((bF c4).mpr ((bF c5).mpr ((bF c6).mpr ((bF c7).mpr ((bF c8).mpr ((bF c9).mpr ((bF c10).mpr ((bF c11).mpr ((bF c12).mpr ((bF c13).mpr ((bF c14).mpr ((bF c15).mpr ((bF c16).mpr ((bF c17).mpr ((bF c18).mpr ((bT c19).mpr ((bF c0).mpr ((bF c1).mpr ((bF c2).mpr ((bF c3).mpr ((bF c4).mpr ((bF c5).mpr ((bF c6).mpr ((bF c7).mpr ((bF c8).mpr ((bF c9).mpr ((bF c10).mpr ((bF c11).mpr ((bF c12).mpr ((bF c13).mpr ((bF c14).mpr ((bF c15).mpr ((bF c16).mpr ((bF c17).mpr ((bF c18).mpr ((bT c19).mpr (⟨x1.trans x2.symm, h⟩))))))))))))))))))))))))))))))))))))))))
  by_cases c20 : p = 20
  · exact (bF c0).mpr ((bF c1).mpr ((bF c2).mpr ((bF c3).mpr ((bF c4).mpr ((bF c5).mpr ((bF c6).mpr ((bF c7).mpr ((bF c8).mpr ((bF c9).mpr ((bF c10).mpr ((bF c11).mpr ((bF c12).mpr ((bF c13).mpr ((bF c14).mpr ((bF c15).mpr ((bF c16).mpr ((bF c17).mpr ((bF c18).mpr ((bF c19).mpr ((bT c20).mpr ((bF c0).mpr ((bF c1).mpr ((bF c2).mpr ((bF c3).mpr ((bF c4).mpr ((bF c5).mpr ((bF c6).mpr ((bF c7).mpr ((bF c8).mpr ((bF c9).mpr ((bF c10).mpr ((bF c11).mpr ((bF c12).mpr ((bF c13).mpr ((bF c14).mpr ((bF c15).mpr ((bF c16).mpr ((bF c17).mpr ((bF c18).mpr ((bF c19).mpr ((bT c20).mpr (⟨u1.trans u2.symm, h⟩))))))))))))))))))))))))))))))))))))))))))
  exact (bF c0).mpr ((bF c1).mpr ((bF c2).mpr ((bF c3).mpr ((bF c4).mpr ((bF c5).mpr ((bF c6).mpr ((bF c7).mpr ((bF c8).mpr ((bF c9).mpr ((bF c10).mpr ((bF c11).mpr ((bF c12).mpr ((bF c13).mpr ((bF c14).mpr ((bF c15).mpr ((bF c16).mpr ((bF c17).mpr ((bF c18).mpr ((bF c19).mpr ((bF c20).mpr ((bF c0).mpr ((bF c1).mpr ((bF c2).mpr ((bF c3).mpr ((bF c4).mpr ((bF c5).mpr ((bF c6).mpr ((bF c7).mpr ((bF c8).mpr ((bF c9).mpr ((bF c10).mpr ((bF c11).mpr ((bF c12).mpr ((bF c13).mpr ((bF c14).mpr ((bF c15).mpr ((bF c16).mpr ((bF c17).mpr ((bF c18).mpr ((bF c19).mpr ((bF c20).mpr (⟨rfl, h⟩))))))))))))))))))))))))))))))))))))))))))
