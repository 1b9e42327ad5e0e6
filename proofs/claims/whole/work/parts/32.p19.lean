/-! ===== pure: what is read taken over by the reference; mount ===== -/
theorem ia {P : Prop} [Decidable P] {A : Int32 → Prop} {x y : Int32} (h : A (if P then x else y)) : (P → A x) ∧ (¬ P → A y) :=
  ⟨fun q => by rw [if_pos q] at h; exact h, fun q => by rw [if_neg q] at h; exact h⟩
theorem M_253 {σ : St} {Post : St → Prop} (h : ∀ f : Nat → Int32, (∀ k, k < 12 → f k = 0) → Post (upc σ 4 f)) : w_X9_takeRead_L253 Post FU 0 σ := by
  refine up_loop (L := fun n k σ' => w_X9_takeRead_L253 Post n k σ') (N := 12) (I := fun k σ' => ∃ g : Nat → Int32, σ' = upc σ 4 g ∧ ∀ j, j < k → g j = 0) ?_ ?_ 12 FU 0 σ rfl (by decide) ⟨σ 4, upc_self.symm, fun j hj => absurd hj (Nat.not_lt_zero j)⟩
  · rintro n _ ⟨g, rfl, hg⟩
    exact ⟨fun _ => h g hg, fun c => absurd (by decide) c⟩
  · rintro n k _ hk ⟨g, rfl, hg⟩ K
    refine ⟨fun c => absurd c (nI_ge (b := 12) hk (by decide)), fun _ => ⟨vin rfl hk, ?_⟩⟩
    rintro _ rfl _ rfl
    rw [nI_1]
    refine K _ ⟨upd g k 0, ?_, fun j hj => ?_⟩
    · rw [cl_nI (by omega), up_upc]
    · rw [upd_at]
      by_cases e : j = k
      · rw [if_pos e]
      · rw [if_neg e]; exact hg j (by omega)
theorem M_213 {σ : St} {s : Nat} {Post : St → Prop} (hs : s ≤ 6) (h9 : σ 0 9 = nI s) (h : ∀ σ' : St, (∀ j, j ≠ 2 → j ≠ 3 → σ' j = σ j) → (∀ k, k < s → σ' 2 k = σ 10 k ∧ σ' 3 k = σ 11 k) → w_X9_takeRead_L253 Post FU 0 σ') : w_X9_takeRead_L213 Post FU 0 σ := by
  refine up_loop (L := fun n k σ' => w_X9_takeRead_L213 Post n k σ') (N := s) (I := fun k σ' => (∀ j, j ≠ 2 → j ≠ 3 → σ' j = σ j) ∧ ∀ z, z < k → σ' 2 z = σ 10 z ∧ σ' 3 z = σ 11 z) ?_ ?_ s FU 0 σ (by omega) (by show s < 1100; omega) ⟨fun _ _ _ => rfl, fun j hj => absurd hj (Nat.not_lt_zero j)⟩
  · rintro n σ' ⟨k1, k2⟩
    have e : σ' 0 9 = nI s := by rw [k1 0 (by decide) (by decide)]; exact h9
    exact ⟨fun _ => h σ' k1 k2, fun c => absurd (by rw [e]; exact Int32.le_refl _) c⟩
  · rintro n k σ' hk ⟨k1, k2⟩ K
    have e : σ' 0 9 = nI s := by rw [k1 0 (by decide) (by decide)]; exact h9
    refine ⟨fun c => absurd (by rw [e] at c; exact c) (nI_ge hk (by omega)), fun _ => ⟨vp_in_nI (by omega) (by decide), vp_in_nI (by omega) (by decide), ?_⟩⟩
    rw [cl_nI (by omega)]
    rintro _ rfl
    refine ⟨vp_in_nI (by omega) (by decide), vp_in_nI (by omega) (by decide), ?_⟩
    rintro _ rfl _ rfl
    rw [nI_1]
    refine K _ ⟨fun j h2 h3 => ?_, fun z hz => ?_⟩
    · rw [up_ne h3, up_ne h2]; exact k1 j h2 h3
    · have e10 : σ' 10 = σ 10 := k1 10 (by decide) (by decide)
      have e11 : σ' 11 = σ 11 := k1 11 (by decide) (by decide)
      by_cases q : z = k
      · subst q
        refine ⟨?_, ?_⟩
        · rw [up_at, if_neg (by omega), up_at, if_pos ⟨rfl, rfl⟩, e10]
        · rw [up_at, if_pos ⟨rfl, rfl⟩, up_ne (by decide), e11]
      · rw [up_at, if_neg (by omega), up_at, if_neg (fun y => q y.2), up_at, if_neg (fun y => q y.2), up_ne (by decide)]
        exact k2 z (by omega)
theorem M_98 {σ : St} {w : Nat} {Post : St → Prop} (hw : w ≤ 9) (h22 : σ 0 22 = nI w) (h : ∀ f : Nat → Int32, (∀ k, k < w → f k = σ 7 k - 9) → (∀ k, w ≤ k → k < 9 → f k = 0) → (((upc σ 1 f) 0 24 = 0 → w_X9_takeRead_J155 Post (-1 : Int32) (upc σ 1 f)) ∧ (¬ (upc σ 1 f) 0 24 = 0 → w_X9_takeRead_J155 Post ((upc σ 1 f) 8 0) (upc σ 1 f)))) : w_X9_takeRead_L98 Post FU 0 σ := by
  refine up_loop (L := fun n k σ' => w_X9_takeRead_L98 Post n k σ') (N := 9) (I := fun k σ' => ∃ g : Nat → Int32, σ' = upc σ 1 g ∧ ∀ j, j < k → g j = if j < w then σ 7 j - 9 else 0) ?_ ?_ 9 FU 0 σ rfl (by decide) ⟨σ 1, upc_self.symm, fun j hj => absurd hj (Nat.not_lt_zero j)⟩
  · rintro n _ ⟨g, rfl, hg⟩
    exact ⟨fun _ => h g (fun k hk => by rw [hg k (by omega), if_pos hk]) (fun k h1 h2 => by rw [hg k h2, if_neg (by omega)]), fun c => absurd (by decide) c⟩
  · rintro n k _ hk ⟨g, rfl, hg⟩ K
    have e22 : upc σ 1 g 0 22 = nI w := by rw [upc_at, if_neg (by decide)]; exact h22
    have nx : ∀ s0 : Int32, s0 = (if k < w then σ 7 k - 9 else 0) → w_X9_takeRead_J130 (fun a b => w_X9_takeRead_L98 Post n a b) Post (nI k) s0 (nI k) (upc σ 1 g) := by
      rintro s0 hs0
      refine ⟨vp_in_nI hk (by decide), ?_⟩
      rintro _ rfl _ rfl
      rw [nI_1]
      refine K _ ⟨upd g k s0, ?_, fun j hj => ?_⟩
      · rw [cl_nI (by omega), up_upc]
      · rw [upd_at]
        by_cases e : j = k
        · subst e; rw [if_pos rfl, hs0]
        · rw [if_neg e]; exact hg j (by omega)
    refine ⟨fun c => absurd c (nI_ge (b := 9) hk (by decide)), fun _ => ⟨fun c => nx 0 ?_, fun c => ⟨vp_in_nI hk (by decide), nx _ ?_⟩⟩⟩
    · rw [e22] at c
      rw [if_neg (fun q => absurd c (nI_ge q (by omega)))]
    · rw [e22] at c
      rw [if_pos (Nat.lt_of_not_le (fun q => c (nI_le q (by omega)))), cl_nI (by omega), upc_at, if_neg (by decide)]
theorem M_takeRead {m : St} {w s : Nat} {Post : St → Prop} (h20 : m 0 20 = 0 ∨ m 0 20 = 1) (hw : w ≤ 9) (h22 : m 0 22 = nI w) (hs : s ≤ 6) (h28 : m 0 28 = nI s)
    (h : ∀ σ : St, (∀ j, 4 < j → σ j = m j) → (∀ k, 10 ≤ k → σ 0 k = m 0 k) → σ 0 0 = m 0 20 → σ 0 1 = (if m 0 20 = 0 then 0 else m 6 0 - 9) → σ 0 2 = (if m 0 20 = 0 then 0 else m 6 1 - 9) → σ 0 3 = (if m 0 20 = 0 then 0 else m 6 2) →
      σ 0 4 = (if m 0 22 ≤ 0 then 1 else m 0 22) → (∀ k, k < w → σ 1 k = m 7 k - 9) → (∀ k, w ≤ k → k < 9 → σ 1 k = 0) → σ 0 6 = (if m 0 24 = 0 then -1 else m 8 0) → σ 0 7 = (if m 0 24 = 0 then 0 else m 8 1 - 99) → σ 0 8 = (if m 0 26 = 0 then 1 else m 9 0) → σ 0 9 = m 0 28 →
      (∀ k, k < s → σ 2 k = m 10 k ∧ σ 3 k = m 11 k) → (∀ k, k < 12 → σ 4 k = 0) → Post σ) : w_X9_takeRead m Post := by
  refine ⟨h20, ?_⟩
  rintro σ1 e1
  refine ia (A := fun z => w_X9_takeRead_J29 Post z σ1) ?_
  rintro σ2 e2
  refine ia (A := fun z => w_X9_takeRead_J53 Post z σ2) ?_
  rintro σ3 e3
  refine ia (A := fun z => w_X9_takeRead_J74 Post z σ3) ?_
  rintro σ4 e4
  refine ia (A := fun z => w_X9_takeRead_J93 Post z σ4) ?_
  rintro σ5 e5
  have g20 : σ1 0 20 = m 0 20 ∧ σ2 0 20 = m 0 20 ∧ σ3 0 20 = m 0 20 := by
    rw [e3, e2, e1]; simp [up_at]
  have g6 : σ1 6 = m 6 ∧ σ2 6 = m 6 ∧ σ3 6 = m 6 := by
    rw [e3, e2, e1]; simp [up_ne]
  have g22 : σ4 0 22 = m 0 22 := by rw [e4, e3, e2, e1]; simp [up_at]
  rw [g20.1, g6.1] at e2
  rw [g20.2.1, g6.2.1] at e3
  rw [g20.2.2, g6.2.2] at e4
  rw [g22] at e5
  have F5 : ∀ j, j ≠ 0 → σ5 j = m j := fun j hj => by rw [e5, e4, e3, e2, e1, up_ne hj, up_ne hj, up_ne hj, up_ne hj, up_ne hj]
  have O5 : ∀ k, 5 ≤ k → σ5 0 k = m 0 k := fun k hk => by
    rw [e5, e4, e3, e2, e1, up_at, if_neg (by omega), up_at, if_neg (by omega), up_at, if_neg (by omega), up_at, if_neg (by omega), up_at, if_neg (by omega)]
  refine M_98 hw (by rw [O5 22 (by decide)]; exact h22) (fun f hf1 hf2 => ?_)
  rw [F5 7 (by decide)] at hf1
  have F6 : ∀ j, j ≠ 0 → j ≠ 1 → upc σ5 1 f j = m j := fun j h0 h1 => by rw [upc_at, if_neg h1]; exact F5 j h0
  have Z6 : upc σ5 1 f 0 = σ5 0 := by rw [upc_at, if_neg (by decide)]
  have O16 : upc σ5 1 f 1 = f := by rw [upc_same]
  generalize upc σ5 1 f = σ6 at F6 Z6 O16 ⊢
  refine ia (A := fun z => w_X9_takeRead_J155 Post z σ6) ?_
  rintro σ7 e7
  refine ia (A := fun z => w_X9_takeRead_J179 Post z σ7) ?_
  rintro σ8 e8
  refine ia (A := fun z => w_X9_takeRead_J200 Post z σ8) ?_
  rintro σ9 e9 σ10 e10
  have c24 : σ6 0 24 = m 0 24 := by rw [Z6]; exact O5 24 (by decide)
  have c24' : σ7 0 24 = m 0 24 := by rw [e7, up_at, if_neg (by decide)]; exact c24
  have c26 : σ8 0 26 = m 0 26 := by rw [e8, up_at, if_neg (by decide), e7, up_at, if_neg (by decide), Z6]; exact O5 26 (by decide)
  have c28 : σ9 0 28 = m 0 28 := by rw [e9, up_at, if_neg (by decide), e8, up_at, if_neg (by decide), e7, up_at, if_neg (by decide), Z6]; exact O5 28 (by decide)
  have c8 : σ6 8 = m 8 := F6 8 (by decide) (by decide)
  have c8' : σ7 8 = m 8 := by rw [e7, up_ne (by decide)]; exact c8
  have c9 : σ8 9 = m 9 := by rw [e8, up_ne (by decide), e7, up_ne (by decide)]; exact F6 9 (by decide) (by decide)
  rw [c24, c8] at e7
  rw [c24', c8'] at e8
  rw [c26, c9] at e9
  rw [c28] at e10
  have F10 : ∀ j, j ≠ 0 → j ≠ 1 → σ10 j = m j := fun j h0 h1 => by rw [e10, e9, e8, e7, up_ne h0, up_ne h0, up_ne h0, up_ne h0]; exact F6 j h0 h1
  have Z10 : ∀ k, k ≠ 6 → k ≠ 7 → k ≠ 8 → k ≠ 9 → σ10 0 k = σ5 0 k := fun k h6 h7 h8 h9 => by
    rw [e10, e9, e8, e7, up_at, if_neg (by omega), up_at, if_neg (by omega), up_at, if_neg (by omega), up_at, if_neg (by omega), Z6]
  have N10 : σ10 1 = f := by rw [e10, e9, e8, e7, up_ne (by decide), up_ne (by decide), up_ne (by decide), up_ne (by decide)]; exact O16
  refine M_213 hs (by rw [e10]; simp [up_at]; exact h28) (fun σ11 k1 k2 => M_253 (fun g hg => ?_))
  have U : ∀ j, j ≠ 4 → upc σ11 4 g j = σ11 j := fun j hj => by rw [upc_at, if_neg hj]
  have U0 : upc σ11 4 g 0 = σ10 0 := by rw [U 0 (by decide)]; exact k1 0 (by decide) (by decide)
  rw [F10 10 (by decide) (by decide), F10 11 (by decide) (by decide)] at k2
  have U1 : upc σ11 4 g 1 = f := by rw [U 1 (by decide), k1 1 (by decide) (by decide)]; exact N10
  refine h _ (fun j hj => ?_) (fun k hk => ?_) ?_ ?_ ?_ ?_ ?_ ?_ ?_ ?_ ?_ ?_ ?_ ?_ ?_
  · rw [U j (by omega), k1 j (by omega) (by omega)]; exact F10 j (by omega) (by omega)
  · rw [U0, Z10 k (by omega) (by omega) (by omega) (by omega)]; exact O5 k (by omega)
  · rw [U0, Z10 0 (by decide) (by decide) (by decide) (by decide), e5, e4, e3, e2, e1]; simp [up_at]
  · rw [U0, Z10 1 (by decide) (by decide) (by decide) (by decide), e5, e4, e3, e2]; simp [up_at]
  · rw [U0, Z10 2 (by decide) (by decide) (by decide) (by decide), e5, e4, e3]; simp [up_at]
  · rw [U0, Z10 3 (by decide) (by decide) (by decide) (by decide), e5, e4]; simp [up_at]
  · rw [U0, Z10 4 (by decide) (by decide) (by decide) (by decide), e5]; simp [up_at]
  · intro k hk; rw [U1]; exact hf1 k hk
  · intro k h1 h2; rw [U1]; exact hf2 k h1 h2
  · rw [U0, e10, e9, e8, e7]; simp [up_at]
  · rw [U0, e10, e9, e8]; simp [up_at]
  · rw [U0, e10, e9]; simp [up_at]
  · rw [U0, e10]; simp [up_at]
  · intro k hk; rw [U 2 (by decide), U 3 (by decide)]; exact k2 k hk
  · intro k hk; rw [upc_same]; exact hg k hk
