/-! ===== pure: mount ===== -/
def mI (m : St) : St := up (up (up (up (up (up (up m 0 16 (-1)) 0 17 0) 0 20 0) 0 22 0) 0 24 0) 0 26 0) 0 28 0
def cI (c : St) : St := up (up (up (up (up (up (up (up (up (up (up (up (up (up (up (up c 7 0 0) 7 1 0) 7 2 0) 7 3 0) 8 0 0) 7 4 1) 7 5 (-1)) 7 6 0) 7 7 1) 7 8 0) 1 3 0) 1 1 0) 1 2 (-1)) 1 4 0) 1 5 0) 1 6 0
theorem cI_cf (c : St) : CF c (cI c) := by
  refine ⟨by simp [cI, up_at], fun j h1 h7 h8 _ _ => ?_⟩
  unfold cI
  simp only [up_ne h1, up_ne h7, up_ne h8]
theorem mI_fr (m : St) : MFr m (mI m) := by
  refine ⟨fun j h0 _ => ?_, fun k hk => ?_⟩
  · unfold mI; simp only [up_ne h0]
  · unfold mI
    rw [up_at, if_neg (by omega), up_at, if_neg (by omega), up_at, if_neg (by omega), up_at, if_neg (by omega), up_at, if_neg (by omega), up_at, if_neg (by omega), up_at, if_neg (by omega)]
theorem V0_I {c m : St} {n : Nat} (hT : VT c m n) : V0 (cI c) (mI m) n :=
  ⟨hT.fr (cI_cf c) (mI_fr m), ⟨by simp [cI, mI, up_at], Or.inl ⟨by simp [mI, up_at], by simp [cI, up_at], by simp [cI, up_at], by simp [cI, up_at]⟩⟩, Or.inl ⟨by simp [cI, up_at], by simp [mI, up_at], by simp [cI, up_at], by simp [cI, up_at]⟩, Or.inl ⟨by simp [cI, up_at], by simp [mI, up_at], by simp [cI, up_at], by simp [cI, up_at]⟩, Or.inl ⟨by simp [cI, up_at], by simp [mI, up_at], by simp [cI, up_at]⟩, ⟨0, by decide, by simp [cI, up_at]; rfl, by simp [mI, up_at]; rfl, fun k hk => absurd hk (Nat.not_lt_zero k)⟩, by simp [cI, up_at], by simp [mI, up_at]⟩
theorem R.rd {c m c' m' : St} (h : R c m) (h1 : ∀ j, j ≠ 1 → j ≠ 7 → j ≠ 8 → j ≠ 9 → j ≠ 10 → c' j = c j) (h2 : ∀ j, j ≠ 0 → (j < 6 ∨ 11 < j) → m' j = m j) (h4 : ∀ k, (k < 15 ∨ 28 < k) → m' 0 k = m 0 k) (hT : RTx c' m') : R c' m' := by
  obtain ⟨a1, a2, a3, a4, a5, a6, a7⟩ := h
  exact ⟨a1.congr (fun j _ _ => h1 j (by omega) (by omega) (by omega) (by omega) (by omega)) (fun j _ _ => h2 j (by omega) (by omega)) (fun k _ => h4 k (by omega)), by rw [h1 11 (by decide) (by decide) (by decide) (by decide) (by decide), h2 4 (by decide) (by decide)]; exact a2,
    a3.congr (h1 14 (by decide) (by decide) (by decide) (by decide) (by decide)) (fun j _ _ => h1 j (by omega) (by omega) (by omega) (by omega) (by omega)) (h2 12 (by decide) (by decide)) (h4 31 (by decide)),
    a4.congr (fun j _ _ => h1 j (by omega) (by omega) (by omega) (by omega) (by omega)) (fun j _ _ => h2 j (by omega) (by omega)) (h4 35 (by decide)) (h4 38 (by decide)) (h4 42 (by decide)),
    a5.congr (fun j _ _ => h1 j (by omega) (by omega) (by omega) (by omega) (by omega)) (h2 21 (by decide) (by decide)) (h2 22 (by decide) (by decide)), hT, by rw [h1 43 (by decide) (by decide) (by decide) (by decide) (by decide), h4 13 (by decide)]; exact a7⟩
theorem IB9 {x : Nat} (h : x ≤ 18) : IB 9 (nI x - 9) := by
  unfold IB
  rw [show (nI x - 9).toInt = (x : Int) - 9 from pk_sub_toInt (b := 9) (by omega) (by decide)]; omega
theorem IB99 {x : Nat} (h : x ≤ 198) : IB 99 (nI x - 99) := by
  unfold IB
  rw [show (nI x - 99).toInt = (x : Int) - 99 from pk_sub_toInt (b := 99) (by omega) (by decide)]; omega
theorem emF_b {ck wl ja jm : Int32} {w : Nat → Int32} (h1 : IB 9 ck) (h2 : IB 99 jm) (hw : wlOK wl) (h3 : ∀ k, k < wl.toNatClampNeg → IB 9 (w k)) (t : Int32) : IB 200 (emF ck wl ja jm w t) := by
  unfold emF
  by_cases ht : 0 ≤ t
  · rw [if_pos ht]
    obtain ⟨a, ha, rfl⟩ := nI_of (fun q => by rw [Int32.lt_iff_toInt_lt] at q; rw [Int32.le_iff_toInt_le] at ht; omega : ¬ t < 0)
    obtain ⟨k, k1, k2, k3⟩ := wl_rem hw ha
    rw [k3, cl_nI (by omega)]
    refine IB_mono (IB_add (IB_add h1 (h3 k k1) (by decide)) (B := 99) ?_ (by decide)) (by decide)
    split
    · exact h2
    · exact IB_0 (by decide)
  · rw [if_neg ht]; exact IB_0 (by decide)
/-- the class's mounting and the reference's, taken over, are alike -/
theorem RMt_new {cF mF c m : St} {n : Nat} (hV : V0 cF mF n) (hc3 : ∀ z, z < 9 → c 3 z = cF 7 z) (hc4 : ∀ z, z < 9 → c 4 z = cF 8 z) (hc5 : ∀ z, z < 6 → c 5 z = cF 9 z ∧ c 6 z = cF 10 z)
    (k0 : m 0 0 = mF 0 20) (k1 : m 0 1 = (if mF 0 20 = 0 then 0 else mF 6 0 - 9)) (k2 : m 0 2 = (if mF 0 20 = 0 then 0 else mF 6 1 - 9)) (k3 : m 0 3 = (if mF 0 20 = 0 then 0 else mF 6 2))
    (k4 : m 0 4 = (if mF 0 22 ≤ 0 then 1 else mF 0 22)) (kw : ∀ w : Nat, mF 0 22 = nI w → w ≤ 9 → (∀ k, k < w → m 1 k = mF 7 k - 9) ∧ ∀ k, w ≤ k → k < 9 → m 1 k = 0) (k6 : m 0 6 = (if mF 0 24 = 0 then -1 else mF 8 0)) (k7 : m 0 7 = (if mF 0 24 = 0 then 0 else mF 8 1 - 99)) (k8 : m 0 8 = (if mF 0 26 = 0 then 1 else mF 9 0)) (k9 : m 0 9 = mF 0 28)
    (ks : ∀ s : Nat, mF 0 28 = nI s → s ≤ 6 → ∀ k, k < s → m 2 k = mF 10 k ∧ m 3 k = mF 11 k) : RMt c m := by
  obtain ⟨-, ⟨r0, hR⟩, hW, hJ, hP, ⟨s, s1, s2, s3, s4⟩, -⟩ := hV
  have h20 : mF 0 20 = 0 ∨ mF 0 20 = 1 := by rcases hR with z | z; exact Or.inl z.1; exact Or.inr z.1
  have HR : c 3 1 = m 0 1 ∧ c 3 2 = m 0 2 ∧ c 3 3 = m 0 3 ∧ IB 9 (m 0 1) ∧ IB 9 (m 0 2) ∧ ∃ b : Nat, b ≤ 999 ∧ m 0 3 = nI b := by
    rw [hc3 1 (by decide), hc3 2 (by decide), hc3 3 (by decide), k1, k2, k3]
    rcases hR with ⟨a0, a1, a2, a3⟩ | ⟨a0, x, y, z, x1, y1, z1, x2, y2, z2, a1, a2, a3⟩
    · rw [if_pos a0, if_pos a0, if_pos a0, a1, a2, a3]
      exact ⟨rfl, rfl, rfl, IB_0 (by decide), IB_0 (by decide), 0, by decide, rfl⟩
    · have n0 : ¬ mF 0 20 = 0 := by rw [a0]; decide
      rw [if_neg n0, if_neg n0, if_neg n0, a1, a2, a3, x2, y2, z2]
      exact ⟨rfl, rfl, rfl, IB9 x1, IB9 y1, z, z1, rfl⟩
  have HW : c 3 4 = m 0 4 ∧ wlOK (m 0 4) ∧ ∀ k, k < (m 0 4).toNatClampNeg → c 4 k = m 1 k ∧ IB 9 (m 1 k) := by
    rw [hc3 4 (by decide), k4]
    rcases hW with ⟨a0, a1, a2, a3⟩ | ⟨a0, w, w1, w2, a1, a2, a3⟩
    · rw [a1, if_pos (by decide), a2]
      refine ⟨rfl, ⟨1, by decide, by decide, rfl⟩, fun k hk => ?_⟩
      have hk1 : k < 1 := hk
      obtain rfl : k = 0 := by omega
      have := (kw 0 (by rw [a1]; rfl) (by decide)).2 0 (Nat.le_refl 0) (by decide)
      rw [hc4 0 (by decide), a3, this]
      exact ⟨rfl, IB_0 (by decide)⟩
    · rw [a1, if_neg (nI_nle w1 (by omega)), a2]
      refine ⟨rfl, ⟨w, w1, w2, rfl⟩, fun k hk => ?_⟩
      rw [nI_clamp (by omega)] at hk
      obtain ⟨x, x1, x2, x3⟩ := a3 k hk
      rw [hc4 k (by omega), x3, (kw w a1 w2).1 k hk, x2]
      exact ⟨rfl, IB9 x1⟩
  have HJ : c 3 5 = m 0 6 ∧ c 3 6 = m 0 7 ∧ IB 99 (m 0 7) := by
    rw [hc3 5 (by decide), hc3 6 (by decide), k6, k7]
    rcases hJ with ⟨a0, a1, a2, a3⟩ | ⟨a0, a1, x, y, x1, y1, x2, y2, a2, a3⟩
    · rw [if_pos a1, if_pos a1, a2, a3]
      exact ⟨rfl, rfl, IB_0 (by decide)⟩
    · have n0 : ¬ mF 0 24 = 0 := by rw [a1]; decide
      rw [if_neg n0, if_neg n0, a2, a3, x2, y2]
      exact ⟨rfl, rfl, IB99 y1⟩
  have HP : c 3 7 = m 0 8 ∧ prOK (m 0 8) := by
    rw [hc3 7 (by decide), k8]
    rcases hP with ⟨a0, a1, a2⟩ | ⟨a0, a1, x, x1, x2, x3, a2⟩
    · rw [if_pos a1, a2]; exact ⟨rfl, 1, by decide, by decide, rfl⟩
    · have n0 : ¬ mF 0 26 = 0 := by rw [a1]; decide
      rw [if_neg n0, a2, x3]; exact ⟨rfl, x, x1, x2, rfl⟩
  refine ⟨⟨by rw [hc3 0 (by decide), k0]; exact r0, by rw [k0]; exact h20⟩, ⟨HR.1, HR.2.1, HR.2.2.1⟩, ⟨HW.1, HW.2.1⟩, ⟨HJ.1, HJ.2.1⟩, HP, ⟨s, s1, by rw [hc3 8 (by decide)]; exact s2, by rw [k9]; exact s3, fun k hk => ?_⟩, fun k hk => (HW.2.2 k hk).1, HR.2.2.2.2.2, ?_⟩
  · have e1 := hc5 k (by omega)
    have e2 := ks s s3 s1 k hk
    have e3 := s4 k hk
    exact ⟨e1.1.trans (e3.1.trans e2.1.symm), e1.2.trans (e3.2.trans e2.2.symm)⟩
  · exact ⟨fun t => emF_b HR.2.2.2.1 HJ.2.2 HW.2.1 (fun k hk => (HW.2.2 k hk).2) t, HR.2.2.2.2.1⟩
theorem P_mount {c m : St} (h : R c m) : w_X8_mount c (fun r c' => w_X9_mount m (fun r' m' => r = r' ∧ R c' m')) := by
  obtain ⟨⟨n, n1, n2, n3, n4⟩, hfp⟩ := id h.2.2.2.2.2.1
  have hT : VT c m n := ⟨n2, n3, n1, n4⟩
  have hV := V0_I hT
  have hk := skF_le (mI m 5) (n - 0) 0
  have VS : V0 (up (cI c) 1 3 (nI (skF (mI m 5) (n - 0) 0))) (mI m) n := by
    have := hV.at' (nI (skF (mI m 5) (n - 0) 0)) (mI m 0 17)
    rwa [up_same] at this
  obtain ⟨c1, q, m1, e1, e2, e3, e4, e5⟩ := J_loop (n := n) (n - skF (mI m 5) (n - 0) 0) FU FU 0 (skF (mI m 5) (n - 0) 0) 0 (up (cI c) 1 3 (nI (skF (mI m 5) (n - 0) 0))) (mI m) (by omega) (Nat.zero_le _) (by show _ < 1100; omega) (by show _ < 1100; omega) VS (by simp [cI, up_at]) (by simp [up_at]) (by simp [mI, up_at]; rfl) (Nat.zero_le _) rfl
  have hM : ∀ K : Int32 → St → Prop, w_X9_mount_J56 K q m1 → w_X9_mount m K := by
    intro K hK
    rintro _ rfl _ rfl _ rfl _ rfl _ rfl _ rfl _ rfl
    exact e2 K hK
  have FC : CF c c1 := ((cI_cf c).up (Or.inl ⟨rfl, by decide⟩)).trans e3
  have FM : MFr m m1 := (mI_fr m).trans e4
  rintro _ rfl _ rfl _ rfl _ rfl
  refine C_sw0 (j := 7) ?_
  rintro _ rfl _ rfl _ rfl _ rfl _ rfl _ rfl _ rfl _ rfl _ rfl _ rfl
  refine C_skip (m := mI m) (n := n) (a := 0) (c := cI c) hV.1 (by simp [cI, up_at]; rfl) (Nat.zero_le _) (e1 _ ?_)
  rintro _ rfl
  have x11 : up c1 1 0 0 1 1 = c1 1 1 := by simp [up_at]
  rw [x11]
  rcases e5 with ⟨q0, f0, VF⟩ | ⟨q0, f0, f1⟩
  · subst q0
    refine ⟨fun _ => ?_, fun z => absurd f0 z⟩
    have v7 : up c1 1 0 0 7 = c1 7 := up_ne (by decide)
    have v8 : up c1 1 0 0 8 = c1 8 := up_ne (by decide)
    have v9 : up c1 1 0 0 9 = c1 9 := up_ne (by decide)
    have v10 : up c1 1 0 0 10 = c1 10 := up_ne (by decide)
    obtain ⟨-, ⟨r0, hR⟩, hW, -, -, ⟨s, s1, s2, s3, s4⟩, fa, fb⟩ := id VF
    have h20 : m1 0 20 = 0 ∨ m1 0 20 = 1 := by rcases hR with z | z; exact Or.inl z.1; exact Or.inr z.1
    obtain ⟨w, w1, w2⟩ : ∃ w : Nat, w ≤ 9 ∧ m1 0 22 = nI w := by
      rcases hW with z | ⟨-, w, -, z1, z2, -⟩
      · exact ⟨0, by decide, z.2.1⟩
      · exact ⟨w, z1, z2⟩
    refine C_copyMount (by rw [v7, r0]; exact h20) (fun σ g1 g3 g4 g5 => ?_)
    rw [v7] at g3
    rw [v8] at g4
    rw [v9, v10] at g5
    rintro _ rfl
    refine C_takeFresh (fun f ff0 ff => ?_)
    rintro _ rfl _ rfl _ rfl _ rfl _ rfl _ rfl
    rw [up_at, if_pos ⟨rfl, rfl⟩] at ff0
    refine hM _ ?_
    rintro _ rfl
    refine ⟨fun _ => ?_, fun z => absurd (by decide) z⟩
    have u0 : ∀ k, k ≠ 15 → up m1 0 15 0 0 k = m1 0 k := fun k hk => by rw [up_at, if_neg (fun z => hk z.2)]
    have uj : ∀ j, j ≠ 0 → up m1 0 15 0 j = m1 j := fun j hj => up_ne hj
    refine M_takeRead (w := w) (s := s) (by rw [u0 20 (by decide)]; exact h20) w1 (by rw [u0 22 (by decide)]; exact w2) s1 (by rw [u0 28 (by decide)]; exact s3) ?_
    rw [u0 20 (by decide), u0 22 (by decide), u0 24 (by decide), u0 26 (by decide), u0 28 (by decide), uj 6 (by decide), uj 7 (by decide), uj 8 (by decide), uj 9 (by decide), uj 10 (by decide), uj 11 (by decide)]
    intro τ t1 t2 k0 k1 k2 k3 k4 k5 k5' k6 k7 k8 k9 k10 k11
    rintro _ rfl _ rfl _ rfl _ rfl
    refine ⟨vlit (by decide), ?_⟩
    rintro _ rfl
    refine ⟨vlit (by decide), ?_⟩
    rintro _ rfl
    have L0 : ∀ k, k < 10 → up (up (up (up (up (up τ 0 35 0) 0 38 0) 0 42 0) 0 31 0) 22 (0 : Int32).toNatClampNeg 0) 22 (1 : Int32).toNatClampNeg 0 0 k = τ 0 k := fun k hk => by
      rw [up_ne (by decide), up_ne (by decide), up_at, if_neg (by omega), up_at, if_neg (by omega), up_at, if_neg (by omega), up_at, if_neg (by omega)]
    have Lj : ∀ j, j ≠ 0 → j ≠ 22 → up (up (up (up (up (up τ 0 35 0) 0 38 0) 0 42 0) 0 31 0) 22 (0 : Int32).toNatClampNeg 0) 22 (1 : Int32).toNatClampNeg 0 j = τ j := fun j h0 h22 => by
      rw [up_ne h22, up_ne h22, up_ne h0, up_ne h0, up_ne h0, up_ne h0]
    have Lk : ∀ k, k ≠ 35 → k ≠ 38 → k ≠ 42 → k ≠ 31 → up (up (up (up (up (up τ 0 35 0) 0 38 0) 0 42 0) 0 31 0) 22 (0 : Int32).toNatClampNeg 0) 22 (1 : Int32).toNatClampNeg 0 0 k = τ 0 k := fun k h1 h2 h3 h4 => by
      rw [up_ne (by decide), up_ne (by decide), up_at, if_neg (by omega), up_at, if_neg (by omega), up_at, if_neg (by omega), up_at, if_neg (by omega)]
    have L35 : up (up (up (up (up (up τ 0 35 0) 0 38 0) 0 42 0) 0 31 0) 22 (0 : Int32).toNatClampNeg 0) 22 (1 : Int32).toNatClampNeg 0 0 35 = 0 := by simp [up_at]
    have L38 : up (up (up (up (up (up τ 0 35 0) 0 38 0) 0 42 0) 0 31 0) 22 (0 : Int32).toNatClampNeg 0) 22 (1 : Int32).toNatClampNeg 0 0 38 = 0 := by simp [up_at]
    have L42 : up (up (up (up (up (up τ 0 35 0) 0 38 0) 0 42 0) 0 31 0) 22 (0 : Int32).toNatClampNeg 0) 22 (1 : Int32).toNatClampNeg 0 0 42 = 0 := by simp [up_at]
    have L31 : up (up (up (up (up (up τ 0 35 0) 0 38 0) 0 42 0) 0 31 0) 22 (0 : Int32).toNatClampNeg 0) 22 (1 : Int32).toNatClampNeg 0 0 31 = 0 := by simp [up_at]
    have L220 : up (up (up (up (up (up τ 0 35 0) 0 38 0) 0 42 0) 0 31 0) 22 (0 : Int32).toNatClampNeg 0) 22 (1 : Int32).toNatClampNeg 0 22 0 = 0 := by
      rw [up_at, if_neg (by decide), up_at, if_pos (by decide)]
    have L221 : up (up (up (up (up (up τ 0 35 0) 0 38 0) 0 42 0) 0 31 0) 22 (0 : Int32).toNatClampNeg 0) 22 (1 : Int32).toNatClampNeg 0 22 1 = 0 := by
      rw [up_at, if_pos (by decide)]
    generalize up (up (up (up (up (up τ 0 35 0) 0 38 0) 0 42 0) 0 31 0) 22 (0 : Int32).toNatClampNeg 0) 22 (1 : Int32).toNatClampNeg 0 = mZ at L0 Lj Lk L35 L38 L42 L31 L220 L221 ⊢
    have Cj : ∀ j, j ≠ 11 → j ≠ 36 → j ≠ 14 → j ≠ 44 → j ≠ 46 → up (up (up (up (up (up (upc (up σ 11 0 0) 11 f) 36 0 0) 36 1 0) 36 2 0) 14 0 0) 44 0 0) 46 0 0 j = σ j := fun j h1 h2 h3 h4 h5 => by
      rw [up_ne h5, up_ne h4, up_ne h3, up_ne h2, up_ne h2, up_ne h2, upc_at, if_neg h1, up_ne h1]
    have C11 : up (up (up (up (up (up (upc (up σ 11 0 0) 11 f) 36 0 0) 36 1 0) 36 2 0) 14 0 0) 44 0 0) 46 0 0 11 = f := by
      rw [up_ne (by decide), up_ne (by decide), up_ne (by decide), up_ne (by decide), up_ne (by decide), up_ne (by decide), upc_same]
    have C360 : up (up (up (up (up (up (upc (up σ 11 0 0) 11 f) 36 0 0) 36 1 0) 36 2 0) 14 0 0) 44 0 0) 46 0 0 36 0 = 0 := by simp [up_at]
    have C361 : up (up (up (up (up (up (upc (up σ 11 0 0) 11 f) 36 0 0) 36 1 0) 36 2 0) 14 0 0) 44 0 0) 46 0 0 36 1 = 0 := by simp [up_at]
    have C362 : up (up (up (up (up (up (upc (up σ 11 0 0) 11 f) 36 0 0) 36 1 0) 36 2 0) 14 0 0) 44 0 0) 46 0 0 36 2 = 0 := by simp [up_at]
    have C140 : up (up (up (up (up (up (upc (up σ 11 0 0) 11 f) 36 0 0) 36 1 0) 36 2 0) 14 0 0) 44 0 0) 46 0 0 14 0 = 0 := by simp [up_at]
    have C141 : up (up (up (up (up (up (upc (up σ 11 0 0) 11 f) 36 0 0) 36 1 0) 36 2 0) 14 0 0) 44 0 0) 46 0 0 14 1 = σ 14 1 := by simp [up_at, upc_at]
    have C440 : up (up (up (up (up (up (upc (up σ 11 0 0) 11 f) 36 0 0) 36 1 0) 36 2 0) 14 0 0) 44 0 0) 46 0 0 44 0 = 0 := by simp [up_at]
    have C460 : up (up (up (up (up (up (upc (up σ 11 0 0) 11 f) 36 0 0) 36 1 0) 36 2 0) 14 0 0) 44 0 0) 46 0 0 46 0 = 0 := by simp [up_at]
    generalize up (up (up (up (up (up (upc (up σ 11 0 0) 11 f) 36 0 0) 36 1 0) 36 2 0) 14 0 0) 44 0 0) 46 0 0 = cZ at Cj C11 C360 C361 C362 C140 C141 C440 C460 ⊢
    have RM : RMt cZ mZ := by
      refine RMt_new VF (fun z hz => by rw [Cj 3 (by decide) (by decide) (by decide) (by decide) (by decide)]; exact g3 z hz) (fun z hz => by rw [Cj 4 (by decide) (by decide) (by decide) (by decide) (by decide)]; exact g4 z hz) (fun z hz => by rw [Cj 5 (by decide) (by decide) (by decide) (by decide) (by decide), Cj 6 (by decide) (by decide) (by decide) (by decide) (by decide)]; exact g5 z hz) ?_ ?_ ?_ ?_ ?_ ?_ ?_ ?_ ?_ ?_ ?_
      · rw [L0 0 (by decide)]; exact k0
      · rw [L0 1 (by decide)]; exact k1
      · rw [L0 2 (by decide)]; exact k2
      · rw [L0 3 (by decide)]; exact k3
      · rw [L0 4 (by decide)]; exact k4
      · intro w' e' hw'
        obtain rfl : w = w' := nI_inj (by omega) (by omega) (w2.symm.trans e')
        rw [Lj 1 (by decide) (by decide)]
        exact ⟨k5, k5'⟩
      · rw [L0 6 (by decide)]; exact k6
      · rw [L0 7 (by decide)]; exact k7
      · rw [L0 8 (by decide)]; exact k8
      · rw [L0 9 (by decide)]; exact k9
      · intro s' e' hs'
        obtain rfl : s = s' := nI_inj (by omega) (by omega) (s3.symm.trans e')
        rw [Lj 2 (by decide) (by decide), Lj 3 (by decide) (by decide)]
        exact k10
    refine ⟨?_, RM, ⟨NE_fresh (by rw [C11, Lj 4 (by decide) (by decide), k11 0 (by decide)]; exact ff0) (fun k h1 h2 => by rw [C11]; exact ff k h1 h2) (fun k h1 h2 => by rw [Lj 4 (by decide) (by decide)]; exact k11 k h2), ?_⟩, ?_, ?_, ?_, ?_, ?_⟩
    · obtain ⟨-, -, -, -, -, ⟨s', -, y1, y2, -⟩, -⟩ := RM
      rw [y1, y2]
    · rw [Lj 4 (by decide) (by decide)]
      exact ⟨0, 0, k11 0 (by decide), by decide, k11 7 (by decide), by decide, Or.inl (k11 5 (by decide)), Or.inl (k11 6 (by decide))⟩
    · obtain ⟨cnt, nx, -, b2, -, b4, -⟩ := h.2.2.1
      refine ⟨0, nx, by decide, b2, C140, ?_, L31, fun j hj => absurd hj (Nat.not_lt_zero j)⟩
      rw [C141, g1 14 (by decide), up_ne (by decide), FC.2 14 (by decide) (by decide) (by decide) (by decide) (by decide)]; exact b4
    · exact ⟨0, 0, 0, by decide, by decide, by decide, ⟨C360, L35, fun k hk => absurd hk (Nat.not_lt_zero k)⟩, ⟨C361, L38, fun k hk => absurd hk (Nat.not_lt_zero k)⟩, C362, L42, fun k hk => absurd hk (Nat.not_lt_zero k)⟩
    · exact ⟨⟨C440.trans L220.symm, fun z => absurd C440 z⟩, C460.trans L221.symm, fun z => absurd C460 z⟩
    · refine ⟨⟨0, by decide, ?_, ?_, fun k hk => absurd hk (Nat.not_lt_zero k)⟩, ?_⟩
      · rw [Cj 1 (by decide) (by decide) (by decide) (by decide) (by decide), g1 1 (by decide), up_at, if_pos ⟨rfl, rfl⟩]; rfl
      · rw [Lk 15 (by decide) (by decide) (by decide) (by decide), t2 15 (by decide), up_at, if_pos ⟨rfl, rfl⟩]; rfl
      · rw [Cj 1 (by decide) (by decide) (by decide) (by decide) (by decide), g1 1 (by decide), up_at, if_neg (by decide), fa, Lk 16 (by decide) (by decide) (by decide) (by decide), t2 16 (by decide), u0 16 (by decide), fb]
    · have m13 : τ 0 13 = m 0 13 := by rw [t2 13 (by decide), u0 13 (by decide)]; exact FM.2 13 (by decide)
      rw [Cj 43 (by decide) (by decide) (by decide) (by decide) (by decide), g1 43 (by decide), up_ne (by decide), FC.2 43 (by decide) (by decide) (by decide) (by decide) (by decide), Lk 13 (by decide) (by decide) (by decide) (by decide), m13]
      exact h.2.2.2.2.2.2
  · have hq0 : ¬ c1 1 1 = 0 ∧ ¬ q ≤ 0 := by rw [f0]; rcases q0 with z | z | z <;> rw [z] <;> decide
    refine ⟨fun z => absurd z hq0.1, fun _ => hM _ ?_⟩
    rintro _ rfl
    refine ⟨fun z => absurd z hq0.2, fun _ => ⟨by rw [f0], R.rd h (fun j h1 h7 h8 h9 h10 => ?_) (fun j h0 hj => ?_) (fun k hk => ?_) ⟨⟨0, by decide, by simp [up_at]; rfl, by simp [up_at]; rfl, fun k hk => absurd hk (Nat.not_lt_zero k)⟩, ?_⟩⟩⟩
    · rw [up_ne h1]; exact FC.2 j h1 h7 h8 h9 h10
    · rw [up_ne h0]; exact FM.1 j h0 hj
    · rw [up_at, if_neg (by omega)]; exact FM.2 k (by omega)
    · rw [up_at, if_neg (by decide), up_at, if_neg (by decide)]; exact f1
