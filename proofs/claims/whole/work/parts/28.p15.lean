/-! ===== pure: reading on after a fault ===== -/
theorem S_lt (c : St) : ∃ r : Int32, ∀ Post : Int32 → St → Prop, Post r c → w_X6_letterHere c Post := by
  by_cases h1 : c 1 3 < 0
  · exact ⟨-1, fun Post hP => ⟨fun _ => hP, fun q => absurd h1 q⟩⟩
  · by_cases h2 : c 1 0 ≤ c 1 3
    · exact ⟨-1, fun Post hP => ⟨fun q => absurd q h1, fun _ => ⟨fun _ => hP, fun q => absurd h2 q⟩⟩⟩
    · by_cases h3 : nI 230 ≤ c 1 3
      · exact ⟨-1, fun Post hP => ⟨fun q => absurd q h1, fun _ => ⟨fun q => absurd q h2, fun _ => ⟨fun _ => hP, fun q => absurd h3 q⟩⟩⟩⟩
      · obtain ⟨a, ha, e⟩ := nI_of h1
        refine ⟨c 2 (c 1 3).toNatClampNeg, fun Post hP => ⟨fun q => absurd q h1, fun _ => ⟨fun q => absurd q h2, fun _ => ⟨fun q => absurd q h3, fun _ => ⟨?_, hP⟩⟩⟩⟩⟩
        rw [e] at h3
        exact vin e (Nat.lt_of_not_le (fun z => h3 (nI_le z (by omega))))
theorem S_sk : ∀ (j fuel i : Nat) (c : St), i + j = 230 → j < fuel → ∃ x : Int32, ∀ Post : St → Prop, Post (up c 1 3 x) → w_X6_skipBlanks_L2 Post fuel (nI i) c := by
  intro j
  induction j with
  | zero =>
    intro fuel i c h1 h2
    obtain ⟨fl, rfl⟩ : ∃ z, fuel = z + 1 := ⟨fuel - 1, by omega⟩
    obtain rfl : i = 230 := by omega
    refine ⟨c 1 3, fun Post hP => ⟨fun _ => by rw [up_same] at hP; exact hP, fun q => absurd (by decide) q⟩⟩
  | succ j ih =>
    intro fuel i c h1 h2
    obtain ⟨fl, rfl⟩ : ∃ z, fuel = z + 1 := ⟨fuel - 1, by omega⟩
    obtain ⟨r, hr⟩ := S_lt c
    by_cases q : r = 32
    · obtain ⟨x, hx⟩ := ih fl (i + 1) (up c 1 3 (c 1 3 + 1)) (by omega) (by omega)
      refine ⟨x, fun Post hP => ⟨fun y => absurd y (nI_ge (a := i) (b := 230) (by omega) (by decide)), fun _ => hr _ ⟨fun y => absurd q y, fun _ => ?_⟩⟩⟩
      rintro _ rfl _ rfl
      rw [nI_1]
      refine hx Post ?_
      rw [up_up]; exact hP
    · exact ⟨c 1 3, fun Post hP => ⟨fun y => absurd y (nI_ge (a := i) (b := 230) (by omega) (by decide)), fun _ => hr _ ⟨fun _ => by rw [up_same] at hP; exact hP, fun y => absurd y q⟩⟩⟩
theorem S_skip (c : St) : ∃ x : Int32, ∀ Post : St → Prop, Post (up c 1 3 x) → w_X6_skipBlanks c Post := S_sk 230 FU 0 c rfl (by decide)
theorem S_sf {c : St} (h : ¬ c 1 1 = 0) (p q : Int32) {Post : St → Prop} (hP : Post c) : w_X6_setFault p q c Post := ⟨fun _ => hP, fun y => absurd y h⟩
theorem S_70 {c : St} (h : ¬ c 1 1 = 0) (lo hi x2 v : Int32) : ∃ r : Int32, ∀ Post : Int32 → St → Prop, Post r c → w_X6_readNumber_J70 Post lo hi x2 v c := by
  by_cases h1 : c 1 3 = x2
  · exact ⟨lo, fun Post hP => ⟨fun q => absurd h1 q, fun _ => S_sf h _ _ hP⟩⟩
  · by_cases h2 : (3 : Int32) < c 1 3 - x2
    · exact ⟨lo, fun Post hP => ⟨fun _ => ⟨fun _ => S_sf h _ _ hP, fun q => absurd h2 q⟩, fun q => absurd q h1⟩⟩
    · by_cases h3 : lo ≤ v ∧ v ≤ hi
      · refine ⟨v, fun Post hP => ⟨fun _ => ⟨fun q => absurd q h2, fun _ => ?_⟩, fun q => absurd q h1⟩⟩
        rw [isW, if_pos h3]
        exact ⟨fun _ => hP, fun q => absurd q (by decide)⟩
      · refine ⟨lo, fun Post hP => ⟨fun _ => ⟨fun q => absurd q h2, fun _ => ?_⟩, fun q => absurd q h1⟩⟩
        rw [isW, if_neg h3]
        exact ⟨fun q => absurd rfl q, fun _ => S_sf h _ _ hP⟩
theorem S_dg (lo hi x2 : Int32) : ∀ (j fuel i : Nat) (v : Int32) (c : St), ¬ c 1 1 = 0 → i + j = 230 → j < fuel → ∃ r x : Int32, ∀ Post : Int32 → St → Prop, Post r (up c 1 3 x) → w_X6_readNumber_L15 Post fuel lo hi x2 v (nI i) c := by
  intro j
  induction j with
  | zero =>
    intro fuel i v c hf h1 h2
    obtain ⟨fl, rfl⟩ : ∃ z, fuel = z + 1 := ⟨fuel - 1, by omega⟩
    obtain rfl : i = 230 := by omega
    obtain ⟨r, hr⟩ := S_70 hf lo hi x2 v
    exact ⟨r, c 1 3, fun Post hP => ⟨fun _ => by rw [up_same] at hP; exact hr _ hP, fun q => absurd (by decide) q⟩⟩
  | succ j ih =>
    intro fuel i v c hf h1 h2
    obtain ⟨fl, rfl⟩ : ∃ z, fuel = z + 1 := ⟨fuel - 1, by omega⟩
    obtain ⟨y, hy⟩ := S_lt c
    by_cases q : fig y
    · obtain ⟨r, x, hx⟩ := ih fl (i + 1) (if (9999 : Int32) < (((v * (10 : Int32)) + y) - (48 : Int32)) then (9999 : Int32) else (((v * (10 : Int32)) + y) - (48 : Int32))) (up c 1 3 (c 1 3 + 1)) (by rw [up_at, if_neg (by decide)]; exact hf) (by omega) (by omega)
      refine ⟨r, x, fun Post hP => ⟨fun z => absurd z (nI_ge (a := i) (b := 230) (by omega) (by decide)), fun _ => hy _ (figC.mpr ?_)⟩⟩
      rw [if_pos q]
      refine ⟨fun z => absurd z (by decide), fun _ => hy _ ?_⟩
      rintro _ rfl _ rfl _ rfl
      rw [nI_1]
      refine hx Post ?_
      rw [up_up]; exact hP
    · obtain ⟨r, hr⟩ := S_70 hf lo hi x2 v
      refine ⟨r, c 1 3, fun Post hP => ⟨fun z => absurd z (nI_ge (a := i) (b := 230) (by omega) (by decide)), fun _ => hy _ (figC.mpr ?_)⟩⟩
      rw [if_neg q]
      rw [up_same] at hP
      exact ⟨fun _ => hr _ hP, fun z => absurd rfl z⟩
theorem S_num (lo hi : Int32) {c : St} (hf : ¬ c 1 1 = 0) : ∃ r x : Int32, ∀ Post : Int32 → St → Prop, Post r (up c 1 3 x) → w_X6_readNumber lo hi c Post := by
  obtain ⟨y, hy⟩ := S_skip c
  obtain ⟨r, x, hx⟩ := S_dg lo hi (up c 1 3 y 1 3) 230 FU 0 0 (up c 1 3 y) (by rw [up_at, if_neg (by decide)]; exact hf) rfl (by decide)
  refine ⟨r, x, fun Post hP => hy _ ?_⟩
  rintro _ rfl
  refine hx Post ?_
  rw [up_up]; exact hP
theorem S_takes (p : Int32) (c : St) : ∃ r x : Int32, ∀ Post : Int32 → St → Prop, Post r (up c 1 3 x) → w_X6_takes p c Post := by
  obtain ⟨y, hy⟩ := S_skip c
  obtain ⟨z, hz⟩ := S_lt (up c 1 3 y)
  by_cases q : z = p
  · refine ⟨1, up c 1 3 y 1 3 + 1, fun Post hP => hy _ (hz _ ⟨fun _ => ?_, fun w => absurd q w⟩)⟩
    rintro _ rfl
    rw [up_up]; exact hP
  · exact ⟨0, y, fun Post hP => hy _ (hz _ ⟨fun w => absurd w q, fun _ => hP⟩)⟩
/-- what a faulty clause leaves of the class's other rows -/
def FE (c c' : St) : Prop := (∀ k, k ≠ 3 → k ≠ 4 → k ≠ 5 → k ≠ 6 → c' 1 k = c 1 k) ∧ ∀ j, j ≠ 1 → j ≠ 7 → j ≠ 8 → j ≠ 9 → j ≠ 10 → c' j = c j
theorem FE.rfl' {c : St} : FE c c := ⟨fun _ _ _ _ _ => rfl, fun _ _ _ _ _ _ => rfl⟩
theorem FE.trans {a b c : St} (h1 : FE a b) (h2 : FE b c) : FE a c :=
  ⟨fun k x y z w => (h2.1 k x y z w).trans (h1.1 k x y z w), fun j x y z w v => (h2.2 j x y z w v).trans (h1.2 j x y z w v)⟩
theorem FE.up3 {c c' : St} (h : FE c c') (x : Int32) : FE c (up c' 1 3 x) :=
  h.trans ⟨fun k h3 _ _ _ => by rw [up_at, if_neg (fun z => h3 z.2)], fun j h1 _ _ _ _ => by rw [up_ne h1]⟩
theorem FE.upm {c c' : St} (h : FE c c') {j : Nat} (hj : j = 7 ∨ j = 8 ∨ j = 9 ∨ j = 10) (k : Nat) (x : Int32) : FE c (up c' j k x) :=
  h.trans ⟨fun k _ _ _ _ => by rw [up_ne (by omega)], fun i _ h7 h8 h9 h10 => by rw [up_ne (by omega)]⟩
theorem FE.ne {c c' : St} (h : FE c c') (hf : ¬ c 1 1 = 0) : ¬ c' 1 1 = 0 := by rw [h.1 1 (by decide) (by decide) (by decide) (by decide)]; exact hf
theorem up3_ne {c : St} {x : Int32} (hf : ¬ c 1 1 = 0) : ¬ up c 1 3 x 1 1 = 0 := by rw [up_at, if_neg (by decide)]; exact hf
theorem C_swj {j i : Nat} {x : Int32} {c : St} {Post : St → Prop} (hi : i < 9) (h : Post (up (up c (j + 1) i x) j 4 (nI (i + 1)))) : w_X3_setWorm j (nI i) x c Post := by
  refine ⟨fun q => absurd q (nI_pos (by omega)), fun _ => ⟨fun q => absurd q (nI_ge (by omega) (by decide)), fun _ => ⟨vp_in_nI hi (by decide), ?_⟩⟩⟩
  rw [nI_clamp (by omega), nI_1]
  rintro _ rfl _ rfl
  exact h
theorem C_sw {i : Nat} {x : Int32} {c : St} {Post : St → Prop} (hi : i < 9) (h : Post (up (up c 8 i x) 7 4 (nI (i + 1)))) : w_X3_setWorm 7 (nI i) x c Post := C_swj (j := 7) hi h
theorem C_sw0 {j : Nat} {c : St} {Post : St → Prop} (h : Post (up (up c (j + 1) 0 0) j 4 1)) : w_X3_setWorm j (0 : Int32) (0 : Int32) c Post := C_swj (i := 0) (x := 0) (by decide) h
theorem S_J26 {K7 : Int32 → St → Prop} {i : Nat} (hi : i < 9) {c : St} (hf : ¬ c 1 1 = 0) : ∃ c1 : St, FE c c1 ∧ ∀ Post : St → Prop, K7 (nI (i + 1)) c1 → w_X6_readWorm_J26 K7 Post (nI i) c := by
  obtain ⟨r, x, hx⟩ := S_num 0 18 hf
  refine ⟨_, ((FE.rfl'.up3 x).upm (Or.inr (Or.inl rfl)) i (r - 9)).upm (Or.inl rfl) 4 (nI (i + 1)), fun Post hK => hx _ (C_sw hi ?_)⟩
  rintro _ rfl
  rw [nI_1]; exact hK
theorem S_wl : ∀ (j fuel i : Nat) (c : St), ¬ c 1 1 = 0 → i + j = 9 → j < fuel → ∃ c' : St, FE c c' ∧ ∀ Post : St → Prop, Post c' → w_X6_readWorm_L7 Post fuel (nI i) c := by
  intro j
  induction j with
  | zero =>
    intro fuel i c hf h1 h2
    obtain ⟨fl, rfl⟩ : ∃ z, fuel = z + 1 := ⟨fuel - 1, by omega⟩
    obtain rfl : i = 9 := by omega
    exact ⟨c, FE.rfl', fun Post hP => ⟨fun q => absurd q (by decide), fun _ => ⟨fun _ => hP, fun q => absurd (by decide) q⟩⟩⟩
  | succ j ih =>
    intro fuel i c hf h1 h2
    obtain ⟨fl, rfl⟩ : ∃ z, fuel = z + 1 := ⟨fuel - 1, by omega⟩
    by_cases h0 : i = 0
    · subst h0
      obtain ⟨c1, q1, _⟩ := S_J26 (K7 := fun _ _ => True) (i := 0) (by decide) hf
      obtain ⟨r, x, hx⟩ := S_num 0 18 hf
      have f1 : FE c (up (up (up c 1 3 x) 8 0 (r - 9)) 7 4 (nI (0 + 1))) := ((FE.rfl'.up3 x).upm (Or.inr (Or.inl rfl)) 0 (r - 9)).upm (Or.inl rfl) 4 (nI (0 + 1))
      obtain ⟨c', f2, hc⟩ := ih fl 1 _ (f1.ne hf) (by omega) (by omega)
      refine ⟨c', f1.trans f2, fun Post hP => ⟨fun _ => hx _ (C_sw (by decide) ?_), fun q => absurd (by decide) q⟩⟩
      rintro _ rfl
      rw [nI_1]; exact hc Post hP
    · have hne : ¬ nI i = 0 := nI_ne0 (by omega) (by omega)
      have h9 : ¬ (9 : Int32) ≤ nI i := nI_ge (a := i) (b := 9) (by omega) (by decide)
      obtain ⟨r, x, hx⟩ := S_takes 44 c
      by_cases hr : r = 0
      · exact ⟨up c 1 3 x, FE.rfl'.up3 x, fun Post hP => ⟨fun q => absurd q hne, fun _ => ⟨fun q => absurd q h9, fun _ => hx _ ⟨fun _ => hP, fun q => absurd hr q⟩⟩⟩⟩
      · obtain ⟨r2, x2, hx2⟩ := S_num 0 18 (c := up c 1 3 x) (up3_ne hf)
        have f1 : FE c (up (up (up (up c 1 3 x) 1 3 x2) 8 i (r2 - 9)) 7 4 (nI (i + 1))) := (((FE.rfl'.up3 x).up3 x2).upm (Or.inr (Or.inl rfl)) i (r2 - 9)).upm (Or.inl rfl) 4 (nI (i + 1))
        obtain ⟨c', f2, hc⟩ := ih fl (i + 1) _ (f1.ne hf) (by omega) (by omega)
        refine ⟨c', f1.trans f2, fun Post hP => ⟨fun q => absurd q hne, fun _ => ⟨fun q => absurd q h9, fun _ => hx _ ⟨fun q => absurd q hr, fun _ => hx2 _ (C_sw (by omega) ?_)⟩⟩⟩⟩
        rintro _ rfl
        rw [nI_1]; exact hc Post hP
theorem S_117 {c : St} (hf : ¬ c 1 1 = 0) : ∃ c' : St, FE c c' ∧ ∀ Post : St → Prop, Post c' → w_X6_readClause_J117 Post c := by
  obtain ⟨r, x, hx⟩ := S_takes 59 c
  exact ⟨up c 1 3 x, FE.rfl'.up3 x, fun Post hP => hx _ ⟨fun _ => hP, fun _ => S_sf (up3_ne hf) _ _ hP⟩⟩
/-! ===== what is told so far ===== -/
def VR (c m : St) : Prop := c 7 0 = m 0 20 ∧ ((m 0 20 = 0 ∧ c 7 1 = 0 ∧ c 7 2 = 0 ∧ c 7 3 = 0) ∨ (m 0 20 = 1 ∧ ∃ x y z : Nat, x ≤ 18 ∧ y ≤ 18 ∧ z ≤ 999 ∧ m 6 0 = nI x ∧ m 6 1 = nI y ∧ m 6 2 = nI z ∧ c 7 1 = nI x - 9 ∧ c 7 2 = nI y - 9 ∧ c 7 3 = nI z))
def VW (c m : St) : Prop := (c 1 4 = 0 ∧ m 0 22 = 0 ∧ c 7 4 = 1 ∧ c 8 0 = 0) ∨ (c 1 4 = 1 ∧ ∃ w : Nat, 1 ≤ w ∧ w ≤ 9 ∧ m 0 22 = nI w ∧ c 7 4 = nI w ∧ ∀ k, k < w → ∃ x : Nat, x ≤ 18 ∧ m 7 k = nI x ∧ c 8 k = nI x - 9)
def VJ (c m : St) : Prop := (c 1 5 = 0 ∧ m 0 24 = 0 ∧ c 7 5 = -1 ∧ c 7 6 = 0) ∨ (c 1 5 = 1 ∧ m 0 24 = 1 ∧ ∃ x y : Nat, x ≤ 999 ∧ y ≤ 198 ∧ m 8 0 = nI x ∧ m 8 1 = nI y ∧ c 7 5 = nI x ∧ c 7 6 = nI y - 99)
def VP (c m : St) : Prop := (c 1 6 = 0 ∧ m 0 26 = 0 ∧ c 7 7 = 1) ∨ (c 1 6 = 1 ∧ m 0 26 = 1 ∧ ∃ x : Nat, 1 ≤ x ∧ x ≤ 9 ∧ m 9 0 = nI x ∧ c 7 7 = nI x)
def VS (c m : St) : Prop := ∃ s : Nat, s ≤ 6 ∧ c 7 8 = nI s ∧ m 0 28 = nI s ∧ ∀ k, k < s → c 9 k = m 10 k ∧ c 10 k = m 11 k
theorem VR.congr {c m c' m' : St} (h : VR c m) (h0 : c' 7 0 = c 7 0) (h1 : c' 7 1 = c 7 1) (h2 : c' 7 2 = c 7 2) (h3 : c' 7 3 = c 7 3) (h4 : m' 0 20 = m 0 20) (h5 : m' 6 = m 6) : VR c' m' := by unfold VR; rw [h0, h1, h2, h3, h4, h5]; exact h
theorem VW.congr {c m c' m' : St} (h : VW c m) (h0 : c' 1 4 = c 1 4) (h1 : c' 7 4 = c 7 4) (h2 : c' 8 = c 8) (h4 : m' 0 22 = m 0 22) (h5 : m' 7 = m 7) : VW c' m' := by unfold VW; rw [h0, h1, h2, h4, h5]; exact h
theorem VJ.congr {c m c' m' : St} (h : VJ c m) (h0 : c' 1 5 = c 1 5) (h1 : c' 7 5 = c 7 5) (h2 : c' 7 6 = c 7 6) (h4 : m' 0 24 = m 0 24) (h5 : m' 8 = m 8) : VJ c' m' := by unfold VJ; rw [h0, h1, h2, h4, h5]; exact h
theorem VP.congr {c m c' m' : St} (h : VP c m) (h0 : c' 1 6 = c 1 6) (h1 : c' 7 7 = c 7 7) (h4 : m' 0 26 = m 0 26) (h5 : m' 9 = m 9) : VP c' m' := by unfold VP; rw [h0, h1, h4, h5]; exact h
theorem VS.congr {c m c' m' : St} (h : VS c m) (h0 : c' 7 8 = c 7 8) (h1 : c' 9 = c 9) (h2 : c' 10 = c 10) (h4 : m' 0 28 = m 0 28) (h5 : m' 10 = m 10) (h6 : m' 11 = m 11) : VS c' m' := by unfold VS; rw [h0, h1, h2, h4, h5, h6]; exact h
def V (c m : St) (n a : Nat) : Prop := VT c m n ∧ VA c m n a ∧ VR c m ∧ VW c m ∧ VJ c m ∧ VP c m ∧ VS c m
/-- what reading leaves alone -/
def CF (c c' : St) : Prop := c' 1 0 = c 1 0 ∧ ∀ j, j ≠ 1 → j ≠ 7 → j ≠ 8 → j ≠ 9 → j ≠ 10 → c' j = c j
def MFr (m m' : St) : Prop := (∀ j, j ≠ 0 → (j < 6 ∨ 11 < j) → m' j = m j) ∧ ∀ k, (k < 16 ∨ 28 < k) → m' 0 k = m 0 k
theorem CF.trans {a b c : St} (h1 : CF a b) (h2 : CF b c) : CF a c := ⟨h2.1.trans h1.1, fun j x y z w v => (h2.2 j x y z w v).trans (h1.2 j x y z w v)⟩
theorem MFr.trans {a b c : St} (h1 : MFr a b) (h2 : MFr b c) : MFr a c := ⟨fun j x y => (h2.1 j x y).trans (h1.1 j x y), fun k x => (h2.2 k x).trans (h1.2 k x)⟩
theorem CF.rfl' {c : St} : CF c c := ⟨rfl, fun _ _ _ _ _ _ => rfl⟩
theorem MFr.rfl' {c : St} : MFr c c := ⟨fun _ _ _ => rfl, fun _ _ => rfl⟩
theorem CF.up {c c' : St} (h : CF c c') {j k : Nat} {x : Int32} (hj : (j = 1 ∧ k ≠ 0) ∨ j = 7 ∨ j = 8 ∨ j = 9 ∨ j = 10) : CF c (up c' j k x) :=
  h.trans ⟨by rw [up_at, if_neg (by omega)], fun i _ _ _ _ _ => by rw [up_ne (by omega)]⟩
theorem MFr.up {c c' : St} (h : MFr c c') {j k : Nat} {x : Int32} (hj : (j = 0 ∧ 16 ≤ k ∧ k ≤ 28) ∨ (6 ≤ j ∧ j ≤ 11)) : MFr c (up c' j k x) :=
  h.trans ⟨fun i _ _ => by rw [up_ne (by omega)], fun i _ => by rw [up_at, if_neg (by omega)]⟩
theorem FE.cf {c c' : St} (h : FE c c') : CF c c' := ⟨h.1 0 (by decide) (by decide) (by decide) (by decide), h.2⟩
theorem VT.fr {c m c' m' : St} {n : Nat} (h : VT c m n) (h1 : CF c c') (h2 : MFr m m') : VT c' m' n := h.congr h1.1 (h1.2 2 (by decide) (by decide) (by decide) (by decide) (by decide)) (h2.2 15 (by decide)) (h2.1 5 (by decide) (by decide))
theorem J_into (lo hi : Int32) {c m : St} {n a a1 L1 k : Nat} (hT : VT c m n) (hA : VA c m n a) (h6 : 6 ≤ a1 ∧ a1 ≤ 11) (hk : k < L1) (hL : L1 < 2 ^ 31) : ∃ (r : Int32) (c' : St) (q : Int32) (m' : St),
    (∀ Post : Int32 → St → Prop, Post r c' → w_X6_readNumber lo hi c Post) ∧ (∀ Post : Int32 → St → Prop, Post q m' → w_X9_into a1 L1 (nI k) lo hi m Post) ∧
    ((q = 0 ∧ ∃ v e : Nat, r = nI v ∧ v ≤ 999 ∧ lo ≤ nI v ∧ nI v ≤ hi ∧ e ≤ n ∧ a < e ∧ c' = up c 1 3 (nI e) ∧ m' 0 17 = nI e ∧ m' a1 = upd (m a1) k (nI v) ∧ (∀ j, j ≠ 0 → j ≠ a1 → m' j = m j) ∧ (∀ k, k < 16 ∨ 19 < k → m' 0 k = m 0 k) ∧ m' 0 16 = m 0 16) ∨
     ((q = 1 ∨ q = 2) ∧ ¬ q ≤ 0 ∧ ¬ c' 1 1 = 0 ∧ c' 1 1 = q ∧ c' 1 2 = m' 0 16 ∧ CF c c' ∧ MFr m m')) := by
  obtain ⟨r, c', q, m', h1, h2, h3, h4, h5⟩ := J_num lo hi hT hA
  refine ⟨r, c', q, up m' a1 k (m' 0 18), h1, fun Post hP => h2 _ ⟨vp_in_nI hk hL, ?_⟩, ?_⟩
  · rw [nI_clamp (by omega)]
    rintro _ rfl
    exact hP
  · rcases h5 with ⟨q0, v, e, e1, e2, e3, e4, e5, e6, e7, e8, e9, e10⟩ | ⟨q0, e1, e2, e3, e4⟩
    · refine Or.inl ⟨q0, v, e, e1, e2, e3, e4, e5, e6, e7, by rw [up_at, if_neg (by omega)]; exact e8, by rw [up_eq, e9, h3 a1 (by omega)], fun j j0 j1 => by rw [up_ne j1]; exact h3 j j0, fun k hk => by rw [up_at, if_neg (by omega)]; exact h4 k hk, by rw [up_at, if_neg (by omega)]; exact e10⟩
    · have : ¬ q ≤ 0 := by rcases q0 with z | z <;> rw [z] <;> decide
      refine Or.inr ⟨q0, this, fun z => this (by rw [← e1, z]; exact Int32.le_refl 0), e1, by rw [e2, up_at, if_neg (by omega)], ⟨e3, fun j j1 _ _ _ _ => e4 j j1⟩, ⟨fun j j0 j1 => by rw [up_ne (by omega)]; exact h3 j j0, fun k hk => by rw [up_at, if_neg (by omega)]; exact h4 k (by omega)⟩⟩
