/-! ===== pure: tails by a rule, the best rule, who nodded ===== -/
def tlF (P : PP) (h f : Int32) (nd : Nat → Bool) : Nat → Nat → Int32 → (Nat → Int32) → Int32 × (Nat → Int32)
  | 0, _, t, ν => (t, ν)
  | j + 1, k, t, ν => if ν 5 = 0 then (if nd k = true then tlF P h f nd j (k + 1) t (passF P ν) else tlF P h f nd j (k + 1) (t + rulB P h f ν) (rulF P h f ν)) else (t, ν)
def tlV (ν : Nat → Int32) : Int32 := if ν 5 = 0 then tailF ν else 9999
def frN (t : Int32) : Nat → Int32 := fun k => if k = 0 then t else 0
theorem NE_tl {P : PP} {h f : Int32} {nd : Nat → Bool} : ∀ (j k : Nat) (t : Int32) {a b : Nat → Int32}, NE a b → (tlF P h f nd j k t a).1 = (tlF P h f nd j k t b).1 ∧ NE (tlF P h f nd j k t a).2 (tlF P h f nd j k t b).2
  | 0, _, _, _, _, q => ⟨rfl, q⟩
  | j + 1, k, t, a, b, q => by
    unfold tlF
    rw [q.1 5 (by decide), NE_rulB q]
    split
    · split
      · exact NE_tl j (k + 1) t (NE_passF q)
      · exact NE_tl j (k + 1) _ (NE_rulF q)
    · exact ⟨rfl, q⟩
theorem NE_tlV {a b : Nat → Int32} (q : NE a b) : tlV a = tlV b := by
  unfold tlV; rw [q.1 5 (by decide), NE_tailF q]
theorem C_tl {h f fr ah : Int32} {Post : Int32 → St → Prop} {N : Nat} {nd : Nat → Bool} (hN : N < 2 ^ 31) (hnd : ∀ k, k < N → (nd k = true ↔ ¬ nI k < fr ∧ ¬ ah ≤ nI k)) :
    ∀ (j fuel k : Nat) (c : St) (a : Nat), k + j = N → j < fuel → c 13 0 = nI a → a + j < 2 ^ 31 → wlOK (c 3 4) → prOK (c 3 7) → (∀ t ν, (t, ν) = tlF (ppC c) h f nd j k (c 12 5) (pc_ (c 13)) → ∀ g, Post (tlV ν) (upc (up c 12 5 t) 13 g)) → w_X7_tailWithNod_L12 Post fuel h f (nI N) fr ah (nI k) c := by
  intro j
  have fin : ∀ (c : St), (∀ g, Post (tlV (pc_ (c 13))) (upc c 13 g)) → w_X7_tailWithNod_J88 Post c := by
    intro c hP
    have := hP (c 13)
    rw [upc_self] at this
    unfold tlV at this
    refine ⟨fun q => C_tailLength ?_, fun q => ?_⟩
    · rw [if_pos (show pc_ (c 13) 5 = 0 from q)] at this; exact this
    · rw [if_neg (show ¬ pc_ (c 13) 5 = 0 from q)] at this; exact this
  induction j with
  | zero =>
    intro fuel k c a h1 h2 h3 h4 h5 hp h6
    obtain ⟨fl, rfl⟩ : ∃ z, fuel = z + 1 := ⟨fuel - 1, by omega⟩
    refine ⟨fun _ => fin c (fun g => ?_), fun q => absurd (nI_le (by omega) (by omega)) q⟩
    have := h6 _ _ rfl g
    rw [up_same] at this
    exact this
  | succ j ih =>
    intro fuel k c a h1 h2 h3 h4 h5 hp h6
    obtain ⟨fl, rfl⟩ : ∃ z, fuel = z + 1 := ⟨fuel - 1, by omega⟩
    have e5 : pc_ (c 13) 5 = c 13 3 := rfl
    refine ⟨fun q => absurd q (nI_ge (by omega) (by omega)), fun _ => ⟨fun q => fin c (fun g => ?_), fun q => ?_⟩⟩
    · have := h6 (c 12 5) (pc_ (c 13)) (by unfold tlF; rw [e5, if_neg q]) g
      rw [up_same] at this
      exact this
    · unfold tlF at h6
      rw [e5, if_pos q] at h6
      have rul : ¬ nd k = true → w_X7_tailWithNod_J56 (w_X7_tailWithNod_L12 Post fl) Post h f (nI N) fr ah (nI k) c := by
        intro hk
        rw [if_neg hk] at h6
        refine C_passByRule (by decide) (by decide) h5 hp h3 (by omega) ?_
        have J : ∀ (c2 : St), c2 = upc (up c 12 5 (c 12 5 + rulB (ppC c) h f (pc_ (c 13)))) 13 (pc_ (rulF (ppC c) h f (pc_ (c 13)))) → w_X7_tailWithNod_J82 (w_X7_tailWithNod_L12 Post fl) Post h f (nI N) fr ah (nI k) c2 := by
          rintro c2 hc2 _ rfl
          rw [nI_1]
          have g13 : c2 13 = pc_ (rulF (ppC c) h f (pc_ (c 13))) := by rw [hc2, upc_same]
          have g3 : c2 3 = c 3 := by rw [hc2, upc_at, if_neg (by decide), up_ne (by decide)]
          have g4 : c2 4 = c 4 := by rw [hc2, upc_at, if_neg (by decide), up_ne (by decide)]
          have g12 : c2 12 5 = c 12 5 + rulB (ppC c) h f (pc_ (c 13)) := by rw [hc2, upc_at, if_neg (by decide), up_at, if_pos ⟨rfl, rfl⟩]
          refine ih fl (k + 1) c2 (a + 1) (by omega) (by omega) ?_ (by omega) (by rw [g3]; exact h5) (by rw [g3]; exact hp) ?_
          · rw [g13, show ∀ z : Nat → Int32, pc_ z 0 = z 0 from fun _ => rfl, rulF_0, show pc_ (c 13) 0 = c 13 0 from rfl, h3, nI_1]
          · intro t ν htν g
            rw [ppC_of g3 g4, g12, g13, pc_pc] at htν
            have := h6 t ν htν g
            rw [hc2, show upc (up (upc (up c 12 5 (c 12 5 + rulB (ppC c) h f (pc_ (c 13)))) 13 (pc_ (rulF (ppC c) h f (pc_ (c 13))))) 12 5 t) 13 g = upc (up c 12 5 t) 13 g from by
              funext x y
              simp only [up_at, upc_at]
              by_cases x4 : x = 13
              · subst x4; simp
              · by_cases x0 : x = 12
                · subst x0; by_cases y5 : y = 5 <;> simp [y5, up_at, upc_at]
                · simp [x4, x0, up_at, upc_at]]
            exact this
        rcases rulB_01 (ppC c) h f (pc_ (c 13)) with z | z
        · rw [z] at J ⊢
          refine ⟨fun _ => J _ ?_, fun y => absurd rfl y⟩
          rw [Int32.add_zero, up_same]
        · rw [z] at J ⊢
          refine ⟨fun y => absurd y (by decide), fun _ => ?_⟩
          rintro _ rfl
          refine J _ ?_
          rw [upc_at, if_neg (by decide)]
          exact (upc_comm (i := 13) (j := 12) (by decide))
      by_cases hk : nd k = true
      · obtain ⟨k1, k2⟩ := (hnd k (by omega)).mp hk
        refine ⟨fun y => absurd y k1, fun _ => ⟨fun y => absurd y k2, fun _ => C_passOne (by decide) (by decide) h5 h3 (by omega) ?_⟩⟩
        rintro _ rfl
        rw [if_pos hk] at h6
        rw [nI_1]
        refine ih fl (k + 1) _ (a + 1) (by omega) (by omega) ?_ (by omega) (by rw [upc_at, if_neg (by decide)]; exact h5) (by rw [upc_at, if_neg (by decide)]; exact hp) ?_
        · rw [upc_same, show ∀ z : Nat → Int32, pc_ z 0 = z 0 from fun _ => rfl, passF_0, show pc_ (c 13) 0 = c 13 0 from rfl, h3, nI_1]
        · intro t ν htν g
          rw [ppC_upc (by decide) (by decide), upc_at, if_neg (by decide), upc_same, pc_pc] at htν
          have := h6 t ν htν g
          rw [up_def, upc_at, if_neg (by decide), upc_comm (i := 13) (j := 12) (by decide), upc_upc]
          exact this
      · refine ⟨fun _ => rul hk, fun y => ⟨fun _ => rul hk, fun y2 => absurd ((hnd k (by omega)).mpr ⟨y, y2⟩) hk⟩⟩
theorem M_tl {h f v4 v5 : Int32} {Post : Int32 → St → Prop} {N : Nat} {nd : Nat → Bool} (hN : N < 2 ^ 31) (hnd : ∀ k, k < N → (nd k = true ↔ v4 ≤ nI k ∧ nI k ≤ (v4 + v5) - (1 : Int32))) :
    ∀ (j fuel k : Nat) (m : St) (a : Nat), k + j = N → j < fuel → m 4 0 = nI a → a + j < 2 ^ 31 → wlOK (m 0 4) → prOK (m 0 8) → (m 4 5 = 0 ∨ m 4 5 = 1) → (∀ t ν, (t, ν) = tlF (ppM m) h f nd j k (m 0 34) (m 4) → ∀ g, (∀ q, q < 12 → g q = m 13 q) → Post (tlV ν) (upc (up m 0 34 t) 4 g)) → w_X9_tailBy_L12 Post fuel h f (nI N) v4 v5 (nI k) m := by
  intro j
  have fin : ∀ (m : St), (m 4 5 = 0 ∨ m 4 5 = 1) → (∀ g, (∀ q, q < 12 → g q = m 13 q) → Post (tlV (m 4)) (upc m 4 g)) → w_X9_tailBy_J83 Post m := by
    intro m hb hP
    unfold tlV at hP
    refine ⟨fun q => M_tailNow (M_putBack (fun g hg => ?_)), fun q => M_putBack (fun g hg => ?_)⟩
    · have e : m 4 5 = 0 := by
        rcases hb with z | z
        · exact z
        · exact absurd z q
      have := hP g hg
      rw [if_pos e] at this
      exact this
    · have := hP g hg
      rw [if_neg (by rw [q]; decide)] at this
      exact this
  induction j with
  | zero =>
    intro fuel k m a h1 h2 h3 h4 h5 hp hb h6
    obtain ⟨fl, rfl⟩ : ∃ z, fuel = z + 1 := ⟨fuel - 1, by omega⟩
    refine ⟨fun _ => fin m hb (fun g hg => ?_), fun q => absurd (nI_le (by omega) (by omega)) q⟩
    have := h6 _ _ rfl g hg
    rw [up_same] at this
    exact this
  | succ j ih =>
    intro fuel k m a h1 h2 h3 h4 h5 hp hb h6
    obtain ⟨fl, rfl⟩ : ∃ z, fuel = z + 1 := ⟨fuel - 1, by omega⟩
    refine ⟨fun q => absurd q (nI_ge (by omega) (by omega)), fun _ => ⟨fun q => fin m hb (fun g hg => ?_), fun q => ?_⟩⟩
    · have := h6 (m 0 34) (m 4) (by unfold tlF; rw [if_neg q]) g hg
      rw [up_same] at this
      exact this
    · unfold tlF at h6
      rw [if_pos q] at h6
      refine (inM _ _ _ _ _).mpr ?_
      by_cases hk : nd k = true
      · rw [if_pos ((hnd k (by omega)).mp hk)]
        refine ⟨fun y => absurd y (by decide), fun _ => M_pass h5 h3 (by omega) ?_⟩
        rintro _ rfl
        rw [if_pos hk] at h6
        rw [nI_1]
        refine ih fl (k + 1) _ (a + 1) (by omega) (by omega) ?_ (by omega) (by rw [upc_at, if_neg (by decide)]; exact h5) (by rw [upc_at, if_neg (by decide)]; exact hp) (by rw [upc_same, passF_5]; exact movF_5 _ _) ?_
        · rw [upc_same, passF_0, h3, nI_1]
        · intro t ν htν g hg
          rw [ppM_upc4, upc_at, if_neg (by decide), upc_same] at htν
          rw [upc_at, if_neg (by decide)] at hg
          have := h6 t ν htν g hg
          rw [up_def, upc_at, if_neg (by decide), upc_comm (i := 4) (j := 0) (by decide), upc_upc]
          exact this
      · rw [if_neg (fun y => hk ((hnd k (by omega)).mpr y))]
        rw [if_neg hk] at h6
        refine ⟨fun _ => M_ruled h5 hp h3 (by omega) ?_, fun y => absurd rfl y⟩
        have J : ∀ s : Int32, s = rulB (ppM m) h f (m 4) → w_X9_tailBy_J73 (w_X9_tailBy_L12 Post fl) Post h f (nI N) v4 v5 (nI k) s (m 0 34) (upc m 4 (rulF (ppM m) h f (m 4))) := by
          intro s hs
          rintro σ15 hσ _ rfl
          rw [nI_1]
          have g4 : σ15 4 = rulF (ppM m) h f (m 4) := by rw [hσ, up_ne (by decide), upc_same]
          have g1 : σ15 1 = m 1 := by rw [hσ, up_ne (by decide), upc_at, if_neg (by decide)]
          have g13 : σ15 13 = m 13 := by rw [hσ, up_ne (by decide), upc_at, if_neg (by decide)]
          have g0 : ∀ z, z ≠ 34 → σ15 0 z = m 0 z := fun z hz => by rw [hσ, up_at, if_neg (fun y => hz y.2), upc_at, if_neg (by decide)]
          have g34 : σ15 0 34 = m 0 34 + rulB (ppM m) h f (m 4) := by rw [hσ, up_at, if_pos ⟨rfl, rfl⟩, hs]
          refine ih fl (k + 1) σ15 (a + 1) (by omega) (by omega) ?_ (by omega) (by rw [g0 4 (by decide)]; exact h5) (by rw [g0 8 (by decide)]; exact hp) (by rw [g4]; unfold rulF; rw [passF_5]; exact movF_5 _ _) ?_
          · rw [g4, rulF_0, h3, nI_1]
          · intro t ν htν g hg
            rw [ppM_of g1 (fun z hz => g0 z (by omega)), g34, g4] at htν
            rw [g13] at hg
            have := h6 t ν htν g hg
            rw [hσ, show upc (up (up (upc m 4 (rulF (ppM m) h f (m 4))) 0 34 (m 0 34 + s)) 0 34 t) 4 g = upc (up m 0 34 t) 4 g from by
              funext x y
              simp only [up_at, upc_at]
              by_cases x4 : x = 4
              · subst x4; simp
              · by_cases x0 : x = 0
                · subst x0; by_cases y5 : y = 34 <;> simp [y5, up_at, upc_at]
                · simp [x4, x0, up_at, upc_at]]
            exact this
        rcases rulB_01 (ppM m) h f (m 4) with z | z
        · exact ⟨fun _ => J 0 z.symm, fun y => absurd z y⟩
        · exact ⟨fun y => absurd (z.symm.trans y) (by decide), fun _ => J 1 z.symm⟩
theorem NE_fresh2 {f : Nat → Int32} {t : Int32} (h0 : f 0 = t) (hf : ∀ k, 1 ≤ k → k < 8 → f k = 0) : NE (pc_ f) (frN t) := NE_fresh (g := frN t) (by rw [h0]; rfl) hf (fun k h1 _ => by simp [frN]; omega)
theorem NE_fresh3 {g : Nat → Int32} {t : Int32} (h0 : g 0 = t) (hg : ∀ k, 1 ≤ k → k < 12 → g k = 0) : NE g (frN t) := NE.of12 (fun k hk => by
  by_cases e : k = 0
  · subst e; rw [h0]; rfl
  · rw [hg k (by omega) hk]; simp [frN, e])
theorem C_tailBy {h f fr ah : Int32} {Post : Int32 → St → Prop} {N a : Nat} {nd : Nat → Bool} {c : St} (hN : N < 1100) (hnd : ∀ k, k < N → (nd k = true ↔ ¬ nI k < fr ∧ ¬ ah ≤ nI k)) (ha : c 11 0 = nI a) (hb : a + N < 2 ^ 31) (hw : wlOK (c 3 4)) (hp : prOK (c 3 7))
    (hP : ∀ g, Post (tlV (tlF (ppC c) h f nd N 0 0 (frN (nI a))).2) (upc (up c 12 5 (tlF (ppC c) h f nd N 0 0 (frN (nI a))).1) 13 g)) : w_X7_tailWithNod h f (nI N) fr ah c Post := by
  refine C_takeFresh (fun f2 hf0 hf => ?_)
  rintro _ rfl _ rfl
  rw [upc_at, if_neg (by decide), up_upc]
  have hne : NE (pc_ (upd f2 0 (c 11 0))) (frN (nI a)) := NE_fresh2 (by simp [upd]; exact ha) (fun k k1 k2 => by rw [upd_at, if_neg (by omega)]; exact hf k k1 k2)
  refine C_tl (by omega) hnd N FU 0 _ a (by omega) (by show N < 1100; exact hN) (by rw [up_ne (by decide), upc_same]; simp [upd]; exact ha) hb (by rw [up_ne (by decide), upc_at, if_neg (by decide)]; exact hw) (by rw [up_ne (by decide), upc_at, if_neg (by decide)]; exact hp) (fun t ν htν g => ?_)
  have e13 : up (upc c 13 (upd f2 0 (c 11 0))) 12 5 0 13 = upd f2 0 (c 11 0) := by rw [up_ne (by decide), upc_same]
  rw [ppC_of (c := c) (by rw [up_ne (by decide), upc_at, if_neg (by decide)]) (by rw [up_ne (by decide), upc_at, if_neg (by decide)]), e13, show up (upc c 13 (upd f2 0 (c 11 0))) 12 5 0 12 5 = 0 by simp [up_at]] at htν
  have hq := NE_tl (P := ppC c) (h := h) (f := f) (nd := nd) N 0 0 hne
  rw [← htν] at hq
  rw [NE_tlV hq.2, show t = (tlF (ppC c) h f nd N 0 0 (frN (nI a))).1 from hq.1]
  rw [show ∀ z w, upc (up (up (upc c 13 w) 12 5 0) 12 5 z) 13 g = upc (up c 12 5 z) 13 g from fun z w => by
    funext x y
    simp only [up_at, upc_at]
    by_cases x4 : x = 13
    · subst x4; simp
    · by_cases x0 : x = 12
      · subst x0; by_cases y5 : y = 5 <;> simp [y5, up_at, upc_at]
      · simp [x4, x0, up_at, upc_at]]
  exact hP g
theorem M_tailBy {h f v4 v5 : Int32} {Post : Int32 → St → Prop} {N a : Nat} {nd : Nat → Bool} {m : St} (hN : N < 1100) (hnd : ∀ k, k < N → (nd k = true ↔ v4 ≤ nI k ∧ nI k ≤ (v4 + v5) - (1 : Int32))) (ha : m 4 0 = nI a) (hb : a + N < 2 ^ 31) (hw : wlOK (m 0 4)) (hp : prOK (m 0 8))
    (hP : ∀ g, (∀ q, q < 12 → g q = m 13 q) → Post (tlV (tlF (ppM m) h f nd N 0 0 (frN (nI a))).2) (upc (up m 0 34 (tlF (ppM m) h f nd N 0 0 (frN (nI a))).1) 4 g)) : w_X9_tailBy h f (nI N) v4 v5 m Post := by
  refine M_newPlate (fun f2 hf0 hf => ?_)
  rintro _ rfl
  have hne : NE f2 (frN (nI a)) := NE_fresh3 (by rw [hf0]; exact ha) hf
  have e4 : up (upc m 4 f2) 0 34 0 4 = f2 := by rw [up_ne (by decide), upc_same]
  refine M_tl (by omega) hnd N FU 0 _ a (by omega) (by show N < 1100; exact hN) (by rw [e4, hf0]; exact ha) hb (by rw [up_at, if_neg (by decide), upc_at, if_neg (by decide)]; exact hw) (by rw [up_at, if_neg (by decide), upc_at, if_neg (by decide)]; exact hp) (by rw [e4]; exact Or.inl (hf 5 (by decide) (by decide))) (fun t ν htν g hg => ?_)
  rw [ppM_of (m := m) (by rw [up_ne (by decide), upc_at, if_neg (by decide)]) (fun k hk => by rw [up_at, if_neg (by omega), upc_at, if_neg (by decide)]), e4, show up (upc m 4 f2) 0 34 0 0 34 = 0 by simp [up_at]] at htν
  rw [up_ne (by decide), upc_at, if_neg (by decide)] at hg
  have hq := NE_tl (P := ppM m) (h := h) (f := f) (nd := nd) N 0 0 hne
  rw [← htν] at hq
  rw [NE_tlV hq.2, show t = (tlF (ppM m) h f nd N 0 0 (frN (nI a))).1 from hq.1]
  rw [show ∀ z w, upc (up (up (upc m 4 w) 0 34 0) 0 34 z) 4 g = upc (up m 0 34 z) 4 g from fun z w => by
    funext x y
    simp only [up_at, upc_at]
    by_cases x4 : x = 4
    · subst x4; simp
    · by_cases x0 : x = 0
      · subst x0; by_cases y5 : y = 34 <;> simp [y5, up_at, upc_at]
      · simp [x4, x0, up_at, upc_at]]
  exact hP g hg
