/-! ===== pure: rule, drift, undo, images, told, turns, nods ===== -/
def rlF (P : PP) (h f : Int32) : Nat → Int32 → (Nat → Int32) → Int32 × (Nat → Int32)
  | 0, t, ν => (t, ν)
  | n + 1, t, ν => if ν 5 = 0 then rlF P h f n (t + rulB P h f ν) (rulF P h f ν) else (t, ν)
theorem rulB_01 (P : PP) (h f : Int32) (ν : Nat → Int32) : rulB P h f ν = 0 ∨ rulB P h f ν = 1 := by
  unfold rulB; split
  · exact Or.inl rfl
  · exact Or.inr rfl
theorem rulF_0 (P : PP) (h f : Int32) (ν : Nat → Int32) : rulF P h f ν 0 = ν 0 + 1 := by
  unfold rulF; rw [passF_0]; simp [upd]
theorem NE_rlF {P : PP} {h f : Int32} : ∀ (n : Nat) (t : Int32) {a b : Nat → Int32}, NE a b → (rlF P h f n t a).1 = (rlF P h f n t b).1 ∧ NE (rlF P h f n t a).2 (rlF P h f n t b).2
  | 0, _, _, _, q => ⟨rfl, q⟩
  | n + 1, t, a, b, q => by
    unfold rlF
    rw [q.1 5 (by decide), NE_rulB q]
    split
    · exact NE_rlF n _ (NE_rulF q)
    · exact ⟨rfl, q⟩
theorem OKb.rul {B : Nat} {μ : Nat → Int32} (P : PP) (h f : Int32) (q : OKb B μ) : OKb (B + 1) (rulF P h f μ) :=
  OKb.pass P (q.eq4 (by simp [upd]) (by simp [upd]) (by simp [upd]) (by simp [upd]))
theorem OKb.rl {P : PP} {h f : Int32} : ∀ (n : Nat) (t : Int32) {B : Nat} {μ : Nat → Int32}, OKb B μ → OKb (B + n) (rlF P h f n t μ).2
  | 0, _, _, _, q => q
  | n + 1, t, B, μ, q => by
    unfold rlF
    split
    · have := OKb.rl (P := P) (h := h) (f := f) n (t + rulB P h f μ) (q.rul P h f)
      rw [show B + (n + 1) = B + 1 + n by omega]
      exact this
    · exact q.mono (by omega)
theorem M_rl {h f : Int32} {Post : Int32 → St → Prop} {N : Nat} (hN : N < 2 ^ 31) :
    ∀ (j fuel : Nat) (t : Int32) (σ : St) (a : Nat), j ≤ N → j < fuel → σ 4 0 = nI a → a + j < 2 ^ 31 → wlOK (σ 0 4) → prOK (σ 0 8) → Post (rlF (ppM σ) h f j t (σ 4)).1 (upc σ 4 (rlF (ppM σ) h f j t (σ 4)).2) → w_X9_rule_L52 Post fuel h f (nI N) t (nI (N - j)) σ := by
  intro j
  induction j with
  | zero =>
    intro fuel t σ a h1 h2 h3 h4 h5 hp h6
    obtain ⟨fl, rfl⟩ : ∃ z, fuel = z + 1 := ⟨fuel - 1, by omega⟩
    rw [show (rlF (ppM σ) h f 0 t (σ 4)).2 = σ 4 from rfl, upc_self] at h6
    exact ⟨fun _ => h6, fun c => absurd (nI_le (Nat.le_refl _) hN) c⟩
  | succ j ih =>
    intro fuel t σ a h1 h2 h3 h4 h5 hp h6
    obtain ⟨fl, rfl⟩ : ∃ z, fuel = z + 1 := ⟨fuel - 1, by omega⟩
    refine ⟨fun c => absurd c (nI_ge (by omega) hN), fun _ => ⟨fun c => ?_, fun c => ?_⟩⟩
    · unfold rlF at h6
      rw [if_neg c, upc_self] at h6
      exact h6
    · refine M_ruled h5 hp h3 (by omega) ?_
      unfold rlF at h6
      rw [if_pos c] at h6
      have J : ∀ s : Int32, s = rulB (ppM σ) h f (σ 4) → w_X9_rule_J83 (w_X9_rule_L52 Post fl) Post h f (nI N) (nI (N - (j + 1))) s t (upc σ 4 (rulF (ppM σ) h f (σ 4))) := by
        rintro s hs _ rfl _ rfl
        rw [sub9 h1, hs]
        refine ih fl _ _ (a + 1) (by omega) (by omega) ?_ (by omega) ?_ ?_ ?_
        · rw [upc_same, rulF_0, h3, nI_1]
        · rw [upc_at]; exact h5
        · rw [upc_at]; exact hp
        · rw [ppM_upc4, upc_same, upc_upc]; exact h6
      rcases rulB_01 (ppM σ) h f (σ 4) with q | q
      · exact ⟨fun _ => J 0 q.symm, fun z => absurd q z⟩
      · exact ⟨fun z => absurd (q.symm.trans z) (by decide), fun _ => J 1 q.symm⟩
theorem C_rl {h f : Int32} {Post : Int32 → St → Prop} {N : Nat} (hN : N < 2 ^ 31) :
    ∀ (j fuel : Nat) (t : Int32) (σ : St) (a : Nat), j ≤ N → j < fuel → σ 11 0 = nI a → a + j < 2 ^ 31 → wlOK (σ 3 4) → prOK (σ 3 7) → Post (rlF (ppC σ) h f j t (pc_ (σ 11))).1 (upc σ 11 (pc_ (rlF (ppC σ) h f j t (pc_ (σ 11))).2)) → w_X8_rule_L43 Post fuel h f (nI N) t (nI (N - j)) σ := by
  intro j
  induction j with
  | zero =>
    intro fuel t σ a h1 h2 h3 h4 h5 hp h6
    obtain ⟨fl, rfl⟩ : ∃ z, fuel = z + 1 := ⟨fuel - 1, by omega⟩
    rw [show (rlF (ppC σ) h f 0 t (pc_ (σ 11))).2 = pc_ (σ 11) from rfl, pc_pc, upc_self] at h6
    exact ⟨fun _ => h6, fun c => absurd (nI_le (Nat.le_refl _) hN) c⟩
  | succ j ih =>
    intro fuel t σ a h1 h2 h3 h4 h5 hp h6
    obtain ⟨fl, rfl⟩ : ∃ z, fuel = z + 1 := ⟨fuel - 1, by omega⟩
    have e5 : pc_ (σ 11) 5 = σ 11 3 := rfl
    refine ⟨fun c => absurd c (nI_ge (by omega) hN), fun _ => ⟨fun c => ?_, fun c => ?_⟩⟩
    · unfold rlF at h6
      rw [e5, if_neg c, pc_pc, upc_self] at h6
      exact h6
    · refine C_passByRule (by decide) (by decide) h5 hp h3 (by omega) ?_
      unfold rlF at h6
      rw [e5, if_pos c] at h6
      have J : w_X8_rule_J78 (w_X8_rule_L43 Post fl) Post h f (nI N) (t + rulB (ppC σ) h f (pc_ (σ 11))) (nI (N - (j + 1))) (upc σ 11 (pc_ (rulF (ppC σ) h f (pc_ (σ 11))))) := by
        rintro _ rfl
        rw [sub9 h1]
        refine ih fl _ _ (a + 1) (by omega) (by omega) ?_ (by omega) ?_ ?_ ?_
        · rw [upc_same, show pc_ (rulF (ppC σ) h f (pc_ (σ 11))) 0 = rulF (ppC σ) h f (pc_ (σ 11)) 0 from rfl, rulF_0, show pc_ (σ 11) 0 = σ 11 0 from rfl, h3, nI_1]
        · rw [upc_at, if_neg (by decide)]; exact h5
        · rw [upc_at, if_neg (by decide)]; exact hp
        · rw [ppC_upc (by decide) (by decide), upc_same, upc_upc, pc_pc]; exact h6
      rcases rulB_01 (ppC σ) h f (pc_ (σ 11)) with q | q
      · rw [q] at J ⊢
        rw [Int32.add_zero] at J
        exact ⟨fun _ => J, fun z => absurd rfl z⟩
      · rw [q] at J ⊢
        refine ⟨fun z => absurd z (by decide), fun _ => ?_⟩
        rintro _ rfl
        exact J
theorem isRule_iff (p1 p2 : Int32) (σ : St) (K : Int32 → St → Prop) : w_X8_isRule p1 p2 σ K ↔ K (if ((0 : Int32) ≤ p1 ∧ p1 ≤ 99) ∧ ((0 : Int32) ≤ p2 ∧ p2 ≤ 20) then 1 else 0) σ := by
  unfold w_X8_isRule
  simp only [isW]
  by_cases h1 : (0 : Int32) ≤ p1 ∧ p1 ≤ 99
  · by_cases h2 : (0 : Int32) ≤ p2 ∧ p2 ≤ 20
    · simp only [if_pos h1, if_pos h2, if_pos (And.intro h1 h2), b0, b0', b1, b1', true_implies, not_true_eq_false, false_implies, not_false_eq_true, and_true, true_and]
    · simp only [if_pos h1, if_neg h2, if_neg (fun q : ((0 : Int32) ≤ p1 ∧ p1 ≤ 99) ∧ ((0 : Int32) ≤ p2 ∧ p2 ≤ 20) => h2 q.2), b0, b0', b1, b1', true_implies, not_true_eq_false, false_implies, not_false_eq_true, and_true, true_and]
  · simp only [if_neg h1, if_neg (fun q : ((0 : Int32) ≤ p1 ∧ p1 ≤ 99) ∧ ((0 : Int32) ≤ p2 ∧ p2 ≤ 20) => h1 q.1), b0, b0', b1, b1', true_implies, not_true_eq_false, false_implies, not_false_eq_true, and_true, true_and]
theorem P_rule {p1 p2 p3 : Int32} {c m : St} (h : R c m) : w_X8_rule p1 p2 p3 c (fun r c' => w_X9_rule p1 p2 p3 m (fun r' m' => r = r' ∧ R c' m')) := by
  unfold w_X8_rule w_X9_rule
  simp only [isRule_iff, in_0_99, in_0_20, refC, refM, h.mt, h.lost, h.mins]
  by_cases h1 : (0 : Int32) ≤ p1 ∧ p1 ≤ 99
  · by_cases h2 : (0 : Int32) ≤ p2 ∧ p2 ≤ 20
    · simp only [if_pos h1, if_pos h2, if_pos (And.intro h1 h2), b0, b0', b1, b1', true_implies, not_true_eq_false, false_implies, not_false_eq_true, and_true, true_and]
      by_cases hz : refV p3 (decide (¬ m 0 0 = 0 ∧ m 4 5 = 0)) (m 4 0) = 0
      · simp only [hz, b0, b0', b1, b1', true_implies, not_true_eq_false, false_implies, not_false_eq_true, and_true, true_and]
        obtain ⟨hp, -, ht⟩ := refV_0 hz
        obtain ⟨N, hN1, hN2, rfl⟩ := n99 hp
        have hok := ok9000 h.2.1.2 ht
        obtain ⟨a, l, q1, q2, -⟩ := id hok
        refine A_push h (fun c1 f1 H1 => ?_)
        have e11 : c1 11 = c 11 := f1 11 (by decide) (by decide)
        have ec : ppC c1 = ppM m := (ppC_of (f1 3 (by decide) (by decide)) (f1 4 (by decide) (by decide))).trans h.pp
        have := C_rl (h := p1) (f := p2) (N := N) (Post := fun r c' => w_X9_remember m (fun σ10 => w_X9_rule_L52 (fun r' m' => r = r' ∧ R c' m') FU p1 p2 (nI N) (0 : Int32) (0 : Int32) σ10)) (by omega) N FU 0 c1 a (Nat.le_refl _) (by show N < 1100; omega) (by rw [e11, h.mins]; exact q1) (by omega) (by rw [f1 3 (by decide) (by decide)]; exact h.wlC) (by rw [f1 3 (by decide) (by decide)]; exact h.prC) ?_
        · rw [Nat.sub_self] at this; exact this
        · refine A_rem h (fun m1 hm1 g1 g2 => ?_)
          have e4 : m1 4 = m 4 := g1 4 (by decide) (by decide)
          have em : ppM m1 = ppM m := ppM_of (g1 1 (by decide) (by decide)) (fun k hk => g2 k (by omega))
          have hne := NE_rlF (P := ppM m) (h := p1) (f := p2) N 0 h.2.1.1
          have := M_rl (h := p1) (f := p2) (N := N) (Post := fun r' m' => (rlF (ppC c1) p1 p2 N 0 (pc_ (c1 11))).1 = r' ∧ R (upc c1 11 (pc_ (rlF (ppC c1) p1 p2 N 0 (pc_ (c1 11))).2)) m') (by omega) N FU 0 m1 a (Nat.le_refl _) (by show N < 1100; omega) (by rw [e4]; exact q1) (by omega) (by rw [g2 4 (by decide)]; exact h.wlM) (by rw [g2 8 (by decide)]; exact h.prM) ?_
          · rw [Nat.sub_self] at this; exact this
          · rw [ec, em, e11, e4]
            refine ⟨hne.1, R.act2 h f1 H1 hm1 g1 g2 (fun j j1 _ => by rw [upc_at, if_neg j1]) (fun j _ j2 => by rw [upc_at, if_neg j2]) (fun k _ => by rw [upc_at, if_neg (by decide)]) ?_ ?_⟩
            · rw [upc_same, upc_same]
              exact ⟨by rw [pc_pc]; exact hne.2, (hok.rl N 0).mono (by omega)⟩
            · rw [upc_at, if_neg (by decide), upc_at, if_neg (by decide), f1 43 (by decide) (by decide), g2 13 (by decide)]
              exact h.2.2.2.2.2.2
      · simp only [bF hz]; first | exact ⟨trivial, h⟩ | exact h
    · simp only [if_pos h1, if_neg h2, if_neg (fun q : ((0 : Int32) ≤ p1 ∧ p1 ≤ 99) ∧ ((0 : Int32) ≤ p2 ∧ p2 ≤ 20) => h2 q.2), b0, b0', b1, b1', true_implies, not_true_eq_false, false_implies, not_false_eq_true, and_true, true_and]; exact h
  · simp only [if_neg h1, if_neg (fun q : ((0 : Int32) ≤ p1 ∧ p1 ≤ 99) ∧ ((0 : Int32) ≤ p2 ∧ p2 ≤ 20) => h1 q.1), b0, b0', b1, b1', true_implies, not_true_eq_false, false_implies, not_false_eq_true, and_true, true_and]; exact h
/-! by draws -/
def drS (s : Int32) : Int32 := ((((s.toInt64 * (1103515245 : Int64)) + (12345 : Int64)) - ((s.toInt64 * (1103515245 : Int64)) + (12345 : Int64)) / (2147483648 : Int64) * (2147483648 : Int64)).toInt32)
def drV (s : Int32) : Int32 := (s / (65536 : Int32)) - (s / (65536 : Int32)) / (5 : Int32) * (5 : Int32)
def dcF (s : Int32) (ν : Nat → Int32) : Nat → Int32 := upd (upd ν 1 (ν 1 + (drV (drS s) - 2))) 2 (ν 2 + (drV (drS (drS s)) - 2))
def dfF (P : PP) : Nat → Int32 → (Nat → Int32) → Int32 × (Nat → Int32)
  | 0, s, ν => (s, ν)
  | n + 1, s, ν => if ν 5 = 0 then dfF P n (drS (drS s)) (passF P (dcF s ν)) else (s, ν)
theorem NE_dc {s : Int32} {a b : Nat → Int32} (q : NE a b) : NE (dcF s a) (dcF s b) := by
  unfold dcF; rw [q.1 1 (by decide), q.1 2 (by decide)]
  exact (q.upd (by decide) _).upd (by decide) _
theorem NE_df {P : PP} : ∀ (n : Nat) (s : Int32) {a b : Nat → Int32}, NE a b → (dfF P n s a).1 = (dfF P n s b).1 ∧ NE (dfF P n s a).2 (dfF P n s b).2
  | 0, _, _, _, q => ⟨rfl, q⟩
  | n + 1, s, a, b, q => by
    unfold dfF
    rw [q.1 5 (by decide)]
    split
    · exact NE_df n _ (NE_passF (NE_dc q))
    · exact ⟨rfl, q⟩
theorem OKb.df {P : PP} : ∀ (n : Nat) (s : Int32) {B : Nat} {μ : Nat → Int32}, OKb B μ → OKb (B + n) (dfF P n s μ).2
  | 0, _, _, _, q => q
  | n + 1, s, B, μ, q => by
    unfold dfF
    split
    · have := OKb.df (P := P) n (drS (drS s)) (OKb.pass P (q.eq4 (μ' := dcF s μ) (by simp [dcF, upd]) (by simp [dcF, upd]) (by simp [dcF, upd]) (by simp [dcF, upd])))
      rw [show B + (n + 1) = B + 1 + n by omega]
      exact this
    · exact q.mono (by omega)
theorem M_draw {σ : St} {Post : Int32 → St → Prop} (h : Post (drV (drS (σ 0 13))) (up σ 0 13 (drS (σ 0 13)))) : w_X9_draw 5 σ Post := by
  rintro _ rfl
  refine ⟨by decide, ?_⟩
  have e : up σ 0 13 (drS (σ 0 13)) 0 13 = drS (σ 0 13) := by simp [up_at]
  show Post _ (up σ 0 13 (drS (σ 0 13)))
  rw [show (((σ 0 13).toInt64 * (1103515245 : Int64)) + (12345 : Int64) - (((σ 0 13).toInt64 * (1103515245 : Int64)) + (12345 : Int64)) / (2147483648 : Int64) * (2147483648 : Int64)).toInt32 = drS (σ 0 13) from rfl, e]
  exact h
theorem C_draw {σ : St} {Post : Int32 → St → Prop} (h : Post (drV (drS (σ 43 0))) (up σ 43 0 (drS (σ 43 0)))) : w_X0_drawOf 5 σ Post := by
  rintro _ rfl
  refine ⟨fun q => absurd q (by decide), fun _ => ⟨by decide, ?_⟩⟩
  have e : up σ 43 0 (drS (σ 43 0)) 43 0 = drS (σ 43 0) := by simp [up_at]
  show Post _ (up σ 43 0 (drS (σ 43 0)))
  rw [show (((σ 43 0).toInt64 * (1103515245 : Int64)) + (12345 : Int64) - (((σ 43 0).toInt64 * (1103515245 : Int64)) + (12345 : Int64)) / (2147483648 : Int64) * (2147483648 : Int64)).toInt32 = drS (σ 43 0) from rfl, e]
  exact h
theorem M_df {Post : Int32 → St → Prop} {N : Nat} (hN : N < 2 ^ 31) :
    ∀ (j fuel : Nat) (σ : St) (a : Nat), j ≤ N → j < fuel → σ 4 0 = nI a → a + j < 2 ^ 31 → wlOK (σ 0 4) → w_X9_drift_J74 Post (upc (up σ 0 13 (dfF (ppM σ) j (σ 0 13) (σ 4)).1) 4 (dfF (ppM σ) j (σ 0 13) (σ 4)).2) → w_X9_drift_L18 Post fuel (nI N) (nI (N - j)) σ := by
  intro j
  induction j with
  | zero =>
    intro fuel σ a h1 h2 h3 h4 h5 h6
    obtain ⟨fl, rfl⟩ : ∃ z, fuel = z + 1 := ⟨fuel - 1, by omega⟩
    rw [show dfF (ppM σ) 0 (σ 0 13) (σ 4) = (σ 0 13, σ 4) from rfl, up_same, upc_self] at h6
    exact ⟨fun _ => h6, fun c => absurd (nI_le (Nat.le_refl _) hN) c⟩
  | succ j ih =>
    intro fuel σ a h1 h2 h3 h4 h5 h6
    obtain ⟨fl, rfl⟩ : ∃ z, fuel = z + 1 := ⟨fuel - 1, by omega⟩
    refine ⟨fun c => absurd c (nI_ge (by omega) hN), fun _ => ⟨fun c => ?_, fun c => ?_⟩⟩
    · unfold dfF at h6
      rw [if_neg c, up_same, upc_self] at h6
      exact h6
    · unfold dfF at h6
      rw [if_pos c] at h6
      refine M_draw ?_
      rintro _ rfl
      refine M_draw ?_
      rintro _ rfl
      have eS : up (up σ 0 13 (drS (σ 0 13))) 4 1 (σ 4 1 + (drV (drS (σ 0 13)) - 2)) 0 13 = drS (σ 0 13) := by simp [up_at]
      have e2 : up (up σ 0 13 (drS (σ 0 13))) 4 1 (σ 4 1 + (drV (drS (σ 0 13)) - 2)) 4 2 = σ 4 2 := by simp [up_at]
      rw [eS, e2]
      have eT : up (up (up (up σ 0 13 (drS (σ 0 13))) 4 1 (σ 4 1 + (drV (drS (σ 0 13)) - 2))) 0 13 (drS (drS (σ 0 13)))) 4 2 (σ 4 2 + (drV (drS (drS (σ 0 13))) - 2)) = upc (up σ 0 13 (drS (drS (σ 0 13)))) 4 (dcF (σ 0 13) (σ 4)) := by
        funext x y
        simp only [up_at, upc_at, dcF, upd_at]
        by_cases x4 : x = 4
        · subst x4; simp [upd_at, up_at, upc_at]
        · by_cases x0 : x = 0
          · subst x0; by_cases y13 : y = 13 <;> simp [y13, up_at, upc_at]
          · simp [x4, x0, up_at, upc_at]
      rw [eT]
      have eP : ppM (upc (up σ 0 13 (drS (drS (σ 0 13)))) 4 (dcF (σ 0 13) (σ 4))) = ppM σ := by rw [ppM_upc4]; exact ppM_of (up_ne (by decide)) (fun k hk => by rw [up_at, if_neg (by omega)])
      refine M_pass (a := a) (by rw [upc_at, if_neg (by decide), up_at]; exact h5) (by rw [upc_same]; simp [dcF, upd, h3]) (by omega) ?_
      rintro _ rfl
      rw [sub9 h1, eP, upc_same, upc_upc]
      have eQ : ppM (upc (up σ 0 13 (drS (drS (σ 0 13)))) 4 (passF (ppM σ) (dcF (σ 0 13) (σ 4)))) = ppM σ := by rw [ppM_upc4]; exact ppM_of (up_ne (by decide)) (fun k hk => by rw [up_at, if_neg (by omega)])
      refine ih fl _ (a + 1) (by omega) (by omega) ?_ (by omega) ?_ ?_
      · rw [upc_same, passF_0]; simp [dcF, upd, h3, nI_1]
      · rw [upc_at, if_neg (by decide), up_at]; exact h5
      · rw [eQ, upc_same, show upc (up σ 0 13 (drS (drS (σ 0 13)))) 4 (passF (ppM σ) (dcF (σ 0 13) (σ 4))) 0 13 = drS (drS (σ 0 13)) by simp [upc_at, up_at]]
        rw [show ∀ (z : Int32) (g k : Nat → Int32), upc (up (upc (up σ 0 13 (drS (drS (σ 0 13)))) 4 g) 0 13 z) 4 k = upc (up σ 0 13 z) 4 k from fun z g k => by
          funext x y
          simp only [up_at, upc_at]
          by_cases x4 : x = 4
          · subst x4; simp [upd_at, up_at, upc_at]
          · by_cases x0 : x = 0
            · subst x0; by_cases y13 : y = 13 <;> simp [y13, up_at, upc_at]
            · simp [x4, x0, up_at, upc_at]]
        exact h6
theorem C_df {Post : Int32 → St → Prop} {N : Nat} (hN : N < 2 ^ 31) :
    ∀ (j fuel : Nat) (σ : St) (a : Nat), j ≤ N → j < fuel → σ 11 0 = nI a → a + j < 2 ^ 31 → wlOK (σ 3 4) → w_X8_drift_J101 Post (upc (up σ 43 0 (dfF (ppC σ) j (σ 43 0) (pc_ (σ 11))).1) 11 (pc_ (dfF (ppC σ) j (σ 43 0) (pc_ (σ 11))).2)) → w_X8_drift_L25 Post fuel (nI N) (nI (N - j)) σ := by
  intro j
  induction j with
  | zero =>
    intro fuel σ a h1 h2 h3 h4 h5 h6
    obtain ⟨fl, rfl⟩ : ∃ z, fuel = z + 1 := ⟨fuel - 1, by omega⟩
    rw [show dfF (ppC σ) 0 (σ 43 0) (pc_ (σ 11)) = (σ 43 0, pc_ (σ 11)) from rfl, up_same, pc_pc, upc_self] at h6
    exact ⟨fun _ => h6, fun c => absurd (nI_le (Nat.le_refl _) hN) c⟩
  | succ j ih =>
    intro fuel σ a h1 h2 h3 h4 h5 h6
    obtain ⟨fl, rfl⟩ : ∃ z, fuel = z + 1 := ⟨fuel - 1, by omega⟩
    have e5 : pc_ (σ 11) 5 = σ 11 3 := rfl
    refine ⟨fun c => absurd c (nI_ge (by omega) hN), fun _ => ⟨fun c => ?_, fun c => ?_⟩⟩
    · unfold dfF at h6
      rw [e5, if_neg c, up_same, pc_pc, upc_self] at h6
      exact h6
    · unfold dfF at h6
      rw [e5, if_pos c] at h6
      refine C_draw ?_
      rintro _ rfl
      refine C_draw ?_
      rintro _ rfl
      have eS : up (up σ 43 0 (drS (σ 43 0))) 11 1 (σ 11 1 + (drV (drS (σ 43 0)) - 2)) 43 0 = drS (σ 43 0) := by simp [up_at]
      have e2 : up (up σ 43 0 (drS (σ 43 0))) 11 1 (σ 11 1 + (drV (drS (σ 43 0)) - 2)) 11 2 = σ 11 2 := by simp [up_at]
      rw [eS, e2]
      have eT : up (up (up (up σ 43 0 (drS (σ 43 0))) 11 1 (σ 11 1 + (drV (drS (σ 43 0)) - 2))) 43 0 (drS (drS (σ 43 0)))) 11 2 (σ 11 2 + (drV (drS (drS (σ 43 0))) - 2)) = upc (up σ 43 0 (drS (drS (σ 43 0)))) 11 (pc_ (dcF (σ 43 0) (pc_ (σ 11)))) := by
        unfold dcF
        rw [pc_upd, pc_upd, pc_pc]
        funext x y
        simp only [up_at, upc_at, upd_at, pc_, pi_]
        by_cases x4 : x = 11
        · subst x4; simp [upd_at, up_at, upc_at]
        · by_cases x0 : x = 43
          · subst x0; by_cases y13 : y = 0 <;> simp [y13, up_at, upc_at]
          · simp [x4, x0, up_at, upc_at]
      rw [eT]
      have eP : ∀ (z : Int32) (g : Nat → Int32), ppC (upc (up σ 43 0 z) 11 g) = ppC σ := fun z g => by rw [ppC_upc (by decide) (by decide)]; exact ppC_of (up_ne (by decide)) (up_ne (by decide))
      refine C_passOne (a := a) (by decide) (by decide) (by rw [upc_at, if_neg (by decide), up_at]; exact h5) (by rw [upc_same]; simp [dcF, upd, pc_, pi_, h3]) (by omega) ?_
      rintro _ rfl
      rw [sub9 h1, eP, upc_same, upc_upc, pc_pc]
      refine ih fl _ (a + 1) (by omega) (by omega) ?_ (by omega) ?_ ?_
      · rw [upc_same, show ∀ g : Nat → Int32, pc_ g 0 = g 0 from fun _ => rfl, passF_0]; simp [dcF, upd, pc_, pi_, h3, nI_1]
      · rw [upc_at, if_neg (by decide), up_at]; exact h5
      · rw [eP, upc_same, pc_pc, show upc (up σ 43 0 (drS (drS (σ 43 0)))) 11 (pc_ (passF (ppC σ) (dcF (σ 43 0) (pc_ (σ 11))))) 43 0 = drS (drS (σ 43 0)) by simp [upc_at, up_at]]
        rw [show ∀ (z : Int32) (g k : Nat → Int32), upc (up (upc (up σ 43 0 (drS (drS (σ 43 0)))) 11 g) 43 0 z) 11 k = upc (up σ 43 0 z) 11 k from fun z g k => by
          funext x y
          simp only [up_at, upc_at]
          by_cases x4 : x = 11
          · subst x4; simp [upd_at, up_at, upc_at]
          · by_cases x0 : x = 43
            · subst x0; by_cases y13 : y = 0 <;> simp [y13, up_at, upc_at]
            · simp [x4, x0, up_at, upc_at]]
        exact h6
theorem P_drift {p : Int32} {c m : St} (h : R c m) : w_X8_drift p c (fun r c' => w_X9_drift p m (fun r' m' => r = r' ∧ R c' m')) := by
  unfold w_X8_drift w_X9_drift
  simp only [refC, refM, h.mt, h.lost, h.mins]
  by_cases hz : refV p (decide (¬ m 0 0 = 0 ∧ m 4 5 = 0)) (m 4 0) = 0
  · simp only [hz, b0, b0', b1, b1', true_implies, not_true_eq_false, false_implies, not_false_eq_true, and_true, true_and]
    obtain ⟨hp, -, ht⟩ := refV_0 hz
    obtain ⟨N, hN1, hN2, rfl⟩ := n99 hp
    have hok := ok9000 h.2.1.2 ht
    obtain ⟨a, l, q1, q2, -⟩ := id hok
    refine A_push h (fun c1 f1 H1 => ?_)
    have e11 : c1 11 = c 11 := f1 11 (by decide) (by decide)
    have e43 : c1 43 0 = m 0 13 := by rw [f1 43 (by decide) (by decide)]; exact h.2.2.2.2.2.2
    have ec : ppC c1 = ppM m := (ppC_of (f1 3 (by decide) (by decide)) (f1 4 (by decide) (by decide))).trans h.pp
    have := C_df (N := N) (Post := fun r c' => w_X9_remember m (fun σ4 => w_X9_drift_L18 (fun r' m' => r = r' ∧ R c' m') FU (nI N) (0 : Int32) σ4)) (by omega) N FU c1 a (Nat.le_refl _) (by show N < 1100; omega) (by rw [e11, h.mins]; exact q1) (by omega) (by rw [f1 3 (by decide) (by decide)]; exact h.wlC) ?_
    · rw [Nat.sub_self] at this; exact this
    · refine A_rem h (fun m1 hm1 g1 g2 => ?_)
      have e4 : m1 4 = m 4 := g1 4 (by decide) (by decide)
      have e13 : m1 0 13 = m 0 13 := g2 13 (by decide)
      have em : ppM m1 = ppM m := ppM_of (g1 1 (by decide) (by decide)) (fun k hk => g2 k (by omega))
      have hne := NE_df (P := ppM m) N (m 0 13) h.2.1.1
      rw [ec, e43, e11]
      have := M_df (N := N) (Post := fun r' m' => (upc (up c1 43 0 (dfF (ppM m) N (m 0 13) (pc_ (c 11))).1) 11 (pc_ (dfF (ppM m) N (m 0 13) (pc_ (c 11))).2) 11 1 + 10000 : Int32) = r' ∧ R (upc (up c1 43 0 (dfF (ppM m) N (m 0 13) (pc_ (c 11))).1) 11 (pc_ (dfF (ppM m) N (m 0 13) (pc_ (c 11))).2)) m') (by omega) N FU m1 a (Nat.le_refl _) (by show N < 1100; omega) (by rw [e4]; exact q1) (by omega) (by rw [g2 4 (by decide)]; exact h.wlM) ?_
      · rw [Nat.sub_self] at this; exact this
      · rw [em, e13, e4]
        refine ⟨?_, R.act2 h f1 H1 hm1 g1 g2 (fun j j1 j2 => by rw [upc_at, if_neg j1, up_ne j2]) (fun j j1 j2 => by rw [upc_at, if_neg j2, up_ne j1]) (fun k k1 => by rw [upc_at, if_neg (by decide), up_at, if_neg (by omega)]) ?_ ?_⟩
        · rw [upc_same, upc_same, show ∀ g : Nat → Int32, pc_ g 1 = g 1 from fun _ => rfl, hne.2.1 1 (by decide)]
        · rw [upc_same, upc_same]
          exact ⟨by rw [pc_pc]; exact hne.2, (hok.df N (m 0 13)).mono (by omega)⟩
        · rw [upc_at, if_neg (by decide), upc_at, if_neg (by decide), up_at, if_pos ⟨rfl, rfl⟩, up_at, if_pos ⟨rfl, rfl⟩]
          exact hne.1
  · simp only [bF hz]; exact ⟨trivial, h⟩
