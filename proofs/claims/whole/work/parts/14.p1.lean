/-! ===== pure: many minutes, tails, rules ===== -/
theorem movF_0 (P : PP) (ν : Nat → Int32) : movF P ν 0 = ν 0 + 1 := by simp [movF, upd]
theorem movF_6 (P : PP) (ν : Nat → Int32) : movF P ν 6 = ν 6 := by simp [movF, upd]
theorem movF_7 (P : PP) (ν : Nat → Int32) : movF P ν 7 = ν 7 := by simp [movF, upd]
theorem movF_5 (P : PP) (ν : Nat → Int32) : movF P ν 5 = 0 ∨ movF P ν 5 = 1 := by
  unfold movF
  rw [upd_at, if_pos rfl]
  split
  · exact Or.inr rfl
  · exact Or.inl rfl
theorem passF_0 (P : PP) (ν : Nat → Int32) : passF P ν 0 = ν 0 + 1 := by
  unfold passF
  split
  · simp [gatF, upd, movF_0]
  · exact movF_0 P ν
theorem passF_5 (P : PP) (ν : Nat → Int32) : passF P ν 5 = movF P ν 5 := by
  unfold passF
  split
  · simp [gatF, upd]
  · rfl
theorem passF_6 (P : PP) (ν : Nat → Int32) : passF P ν 6 = ν 6 := by
  unfold passF
  split
  · simp [gatF, upd, movF_6]
  · exact movF_6 P ν
theorem passF_7 (P : PP) (ν : Nat → Int32) : passF P ν 7 = if passF P ν 5 = 0 ∧ ν 6 = 0 then ν 7 + 1 else ν 7 := by
  rw [passF_5, ← movF_6 P ν]
  unfold passF
  split
  · simp [gatF, upd, movF_7]
  · exact movF_7 P ν
theorem passF_hi (P : PP) (ν : Nat → Int32) {k : Nat} (h : 12 ≤ k) : passF P ν k = ν k := by
  have g : ∀ j : Nat, j < 12 → ¬ k = j := fun j hj e => by omega
  unfold passF
  split
  · simp [gatF, movF, upd, g 7 (by decide), g 8 (by decide), g 9 (by decide), g 10 (by decide), g 11 (by decide), g 0 (by decide), g 1 (by decide), g 2 (by decide), g 3 (by decide), g 4 (by decide), g 5 (by decide)]
  · simp [movF, upd, g 0 (by decide), g 1 (by decide), g 2 (by decide), g 3 (by decide), g 4 (by decide), g 5 (by decide)]
/-! two nights alike: the plate's marks count only where there is light -/
def NE (a b : Nat → Int32) : Prop := (∀ k, k < 8 → a k = b k) ∧ (¬ a 7 = 0 → ∀ k, 8 ≤ k → k < 12 → a k = b k)
theorem NE.rf (a : Nat → Int32) : NE a a := ⟨fun _ _ => rfl, fun _ _ _ _ => rfl⟩
theorem NE.symm {a b : Nat → Int32} (h : NE a b) : NE b a := ⟨fun k hk => (h.1 k hk).symm, fun h7 k h1 h2 => (h.2 (by rw [h.1 7 (by decide)]; exact h7) k h1 h2).symm⟩
theorem NE.trans {a b c : Nat → Int32} (h : NE a b) (g : NE b c) : NE a c := ⟨fun k hk => (h.1 k hk).trans (g.1 k hk), fun h7 k h1 h2 => (h.2 h7 k h1 h2).trans (g.2 (by rw [← h.1 7 (by decide)]; exact h7) k h1 h2)⟩
theorem NE.of12 {a b : Nat → Int32} (h : ∀ k, k < 12 → a k = b k) : NE a b := ⟨fun k hk => h k (by omega), fun _ k _ h2 => h k h2⟩
theorem NE.upd {a b : Nat → Int32} (h : NE a b) {k : Nat} (hk : k < 7) (x : Int32) : NE (upd a k x) (upd b k x) := by
  refine ⟨fun j hj => ?_, fun h7 j h1 h2 => ?_⟩
  · simp only [upd_at]; split
    · rfl
    · exact h.1 j hj
  · simp only [upd_at] at h7 ⊢
    rw [if_neg (by omega)] at h7
    rw [if_neg (by omega), if_neg (by omega)]
    exact h.2 h7 j h1 h2
theorem NE_pE {P : PP} {a b : Nat → Int32} (h : NE a b) : pE P a = pE P b := by
  unfold pE; rw [h.1 0 (by decide), h.1 1 (by decide), h.1 3 (by decide)]
theorem NE_pN {P : PP} {a b : Nat → Int32} (h : NE a b) : pN P a = pN P b := by
  unfold pN; rw [h.1 2 (by decide), h.1 4 (by decide)]
theorem NE_movF {P : PP} {a b : Nat → Int32} (h : NE a b) : NE (movF P a) (movF P b) := by
  unfold movF
  rw [NE_pE h, NE_pN h, h.1 0 (by decide)]
  exact (((((h.upd (by decide) _).upd (by decide) _).upd (by decide) _).upd (by decide) _).upd (by decide) _).upd (by decide) _
theorem NE_gatF {a b : Nat → Int32} (h : NE a b) : NE (gatF a) (gatF b) := by
  have e1 := h.1 1 (by decide)
  have e2 := h.1 2 (by decide)
  have e7 := h.1 7 (by decide)
  have key : ∀ k, 8 ≤ k → k < 12 → ¬ a 7 = 0 → a k = b k := fun k h1 h2 h3 => h.2 h3 k h1 h2
  refine NE.of12 fun k hk => ?_
  by_cases c : a 7 = 0
  · have c2 : b 7 = 0 := by rw [← e7]; exact c
    simp only [gatF, upd_at, c, c2, true_or, if_true, e1, e2]
    by_cases hk2 : k < 8
    · rw [h.1 k hk2]
    · have : k = 8 ∨ k = 9 ∨ k = 10 ∨ k = 11 := by omega
      rcases this with rfl | rfl | rfl | rfl <;> simp
  · have c2 : ¬ b 7 = 0 := by rw [← e7]; exact c
    have e8 := key 8 (by decide) (by decide) c
    have e9 := key 9 (by decide) (by decide) c
    have e10 := key 10 (by decide) (by decide) c
    have e11 := key 11 (by decide) (by decide) c
    simp only [gatF, upd_at, e1, e2, e7, e8, e9, e10, e11]
    by_cases hk2 : k < 8
    · rw [h.1 k hk2]
    · rw [h.2 c k (by omega) hk]
theorem NE_passF {P : PP} {a b : Nat → Int32} (h : NE a b) : NE (passF P a) (passF P b) := by
  have h2 : NE (movF P a) (movF P b) := NE_movF h
  unfold passF
  rw [h2.1 5 (by decide), h2.1 6 (by decide)]
  split
  · exact NE_gatF h2
  · exact h2
theorem NE_goF {P : PP} : ∀ (n : Nat) {a b : Nat → Int32}, NE a b → NE (goF P n a) (goF P n b)
  | 0, _, _, h => h
  | n + 1, a, b, h => by
    unfold goF
    rw [h.1 5 (by decide)]
    split
    · exact NE_goF n (NE_passF h)
    · exact h
def tailF (ν : Nat → Int32) : Int32 := if ν 7 = 0 then 0 else if (ν 9 - ν 8) < (ν 11 - ν 10) then (ν 11 - ν 10) else (ν 9 - ν 8)
theorem NE_tailF {a b : Nat → Int32} (h : NE a b) : tailF a = tailF b := by
  unfold tailF
  rw [h.1 7 (by decide)]
  by_cases c : b 7 = 0
  · rw [if_pos c, if_pos c]
  · have c2 : ¬ a 7 = 0 := by rw [h.1 7 (by decide)]; exact c
    rw [if_neg c, if_neg c, h.2 c2 8 (by decide) (by decide), h.2 c2 9 (by decide) (by decide), h.2 c2 10 (by decide) (by decide), h.2 c2 11 (by decide) (by decide)]
theorem M_tailNow {σ : St} {Post : Int32 → St → Prop} (h : Post (tailF (σ 4)) σ) : w_X9_tailNow σ Post := by
  rintro _ rfl _ rfl
  unfold tailF at h
  refine ⟨fun c => ⟨fun d => ?_, fun d => ?_⟩, fun c => ?_⟩
  · rw [if_neg c] at h
    by_cases e : (σ 4 9 - σ 4 8) < (σ 4 11 - σ 4 10)
    · rw [if_pos e] at h; exact h
    · rw [if_neg e] at h
      have : (σ 4 9 - σ 4 8) = (σ 4 11 - σ 4 10) := by
        have q := Int32.not_lt.mp e
        rw [Int32.le_iff_toInt_le] at q d
        exact Int32.toInt_inj.mp (by omega)
      rw [← this]; exact h
  · rw [if_neg c, if_neg (fun q => d (by rw [Int32.le_iff_toInt_le]; rw [Int32.lt_iff_toInt_lt] at q; omega))] at h
    exact h
  · rw [if_pos c] at h; exact h
theorem C_tailLength {i : Nat} {σ : St} {Post : Int32 → St → Prop} (h : Post (tailF (pc_ (σ i))) σ) : w_X4_tailLength i σ Post := by
  unfold tailF at h
  refine ⟨fun c => ?_, fun c => ?_⟩
  · rintro _ rfl
    rw [if_neg (show ¬ pc_ (σ i) 7 = 0 from c)] at h
    exact h
  · rw [if_pos (show pc_ (σ i) 7 = 0 from c)] at h
    exact h
theorem ppM_upc4 {σ : St} {f : Nat → Int32} : ppM (upc σ 4 f) = ppM σ := by simp [ppM, upc_at]
theorem ppC_upc {σ : St} {i : Nat} {f : Nat → Int32} (h3 : i ≠ 3) (h4 : i ≠ 4) : ppC (upc σ i f) = ppC σ := by simp [ppC, upc_at, h3.symm, h4.symm]
/-- the reference's loops of minutes -/
theorem M_loop {L : Nat → Int32 → St → Prop} {EX : St → Prop} {N : Nat} (hN : N < 2 ^ 31)
    (hB : ∀ n k σ, ((nI N ≤ k → EX σ) ∧ (¬ nI N ≤ k → (¬ σ 4 5 = 0 → EX σ) ∧ (σ 4 5 = 0 → w_X9_pass σ (fun σ' => ∀ x : Int32, x = k + (1 : Int32) → L n x σ')))) → L (n + 1) k σ) :
    ∀ (j fuel : Nat) (σ : St) (a : Nat), j ≤ N → j < fuel → σ 4 0 = nI a → a + j < 2 ^ 31 → wlOK (σ 0 4) → EX (upc σ 4 (goF (ppM σ) j (σ 4))) → L fuel (nI (N - j)) σ := by
  intro j
  induction j with
  | zero =>
    intro fuel σ a h1 h2 h3 h4 h5 h6
    obtain ⟨f, rfl⟩ : ∃ f, fuel = f + 1 := ⟨fuel - 1, by omega⟩
    rw [show goF (ppM σ) 0 (σ 4) = σ 4 from rfl, upc_self] at h6
    exact hB f _ σ ⟨fun _ => h6, fun c => absurd (nI_le (Nat.le_refl _) hN) c⟩
  | succ j ih =>
    intro fuel σ a h1 h2 h3 h4 h5 h6
    obtain ⟨f, rfl⟩ : ∃ f, fuel = f + 1 := ⟨fuel - 1, by omega⟩
    refine hB f _ σ ⟨fun c => absurd c (nI_ge (by omega) hN), fun _ => ⟨fun c => ?_, fun c => ?_⟩⟩
    · unfold goF at h6
      rw [if_neg c, upc_self] at h6
      exact h6
    · refine M_pass h5 h3 (by omega) ?_
      rintro _ rfl
      rw [sub9 h1]
      unfold goF at h6
      rw [if_pos c] at h6
      refine ih f _ (a + 1) (by omega) (by omega) ?_ (by omega) ?_ ?_
      · rw [upc_same, passF_0, h3, nI_1]
      · rw [upc_at]; exact h5
      · rw [ppM_upc4, upc_same, upc_upc]; exact h6
/-- the class's -/
theorem C_loop {i : Nat} {Post : St → Prop} {N : Nat} (hN : N < 2 ^ 31) (hi3 : i ≠ 3) (hi4 : i ≠ 4) :
    ∀ (j fuel : Nat) (σ : St) (a : Nat), j ≤ N → j < fuel → σ i 0 = nI a → a + j < 2 ^ 31 → wlOK (σ 3 4) → Post (upc σ i (pc_ (goF (ppC σ) j (pc_ (σ i))))) → w_X4_passMany_L2 i Post fuel (nI N) (nI (N - j)) σ := by
  intro j
  induction j with
  | zero =>
    intro fuel σ a h1 h2 h3 h4 h5 h6
    obtain ⟨f, rfl⟩ : ∃ f, fuel = f + 1 := ⟨fuel - 1, by omega⟩
    rw [show goF (ppC σ) 0 (pc_ (σ i)) = pc_ (σ i) from rfl, pc_pc, upc_self] at h6
    exact ⟨fun _ => h6, fun c => absurd (nI_le (Nat.le_refl _) hN) c⟩
  | succ j ih =>
    intro fuel σ a h1 h2 h3 h4 h5 h6
    obtain ⟨f, rfl⟩ : ∃ f, fuel = f + 1 := ⟨fuel - 1, by omega⟩
    have e5 : pc_ (σ i) 5 = σ i 3 := rfl
    refine ⟨fun c => absurd c (nI_ge (by omega) hN), fun _ => ⟨fun c => ?_, fun c => ?_⟩⟩
    · unfold goF at h6
      rw [e5, if_neg c, pc_pc, upc_self] at h6
      exact h6
    · refine C_passOne hi3 hi4 h5 h3 (by omega) ?_
      rintro _ rfl
      rw [sub9 h1]
      unfold goF at h6
      rw [e5, if_pos c] at h6
      refine ih f _ (a + 1) (by omega) (by omega) ?_ (by omega) ?_ ?_
      · rw [upc_same, show pc_ (passF (ppC σ) (pc_ (σ i))) 0 = passF (ppC σ) (pc_ (σ i)) 0 from rfl, passF_0, show pc_ (σ i) 0 = σ i 0 from rfl, h3, nI_1]
      · rw [upc_at, if_neg hi3.symm]; exact h5
      · rw [ppC_upc hi3 hi4, upc_same, upc_upc, pc_pc]; exact h6
theorem C_passMany {i : Nat} {Post : St → Prop} {N : Nat} (hi3 : i ≠ 3) (hi4 : i ≠ 4) {σ : St} {p : Int32} {a : Nat} (hp : p = nI N) (hN : N < 1100) (h3 : σ i 0 = nI a) (h4 : a + N < 2 ^ 31) (h5 : wlOK (σ 3 4)) (h6 : Post (upc σ i (pc_ (goF (ppC σ) N (pc_ (σ i)))))) : w_X4_passMany i p σ Post := by
  subst hp
  have := C_loop (i := i) (Post := Post) (N := N) (by omega) hi3 hi4 N FU σ a (Nat.le_refl _) hN h3 h4 h5 h6
  rw [Nat.sub_self] at this
  exact this
/-! by a rule -/
def prOK (pr : Int32) : Prop := ∃ b : Nat, 1 ≤ b ∧ b ≤ 9 ∧ pr = nI b
theorem pr_ne {pr : Int32} (h : prOK pr) : ¬ pr = 0 := wl_ne h
theorem pr_1 {pr : Int32} (h : prOK pr) : ¬ pr < 1 := by
  obtain ⟨b, h1, h2, rfl⟩ := h
  exact nI_nlt h1 (by omega)
def pfF (P : PP) (x h f : Int32) : Int32 := if h < sz32 x then -(((x * f) / (10 : Int32)) / P.2.2.1) else 0
def rulF (P : PP) (h f : Int32) (ν : Nat → Int32) : Nat → Int32 := passF P (upd (upd ν 3 (pfF P (ν 1) h f)) 4 (pfF P (ν 2) h f))
def rulB (P : PP) (h f : Int32) (ν : Nat → Int32) : Int32 := if pfF P (ν 1) h f = 0 ∧ pfF P (ν 2) h f = 0 then 0 else 1
theorem M_pressesFor {x h f : Int32} {σ : St} {Post : Int32 → St → Prop} (hp : prOK (σ 0 8)) (hh : Post (pfF (ppM σ) x h f) σ) : w_X9_pressesFor x h f σ Post := by
  refine M_size ?_
  unfold pfF at hh
  refine ⟨fun c => ?_, fun c => ⟨pr_ne hp, ?_⟩⟩
  · rw [if_neg (Int32.not_lt.mpr c)] at hh; exact hh
  · rw [if_pos (Int32.not_le.mp c)] at hh; exact hh
theorem C_pressesAgainst {x h f : Int32} {σ : St} {Post : Int32 → St → Prop} (hp : prOK (σ 3 7)) (hh : Post (pfF (ppC σ) x h f) σ) : w_X3_pressesAgainst x h f σ Post := by
  unfold pfF at hh
  refine ⟨fun c => absurd c (pr_1 hp), fun _ => ?_⟩
  rintro _ rfl
  rw [show (if 0 ≤ x then x else 0 - x) = sz32 x by unfold sz32; rw [Int32.zero_sub]]
  refine ⟨fun c => ⟨pr_ne hp, ?_⟩, fun c => ?_⟩
  · rw [if_pos c] at hh; exact hh
  · rw [if_neg c] at hh; exact hh
theorem M_ruled {h f : Int32} {σ : St} {Post : Int32 → St → Prop} {a : Nat} (hw : wlOK (σ 0 4)) (hp : prOK (σ 0 8)) (ha : σ 4 0 = nI a) (hb : a < 2 ^ 31) (hh : Post (rulB (ppM σ) h f (σ 4)) (upc σ 4 (rulF (ppM σ) h f (σ 4)))) : w_X9_ruled h f σ Post := by
  refine M_pressesFor hp ?_
  intro σ3 e3
  have hp3 : prOK (σ3 0 8) := by rw [e3, up_at]; exact hp
  refine M_pressesFor hp3 ?_
  intro σ6 e6
  have q1 : σ3 4 2 = σ 4 2 := by rw [e3]; simp [up_at]
  have q2 : ppM σ3 = ppM σ := by rw [e3, up_def, ppM_upc4]
  rw [q1, q2] at e6
  have q3 : σ6 = upc σ 4 (upd (upd (σ 4) 3 (pfF (ppM σ) (σ 4 1) h f)) 4 (pfF (ppM σ) (σ 4 2) h f)) := by
    rw [e6, e3, up_def (σ := σ), up_upc]
  have q4 : σ6 4 3 = pfF (ppM σ) (σ 4 1) h f := by rw [q3, upc_same]; simp [upd]
  have q5 : σ6 4 4 = pfF (ppM σ) (σ 4 2) h f := by rw [q3, upc_same]; simp [upd]
  have J : ∀ s : Int32, (s = 0 ∨ s = 1) → s = rulB (ppM σ) h f (σ 4) → w_X9_ruled_J59 Post s σ6 := by
    intro s hs hs2
    refine M_pass (a := a) (by rw [q3, upc_at]; exact hw) (by rw [q3, upc_same]; simp [upd, ha]) hb ⟨hs, ?_⟩
    rw [hs2, q3, ppM_upc4, upc_same, upc_upc]
    exact hh
  rw [q4, q5]
  unfold rulB at J
  refine ⟨fun c => J 1 (Or.inr rfl) (by rw [if_neg (fun q => c q.1)]), fun c => ⟨fun d => J 0 (Or.inl rfl) (by rw [if_pos ⟨c, d⟩]), fun d => J 1 (Or.inr rfl) (by rw [if_neg (fun q => d q.2)])⟩⟩
theorem C_passByRule {i : Nat} {h f : Int32} {σ : St} {Post : Int32 → St → Prop} {a : Nat} (hi3 : i ≠ 3) (hi4 : i ≠ 4) (hw : wlOK (σ 3 4)) (hp : prOK (σ 3 7)) (ha : σ i 0 = nI a) (hb : a < 2 ^ 31) (hh : Post (rulB (ppC σ) h f (pc_ (σ i))) (upc σ i (pc_ (rulF (ppC σ) h f (pc_ (σ i)))))) : w_X4_passByRule i h f σ Post := by
  refine C_pressesAgainst hp ?_
  intro σ3 e3
  have hp3 : prOK (σ3 3 7) := by rw [e3, up_at, if_neg (fun q => hi3 q.1.symm)]; exact hp
  refine C_pressesAgainst hp3 ?_
  intro σ6 e6
  have q1 : σ3 i 2 = σ i 2 := by rw [e3]; simp [up_at]
  have q2 : ppC σ3 = ppC σ := by rw [e3, up_def, ppC_upc hi3 hi4]
  rw [q1, q2] at e6
  have q3 : σ6 = upc σ i (upd (upd (σ i) 5 (pfF (ppC σ) (σ i 1) h f)) 6 (pfF (ppC σ) (σ i 2) h f)) := by
    rw [e6, e3, up_def (σ := σ), up_upc]
  have q4 : σ6 i 5 = pfF (ppC σ) (σ i 1) h f := by rw [q3, upc_same]; simp [upd]
  have q5 : σ6 i 6 = pfF (ppC σ) (σ i 2) h f := by rw [q3, upc_same]; simp [upd]
  have J : ∀ s : Int32, (s = 0 ∨ s = 1) → s = rulB (ppC σ) h f (pc_ (σ i)) → w_X4_passByRule_J47 i Post s σ6 := by
    intro s hs hs2
    refine C_passOne (a := a) hi3 hi4 (by rw [q3, upc_at, if_neg hi3.symm]; exact hw) (by rw [q3, upc_same]; simp [upd, ha]) hb ⟨hs, ?_⟩
    rw [hs2, q3, ppC_upc hi3 hi4, upc_same, upc_upc, pc_upd, pc_upd]
    exact hh
  rw [q4, q5]
  unfold rulB at J
  refine ⟨fun c => J 1 (Or.inr rfl) (by rw [if_neg (fun q => c q.1)]), fun c => ⟨fun d => J 0 (Or.inl rfl) (by rw [if_pos ⟨c, d⟩]), fun d => J 1 (Or.inr rfl) (by rw [if_neg (fun q => d q.2)])⟩⟩
theorem NE_rulB {P : PP} {h f : Int32} {a b : Nat → Int32} (q : NE a b) : rulB P h f a = rulB P h f b := by
  unfold rulB; rw [q.1 1 (by decide), q.1 2 (by decide)]
theorem NE_rulF {P : PP} {h f : Int32} {a b : Nat → Int32} (q : NE a b) : NE (rulF P h f a) (rulF P h f b) := by
  unfold rulF; rw [q.1 1 (by decide), q.1 2 (by decide)]
  exact NE_passF ((q.upd (by decide) _).upd (by decide) _)
