/-! ===== pure: components, nights, minutes ===== -/
theorem up_at (σ : St) (i k : Nat) (x : Int32) (a b : Nat) : up σ i k x a b = if a = i ∧ b = k then x else σ a b := by
  unfold up upc upd
  by_cases h : a = i
  · subst h; by_cases h2 : b = k <;> simp [h2]
  · simp [h]
theorem up_ne {σ : St} {i k : Nat} {x : Int32} {a : Nat} (h : a ≠ i) : up σ i k x a = σ a := by simp [up, upc, h]
theorem up_eq {σ : St} {i k : Nat} {x : Int32} : up σ i k x i = upd (σ i) k x := by simp [up, upc]
theorem upc_at (σ : St) (i : Nat) (f : Nat → Int32) (a : Nat) : upc σ i f a = if a = i then f else σ a := rfl
theorem upc_self {σ : St} {i : Nat} : upc σ i (σ i) = σ := by
  funext a; by_cases h : a = i
  · subst h; simp [upc]
  · simp [upc, h]
theorem upc_upc {σ : St} {i : Nat} {f g : Nat → Int32} : upc (upc σ i f) i g = upc σ i g := by
  funext a; by_cases h : a = i <;> simp [upc, h]
theorem up_upc {σ : St} {i k : Nat} {f : Nat → Int32} {x : Int32} : up (upc σ i f) i k x = upc σ i (upd f k x) := by
  unfold up; rw [upc_upc, upc_same]
theorem up_def {σ : St} {i k : Nat} {x : Int32} : up σ i k x = upc σ i (upd (σ i) k x) := rfl
theorem upc_comm {σ : St} {i j : Nat} {f g : Nat → Int32} (h : i ≠ j) : upc (upc σ i f) j g = upc (upc σ j g) i f := by
  funext a
  unfold upc
  by_cases h1 : a = i
  · subst h1; simp [h]
  · simp [h1]
theorem upd_at (f : Nat → Int32) (k : Nat) (x : Int32) (j : Nat) : upd f k x j = if j = k then x else f j := rfl
theorem upd_upd {f : Nat → Int32} {k : Nat} {x y : Int32} : upd (upd f k x) k y = upd f k y := by
  funext j; by_cases h : j = k <;> simp [upd, h]
theorem upd_self {f : Nat → Int32} {k : Nat} : upd f k (f k) = f := by
  funext j; by_cases h : j = k
  · subst h; simp [upd]
  · simp [upd, h]
/-! numbers -/
theorem vin {n N : Nat} {x : Int32} (hx : x = nI n) (h : n < N) (hN : N < 2 ^ 31 := by decide) : vp_in x N := by subst hx; exact vp_in_nI h hN
theorem vlit {x : Int32} {N : Nat} (h : ¬ (x < 0 ∨ N ≤ x.toNatClampNeg)) : vp_in x N := h
theorem cl_nI {n : Nat} (h : n < 2 ^ 31) : (nI n).toNatClampNeg = n := nI_clamp h
theorem sub9 {N j : Nat} (h : j + 1 ≤ N) : nI (N - (j + 1)) + 1 = nI (N - j) := by
  rw [nI_1]; congr 1; omega
/-- the sizes -/
def sz32 (x : Int32) : Int32 := if 0 ≤ x then x else -x
/-- THE NIGHT's numbers in the reference's order: 0 minutes 1 east 2 north 3 4 what waits 5 lost 6 shut 7 light 8 .. 11 the plate; the class's order by pc -/
def pi_ (k : Nat) : Nat := if k = 3 then 5 else if k = 4 then 6 else if k = 5 then 3 else if k = 6 then 4 else k
theorem pi_pi (k : Nat) : pi_ (pi_ k) = k := by
  unfold pi_
  by_cases h3 : k = 3
  · subst h3; rfl
  by_cases h4 : k = 4
  · subst h4; rfl
  by_cases h5 : k = 5
  · subst h5; rfl
  by_cases h6 : k = 6
  · subst h6; rfl
  simp [h3, h4, h5, h6]
def pc_ (ν : Nat → Int32) : Nat → Int32 := fun k => ν (pi_ k)
theorem pc_pc (ν : Nat → Int32) : pc_ (pc_ ν) = ν := by funext k; simp [pc_, pi_pi]
theorem pc_upd (ν : Nat → Int32) (k : Nat) (x : Int32) : pc_ (upd ν k x) = upd (pc_ ν) (pi_ k) x := by
  funext j
  unfold pc_ upd
  by_cases h : pi_ j = k
  · subst h; simp [pi_pi]
  · have : j ≠ pi_ k := fun e => h (by rw [e, pi_pi])
    simp [h, this]
abbrev PP : Type := Int32 × Int32 × Int32 × (Int32 → Int32)
def emF (ck wl ja jm : Int32) (w : Nat → Int32) (t : Int32) : Int32 := if 0 ≤ t then ck + w (t - t / wl * wl).toNatClampNeg + (if t = ja then jm else 0) else 0
def ppM (m : St) : PP := (m 0 2, m 0 3, m 0 8, emF (m 0 1) (m 0 4) (m 0 6) (m 0 7) (m 1))
def ppC (c : St) : PP := (c 3 2, c 3 3, c 3 7, emF (c 3 1) (c 3 4) (c 3 5) (c 3 6) (c 4))
def pE (P : PP) (ν : Nat → Int32) : Int32 := ν 1 + (ν 3 * P.2.2.1 + P.2.2.2 (ν 0))
def pN (P : PP) (ν : Nat → Int32) : Int32 := ν 2 + (ν 4 * P.2.2.1 + P.1)
def gatF (ν : Nat → Int32) : Nat → Int32 :=
  upd (upd (upd (upd (upd ν 8 (if ν 7 = 0 ∨ ν 1 < ν 8 then ν 1 else ν 8)) 9 (if ν 7 = 0 ∨ ν 9 < ν 1 then ν 1 else ν 9)) 10 (if ν 7 = 0 ∨ ν 2 < ν 10 then ν 2 else ν 10)) 11 (if ν 7 = 0 ∨ ν 11 < ν 2 then ν 2 else ν 11)) 7 (ν 7 + 1)
def movF (P : PP) (ν : Nat → Int32) : Nat → Int32 :=
  upd (upd (upd (upd (upd (upd ν 1 (pE P ν)) 2 (pN P ν)) 3 0) 4 0) 0 (ν 0 + 1)) 5 (if P.2.1 < sz32 (pE P ν) ∨ P.2.1 < sz32 (pN P ν) then 1 else 0)
def passF (P : PP) (ν : Nat → Int32) : Nat → Int32 := if movF P ν 5 = 0 ∧ movF P ν 6 = 0 then gatF (movF P ν) else movF P ν
def goF (P : PP) : Nat → (Nat → Int32) → (Nat → Int32)
  | 0, ν => ν
  | n + 1, ν => if ν 5 = 0 then goF P n (passF P ν) else ν
def wlOK (wl : Int32) : Prop := ∃ b : Nat, 1 ≤ b ∧ b ≤ 9 ∧ wl = nI b
theorem wl_ne {wl : Int32} (h : wlOK wl) : ¬ wl = 0 := by
  obtain ⟨b, h1, h2, rfl⟩ := h
  exact nI_ne0 h1 (by omega)
theorem wl_le {wl : Int32} (h : wlOK wl) : ¬ wl ≤ 0 := by
  obtain ⟨b, h1, h2, rfl⟩ := h
  exact nI_nle h1 (by omega)
theorem wl_rem {wl : Int32} (h : wlOK wl) {a : Nat} (ha : a < 2 ^ 31) : ∃ k : Nat, k < wl.toNatClampNeg ∧ k < 9 ∧ nI a - nI a / wl * wl = nI k := by
  obtain ⟨b, h1, h2, rfl⟩ := h
  refine ⟨a % b, ?_, ?_, pk_rem ha h1 (by omega)⟩
  · rw [nI_clamp (by omega)]; exact Nat.mod_lt _ h1
  · exact Nat.lt_of_lt_of_le (Nat.mod_lt _ h1) h2
theorem wl_in {wl : Int32} (h : wlOK wl) {a : Nat} (ha : a < 2 ^ 31) : vp_in (nI a - nI a / wl * wl) 9 := by
  obtain ⟨k, -, h2, h3⟩ := wl_rem h ha
  exact vin h3 h2
/-! the reference's minute -/
theorem M_J195 {Post : St → Prop} {s : Int32} {σ : St} (h : Post (up (up σ 4 11 s) 4 7 (σ 4 7 + 1))) : w_X9_gather_J195 Post s 11 σ := by
  refine ⟨vlit (by decide), ?_⟩
  rintro _ rfl _ rfl
  rw [show up σ 4 (11 : Int32).toNatClampNeg s = up σ 4 11 s from rfl]
  have e : up σ 4 11 s 4 7 = σ 4 7 := by simp [up_at]
  rw [e]
  exact h
theorem M_J146 {Post : St → Prop} {s : Int32} {σ : St} (h : Post (up (up (up σ 4 10 s) 4 11 (if σ 4 7 = 0 ∨ σ 4 11 < σ 4 2 then σ 4 2 else σ 4 11)) 4 7 (σ 4 7 + 1))) : w_X9_gather_J146 Post s 10 σ := by
  refine ⟨vlit (by decide), ?_⟩
  rintro _ rfl
  rw [show up σ 4 (10 : Int32).toNatClampNeg s = up σ 4 10 s from rfl]
  have e2 : up σ 4 10 s 4 2 = σ 4 2 := by simp [up_at]
  have e7 : up σ 4 10 s 4 7 = σ 4 7 := by simp [up_at]
  have e11 : up σ 4 10 s 4 11 = σ 4 11 := by simp [up_at]
  unfold w_X9_gather_J179
  rw [e2, e7, e11]
  refine ⟨fun c => M_J195 ?_, fun c => ⟨fun d => M_J195 ?_, fun d => M_J195 ?_⟩⟩ <;> rw [e7]
  · rw [if_pos (Or.inl c)] at h; exact h
  · rw [if_neg (by rintro (q | q); exact c q; exact absurd q (Int32.not_lt.mpr d))] at h; exact h
  · rw [if_pos (Or.inr (Int32.not_le.mp d))] at h; exact h
theorem M_J97 {Post : St → Prop} {s : Int32} {σ : St} (h : Post (up (up (up (up σ 4 9 s) 4 10 (if σ 4 7 = 0 ∨ σ 4 2 < σ 4 10 then σ 4 2 else σ 4 10)) 4 11 (if σ 4 7 = 0 ∨ σ 4 11 < σ 4 2 then σ 4 2 else σ 4 11)) 4 7 (σ 4 7 + 1))) : w_X9_gather_J97 Post s 9 σ := by
  refine ⟨vlit (by decide), ?_⟩
  rintro _ rfl
  rw [show up σ 4 (9 : Int32).toNatClampNeg s = up σ 4 9 s from rfl]
  have e2 : up σ 4 9 s 4 2 = σ 4 2 := by simp [up_at]
  have e7 : up σ 4 9 s 4 7 = σ 4 7 := by simp [up_at]
  have e10 : up σ 4 9 s 4 10 = σ 4 10 := by simp [up_at]
  have e11 : up σ 4 9 s 4 11 = σ 4 11 := by simp [up_at]
  unfold w_X9_gather_J130
  rw [e2, e7, e10]
  refine ⟨fun c => M_J146 ?_, fun c => ⟨fun d => M_J146 ?_, fun d => M_J146 ?_⟩⟩ <;> rw [e2, e7, e11]
  · rw [if_pos (Or.inl c)] at h; exact h
  · rw [if_neg (by rintro (q | q); exact c q; exact absurd q (Int32.not_lt.mpr d))] at h; exact h
  · rw [if_pos (Or.inr (Int32.not_le.mp d))] at h; exact h
theorem M_J48 {Post : St → Prop} {s : Int32} {σ : St} (h : Post (up (up (up (up (up σ 4 8 s) 4 9 (if σ 4 7 = 0 ∨ σ 4 9 < σ 4 1 then σ 4 1 else σ 4 9)) 4 10 (if σ 4 7 = 0 ∨ σ 4 2 < σ 4 10 then σ 4 2 else σ 4 10)) 4 11 (if σ 4 7 = 0 ∨ σ 4 11 < σ 4 2 then σ 4 2 else σ 4 11)) 4 7 (σ 4 7 + 1))) : w_X9_gather_J48 Post s 8 σ := by
  refine ⟨vlit (by decide), ?_⟩
  rintro _ rfl
  rw [show up σ 4 (8 : Int32).toNatClampNeg s = up σ 4 8 s from rfl]
  have e1 : up σ 4 8 s 4 1 = σ 4 1 := by simp [up_at]
  have e2 : up σ 4 8 s 4 2 = σ 4 2 := by simp [up_at]
  have e7 : up σ 4 8 s 4 7 = σ 4 7 := by simp [up_at]
  have e9 : up σ 4 8 s 4 9 = σ 4 9 := by simp [up_at]
  have e10 : up σ 4 8 s 4 10 = σ 4 10 := by simp [up_at]
  have e11 : up σ 4 8 s 4 11 = σ 4 11 := by simp [up_at]
  unfold w_X9_gather_J81
  rw [e1, e7, e9]
  refine ⟨fun c => M_J97 ?_, fun c => ⟨fun d => M_J97 ?_, fun d => M_J97 ?_⟩⟩ <;> rw [e2, e7, e10, e11]
  · rw [if_pos (Or.inl c)] at h; exact h
  · rw [if_neg (by rintro (q | q); exact c q; exact absurd q (Int32.not_lt.mpr d))] at h; exact h
  · rw [if_pos (Or.inr (Int32.not_le.mp d))] at h; exact h
theorem M_gather {Post : St → Prop} {σ : St} (h : Post (upc σ 4 (gatF (σ 4)))) : w_X9_gather σ Post := by
  have h2 : Post (up (up (up (up (up σ 4 8 (if σ 4 7 = 0 ∨ σ 4 1 < σ 4 8 then σ 4 1 else σ 4 8)) 4 9 (if σ 4 7 = 0 ∨ σ 4 9 < σ 4 1 then σ 4 1 else σ 4 9)) 4 10 (if σ 4 7 = 0 ∨ σ 4 2 < σ 4 10 then σ 4 2 else σ 4 10)) 4 11 (if σ 4 7 = 0 ∨ σ 4 11 < σ 4 2 then σ 4 2 else σ 4 11)) 4 7 (σ 4 7 + 1)) := by
    rw [up_def (σ := σ), up_upc, up_upc, up_upc, up_upc]
    exact h
  unfold w_X9_gather w_X9_gather_J32
  refine ⟨fun c => M_J48 ?_, fun c => ⟨fun d => M_J48 ?_, fun d => M_J48 ?_⟩⟩
  · rw [if_pos (Or.inl c)] at h2; exact h2
  · rw [if_neg (show ¬ (σ 4 7 = 0 ∨ σ 4 1 < σ 4 8) by rintro (q | q); exact c q; exact absurd q (Int32.not_lt.mpr d))] at h2; exact h2
  · rw [if_pos (show σ 4 7 = 0 ∨ σ 4 1 < σ 4 8 from Or.inr (Int32.not_le.mp d))] at h2; exact h2
theorem M_size {x : Int32} {σ : St} {Post : Int32 → St → Prop} (h : Post (sz32 x) σ) : w_X9_size x σ Post := by
  unfold sz32 at h
  exact ⟨fun c => by rw [if_pos c] at h; exact h, fun c => by rw [if_neg c] at h; exact h⟩
theorem M_pass {Post : St → Prop} {σ : St} {a : Nat} (hw : wlOK (σ 0 4)) (ha : σ 4 0 = nI a) (hb : a < 2 ^ 31) (h : Post (upc σ 4 (passF (ppM σ) (σ 4)))) : w_X9_pass σ Post := by
  unfold w_X9_pass
  intro x1 ex1
  have hx : x1 = nI a := ex1.trans ha
  refine ⟨wl_ne hw, by rw [hx]; exact wl_in hw hb, ?_⟩
  have key : ∀ x5 : Int32, x5 = (if x1 = σ 0 6 then σ 0 7 else 0) → ∀ σ6 : St, σ6 = up σ 4 1 (((σ 4 1) + (((((σ 4 3) * (σ 0 8)) + (σ 0 1)) + (σ 1 (x1 - x1 / (σ 0 4) * (σ 0 4)).toNatClampNeg)) + x5))) → ∀ σ7 : St, σ7 = up σ6 4 2 (((σ6 4 2) + (((σ6 4 4) * (σ6 0 8)) + (σ6 0 2)))) → ∀ σ8 : St, σ8 = up σ7 4 3 (0 : Int32) → ∀ σ9 : St, σ9 = up σ8 4 4 (0 : Int32) → ∀ σ10 : St, σ10 = up σ9 4 0 (((σ9 4 0) + (1 : Int32))) → w_X9_size ((σ10 4 1)) σ10 (fun x12 σ11 => ((σ11 0 3) < x12 → w_X9_pass_J136 Post (5 : Int32) σ11) ∧ (¬ (σ11 0 3) < x12 → w_X9_size ((σ11 4 2)) σ11 (fun x15 σ14 => (x15 ≤ (σ14 0 3) → w_X9_pass_J141 Post (0 : Int32) (5 : Int32) σ14) ∧ (¬ x15 ≤ (σ14 0 3) → w_X9_pass_J136 Post (5 : Int32) σ14)))) := by
    intro x5 e5 σ6 e6 σ7 e7 σ8 e8 σ9 e9 σ10 e10
    have hE : (σ 4 1) + (((((σ 4 3) * (σ 0 8)) + (σ 0 1)) + (σ 1 (x1 - x1 / (σ 0 4) * (σ 0 4)).toNatClampNeg)) + x5) = pE (ppM σ) (σ 4) := by
      have hp : (0 : Int32) ≤ x1 := by rw [hx]; exact nI_pos' hb
      dsimp only [pE, ppM, emF]
      rw [← ex1, if_pos hp, e5]
      simp only [Int32.add_assoc]
    rw [hE] at e6
    have hN : (σ6 4 2) + (((σ6 4 4) * (σ6 0 8)) + (σ6 0 2)) = pN (ppM σ) (σ 4) := by
      rw [e6]; simp [up_at, pN, ppM]
    rw [hN] at e7
    have h0 : σ9 4 0 = σ 4 0 := by rw [e9, e8, e7, e6]; simp [up_at]
    rw [h0] at e10
    have hmov : ∀ l : Int32, up σ10 4 5 l = upc σ 4 (upd (upd (upd (upd (upd (upd (σ 4) 1 (pE (ppM σ) (σ 4))) 2 (pN (ppM σ) (σ 4))) 3 0) 4 0) 0 (σ 4 0 + 1)) 5 l) := by
      intro l
      rw [e10, e9, e8, e7, e6, up_def (σ := σ), up_upc, up_upc, up_upc, up_upc, up_upc]
    have f1 : σ10 4 1 = pE (ppM σ) (σ 4) := by rw [e10, e9, e8, e7, e6]; simp [up_at]
    have f2 : σ10 4 2 = pN (ppM σ) (σ 4) := by rw [e10, e9, e8, e7]; simp [up_at]
    have f3 : σ10 0 3 = (ppM σ).2.1 := by rw [e10, e9, e8, e7, e6]; simp [up_at, ppM]
    have J : ∀ l : Int32, l = (if (ppM σ).2.1 < sz32 (pE (ppM σ) (σ 4)) ∨ (ppM σ).2.1 < sz32 (pN (ppM σ) (σ 4)) then 1 else 0) → w_X9_pass_J141 Post l (5 : Int32) σ10 := by
      intro l hl
      refine ⟨vlit (by decide), ?_⟩
      intro σ17 e17
      have e18 : σ17 = upc σ 4 (movF (ppM σ) (σ 4)) := by
        rw [e17, show up σ10 4 (5 : Int32).toNatClampNeg l = up σ10 4 5 l from rfl, hmov, hl]; rfl
      have g5 : σ17 4 = movF (ppM σ) (σ 4) := by rw [e18, upc_same]
      rw [g5]
      unfold passF at h
      refine ⟨fun c => ?_, fun c => ⟨fun d => ?_, fun d => M_gather ?_⟩⟩
      · rw [if_neg (fun q => c q.1)] at h; rw [e18]; exact h
      · rw [if_neg (fun q => d q.2)] at h; rw [e18]; exact h
      · rw [if_pos ⟨c, d⟩] at h; rw [g5, e18, upc_upc]; exact h
    refine M_size ?_
    rw [f1, f3]
    refine ⟨fun c => J 1 (by rw [if_pos (Or.inl c)]), fun c => M_size ?_⟩
    rw [f2, f3]
    refine ⟨fun d => J 0 (by rw [if_neg (by rintro (q | q); exact c q; exact absurd q (Int32.not_lt.mpr d))]), fun d => J 1 (by rw [if_pos (Or.inr (Int32.not_le.mp d))])⟩
  refine ⟨fun c => key 0 (by rw [if_neg c]), fun c => key (σ 0 7) (by rw [if_pos c])⟩
/-! the class's minute: of the night at i -/
theorem C_wormAt {j : Nat} {p : Int32} {k : Nat} {σ : St} {Post : Int32 → St → Prop} (hp : p = nI k) (hk : k < 9) (h : Post (σ (j + 1) k) σ) : w_X3_wormAt j p σ Post := by
  subst hp
  refine ⟨fun c => absurd c (nI_pos (by omega)), fun _ => ⟨fun c => absurd c (nI_ge hk (by decide)), fun _ => ⟨vp_in_nI hk (by decide), ?_⟩⟩⟩
  rw [nI_clamp (by omega)]
  exact h
theorem C_eastwardAt {t : Int32} {a : Nat} {σ : St} {Post : Int32 → St → Prop} (hw : wlOK (σ 3 4)) (ha : t = nI a) (hb : a < 2 ^ 31) (h : Post ((ppC σ).2.2.2 t) σ) : w_X3_eastwardAt t σ Post := by
  unfold w_X3_eastwardAt w_X3_eastwardAt_J17
  refine ⟨fun c => absurd c (wl_le hw), fun _ => ⟨wl_ne hw, ?_⟩⟩
  obtain ⟨k, h1, h2, h3⟩ := wl_rem hw hb
  rw [← ha] at h3
  refine C_wormAt h3 h2 ?_
  have hp : (0 : Int32) ≤ t := by rw [ha]; exact nI_pos' hb
  dsimp only [ppC, emF] at h
  rw [if_pos hp, h3, nI_clamp (by omega)] at h
  refine ⟨fun c => ?_, fun c => ?_⟩
  · rw [if_neg c] at h; exact h
  · rw [if_pos c] at h; exact h
theorem C_gather {Post : St → Prop} {i : Nat} {σ : St} (h : Post (upc σ i (pc_ (gatF (pc_ (σ i)))))) : w_X4_gather i σ Post := by
  have e : ∀ (f : Nat → Int32), (f = upd (upd (upd (upd (upd (σ i) 8 (if σ i 7 = 0 ∨ σ i 1 < σ i 8 then σ i 1 else σ i 8)) 9 (if σ i 7 = 0 ∨ σ i 9 < σ i 1 then σ i 1 else σ i 9)) 10 (if σ i 7 = 0 ∨ σ i 2 < σ i 10 then σ i 2 else σ i 10)) 11 (if σ i 7 = 0 ∨ σ i 11 < σ i 2 then σ i 2 else σ i 11)) 7 (σ i 7 + 1)) → f = pc_ (gatF (pc_ (σ i))) := by
    intro f hf
    rw [hf]
    simp only [gatF, pc_upd, pc_pc]
    rfl
  have J : ∀ s0 : Int32, (s0 = if σ i 7 = 0 then 1 else 0) → w_X4_gather_J12 i Post s0 σ := by
    intro s0 hs
    by_cases h7 : σ i 7 = 0
    · rw [if_pos h7] at hs
      subst hs
      refine ⟨fun c => absurd c (by decide), fun _ => ?_⟩
      rintro _ rfl
      refine ⟨fun c => absurd c (by decide), fun _ => ?_⟩
      rintro _ rfl
      refine ⟨fun c => absurd c (by decide), fun _ => ?_⟩
      rintro _ rfl
      refine ⟨fun c => absurd c (by decide), fun _ => ?_⟩
      rintro _ rfl _ rfl
      rw [up_def (σ := σ), up_upc, up_upc, up_upc, up_upc]
      refine cast (congrArg (fun f => Post (upc σ i f)) (e _ ?_).symm) h
      simp [h7, upd, upc]
    · rw [if_neg h7] at hs
      subst hs
      refine ⟨fun _ => ?_, fun c => absurd rfl c⟩
      rintro _ rfl _ rfl
      refine ⟨fun _ => ?_, fun c => absurd rfl c⟩
      rintro _ rfl _ rfl
      refine ⟨fun _ => ?_, fun c => absurd rfl c⟩
      rintro _ rfl _ rfl
      refine ⟨fun _ => ?_, fun c => absurd rfl c⟩
      rintro _ rfl _ rfl _ rfl
      rw [up_def (σ := σ), up_upc, up_upc, up_upc, up_upc]
      refine cast (congrArg (fun f => Post (upc σ i f)) (e _ ?_).symm) h
      simp [h7, upd, upc]
  exact ⟨fun c => J 0 (by rw [if_neg c]), fun c => J 1 (by rw [if_pos c])⟩
theorem C_passOne {Post : St → Prop} {i : Nat} {σ : St} {a : Nat} (hi3 : i ≠ 3) (hi4 : i ≠ 4) (hw : wlOK (σ 3 4)) (ha : σ i 0 = nI a) (hb : a < 2 ^ 31) (h : Post (upc σ i (pc_ (passF (ppC σ) (pc_ (σ i)))))) : w_X4_passOne i σ Post := by
  unfold w_X4_passOne
  refine C_eastwardAt hw ha hb ?_
  intro σ3 e3 σ4 e4 σ5 e5 σ6 e6 σ7 e7
  have hE : (σ i 1) + (((σ i 5) * (σ 3 7)) + (ppC σ).2.2.2 (σ i 0)) = pE (ppC σ) (pc_ (σ i)) := rfl
  rw [hE] at e3
  have hN : (σ3 i 2) + (((σ3 i 6) * (σ3 3 7)) + (σ3 3 2)) = pN (ppC σ) (pc_ (σ i)) := by
    rw [e3]; simp [up_at, hi3.symm, pN, ppC, pc_, pi_]
  rw [hN] at e4
  have h0 : σ6 i 0 = σ i 0 := by rw [e6, e5, e4, e3]; simp [up_at]
  rw [h0] at e7
  have hmov : ∀ l : Int32, up σ7 i 3 l = upc σ i (upd (upd (upd (upd (upd (upd (σ i) 1 (pE (ppC σ) (pc_ (σ i)))) 2 (pN (ppC σ) (pc_ (σ i)))) 5 0) 6 0) 0 (σ i 0 + 1)) 3 l) := by
    intro l
    rw [e7, e6, e5, e4, e3, up_def (σ := σ), up_upc, up_upc, up_upc, up_upc, up_upc]
  have f1 : σ7 i 1 = pE (ppC σ) (pc_ (σ i)) := by rw [e7, e6, e5, e4, e3]; simp [up_at]
  have f2 : σ7 i 2 = pN (ppC σ) (pc_ (σ i)) := by rw [e7, e6, e5, e4]; simp [up_at]
  have f3 : σ7 3 3 = (ppC σ).2.1 := by rw [e7, e6, e5, e4, e3]; simp [up_at, hi3.symm, ppC]
  have J : ∀ l : Int32, l = (if (ppC σ).2.1 < sz32 (pE (ppC σ) (pc_ (σ i))) ∨ (ppC σ).2.1 < sz32 (pN (ppC σ) (pc_ (σ i))) then 1 else 0) → w_X4_passOne_J104 i Post l σ7 := by
    intro l hl
    refine ⟨by rw [hl]; split <;> simp, ?_⟩
    intro σ17 e17
    have e18 : σ17 = upc σ i (pc_ (movF (ppC σ) (pc_ (σ i)))) := by
      rw [e17, hmov, hl]
      simp only [movF, pc_upd, pc_pc]
      rfl
    have g5 : σ17 i = pc_ (movF (ppC σ) (pc_ (σ i))) := by rw [e18, upc_same]
    unfold passF at h
    rw [g5]
    refine ⟨fun c => ?_, fun c => ⟨fun d => ?_, fun d => C_gather ?_⟩⟩
    · rw [if_neg (fun q => c q.1)] at h; rw [e18]; exact h
    · rw [if_neg (fun q => d q.2)] at h; rw [e18]; exact h
    · rw [if_pos ⟨c, d⟩] at h; rw [g5, e18, upc_upc, pc_pc]; exact h
  intro x8 e8
  have hs : ∀ x : Int32, (if 0 ≤ x then x else 0 - x) = sz32 x := fun x => by unfold sz32; rw [Int32.zero_sub]
  rw [hs, f1] at e8
  rw [f3, e8]
  refine ⟨fun c => J 1 (by rw [if_pos (Or.inl c)]), fun c => ?_⟩
  intro x10 e10
  rw [hs, f2] at e10
  rw [e10]
  refine ⟨fun d => J 0 (by rw [if_neg (by rintro (q | q); exact c q; exact absurd q (Int32.not_lt.mpr d))]), fun d => J 1 (by rw [if_pos (Or.inr (Int32.not_le.mp d))])⟩
