/-! ===== pure: what is remembered, undone ===== -/
theorem modl {x n : Nat} (h : x < 2 ^ 31) (h0 : 0 < n) (hn : n < 2 ^ 31) : nI x - nI x / nI n * nI n = nI (x % n) := pk_rem h h0 hn
theorem C_slotAt {σ : St} {Post : Option Nat → St → Prop} {p : Int32} {n : Nat} (hp : p = nI n) (hn : n < 20) (h : Post (some (16 + n)) σ) : w_X1_slotAt p σ Post := by
  subst hp
  refine ⟨fun c => absurd c (nI_pos (by omega)), fun _ => ⟨fun c => absurd c (nI_ge hn (by decide)), fun _ => ⟨vp_in_nI hn (by decide), ?_⟩⟩⟩
  rw [nI_clamp (by omega)]
  exact h
theorem kd_night {n : Nat} (hn : n < 20) : SC.1 (16 + n) = .inr (.inl (4, flN)) := by
  have : n = 0 ∨ n = 1 ∨ n = 2 ∨ n = 3 ∨ n = 4 ∨ n = 5 ∨ n = 6 ∨ n = 7 ∨ n = 8 ∨ n = 9 ∨ n = 10 ∨ n = 11 ∨ n = 12 ∨ n = 13 ∨ n = 14 ∨ n = 15 ∨ n = 16 ∨ n = 17 ∨ n = 18 ∨ n = 19 := by omega
  rcases this with rfl | rfl | rfl | rfl | rfl | rfl | rfl | rfl | rfl | rfl | rfl | rfl | rfl | rfl | rfl | rfl | rfl | rfl | rfl | rfl <;> rfl
theorem C_push {σ : St} {Post : St → Prop} {cnt nx : Nat} (hc : cnt ≤ 20) (hn : nx < 20) (h0 : σ 14 0 = nI cnt) (h1 : σ 14 1 = nI nx) (h3 : σ 11 3 = 0 ∨ σ 11 3 = 1) (h4 : σ 11 4 = 0 ∨ σ 11 4 = 1)
    (h : ∀ f : Nat → Int32, (∀ k, k < 12 → f k = σ 11 k) → Post (upc (upc σ (16 + nx) f) 14 (upd (upd (σ 14) 1 (nI ((nx + 1) % 20))) 0 (nI (min (cnt + 1) 20))))) : w_X1_push σ Post := by
  refine C_slotAt h1 hn ?_
  refine ⟨fun c => absurd c (by simp), ?_⟩
  rintro _ ⟨⟩
  refine ⟨⟨kd_night hn, by show 16 + nx < 48; omega⟩, C_copyFrom (by omega) h3 h4 ?_⟩
  intro f hf
  rintro _ rfl _ rfl _ rfl
  have e14 : upc σ (16 + nx) f 14 = σ 14 := by rw [upc_at, if_neg (by omega)]
  have e1 : (nI nx + 1) - (nI nx + 1) / (20 : Int32) * (20 : Int32) = nI ((nx + 1) % 20) := by
    rw [nI_1]; exact modl (n := 20) (by omega) (by decide) (by decide)
  have e0 : up (upc σ (16 + nx) f) 14 1 (nI ((nx + 1) % 20)) 14 0 = nI cnt := by simp [up_at, e14, h0]
  have e2 : (if (20 : Int32) < (nI cnt + 1) then (20 : Int32) else (nI cnt + 1)) = nI (min (cnt + 1) 20) := by
    rw [nI_1]
    by_cases q : cnt = 20
    · subst q; rfl
    · rw [if_neg (show ¬ (20 : Int32) < nI (cnt + 1) from nI_nlt (a := 20) (b := cnt + 1) (by omega) (by decide)), Nat.min_eq_left (by omega)]
  rw [e14, h1, e1, e0, e2]
  rw [up_def (σ := upc σ (16 + nx) f), e14, up_upc]
  exact h f hf
theorem M_remember {σ : St} {Post : St → Prop} {cnt : Nat} (hc : cnt ≤ 20) (h0 : σ 0 31 = nI cnt)
    (h : ∀ (g : Nat → Int32), (∀ k, k < 12 → g (12 * (min (cnt + 1) 20 - 1) + k) = σ 4 k) → (∀ j, j + 1 < min (cnt + 1) 20 → ∀ k, k < 12 → g (12 * (min (cnt + 1) 20 - 1 - (j + 1)) + k) = σ 12 (12 * (cnt - 1 - j) + k)) → Post (upc (upc σ 12 g) 0 (upd (σ 0) 31 (nI (min (cnt + 1) 20))))) : w_X9_remember σ Post := by
  have J : ∀ (c2 : Nat) (τ : St), c2 < 20 → τ 0 31 = nI c2 → τ 4 = σ 4 → (∀ g : Nat → Int32, (∀ k, k < 12 → g (12 * c2 + k) = σ 4 k) → (∀ q, q < 12 * c2 → g q = τ 12 q) → Post (upc (upc τ 12 g) 0 (upd (τ 0) 31 (nI (c2 + 1))))) → w_X9_remember_J50 Post τ := by
    intro c2 τ hc2 hτ h4 hP
    refine up_loop (L := fun n k σ' => w_X9_remember_L52 Post n k σ') (N := 12) (I := fun k σ' => ∃ g : Nat → Int32, σ' = upc τ 12 g ∧ (∀ j, j < k → g (12 * c2 + j) = σ 4 j) ∧ ∀ q, q < 12 * c2 → g q = τ 12 q) ?_ ?_ 12 FU 0 τ rfl (by decide) ⟨τ 12, upc_self.symm, fun j hj => absurd hj (Nat.not_lt_zero j), fun _ _ => rfl⟩
    · rintro n _ ⟨g, rfl, h1, h2⟩
      refine ⟨fun _ => ?_, fun c => absurd (by decide) c⟩
      rintro _ rfl
      have e : upc τ 12 g 0 = τ 0 := by simp [upc_at]
      rw [up_def, e, hτ, nI_1]
      exact hP g h1 h2
    · rintro n k _ hk ⟨g, rfl, h1, h2⟩ K
      have e : upc τ 12 g 0 31 = nI c2 := by simp [upc_at, hτ]
      have ei : (12 : Int32) * nI c2 + nI k = nI (12 * c2 + k) := by
        rw [show (12 : Int32) = nI 12 from rfl, pk_mul, nI_add]
      refine ⟨fun c => absurd c (nI_ge (b := 12) hk (by decide)), fun _ => ⟨vin rfl hk, ?_, ?_⟩⟩
      · rw [e, ei]; exact vin rfl (by omega)
      · rintro _ rfl _ rfl
        rw [nI_1, e, ei, cl_nI (by omega), cl_nI (by omega), up_upc]
        refine K _ ⟨_, rfl, fun j hj => ?_, fun q hq => ?_⟩
        · rw [upd_at]
          by_cases e2 : j = k
          · rw [if_pos (by rw [e2]), e2, show upc τ 12 g 4 = τ 4 by simp [upc_at], h4]
          · rw [if_neg (by omega)]; exact h1 j (by omega)
        · rw [upd_at, if_neg (by omega)]; exact h2 q hq
  unfold w_X9_remember
  rw [h0]
  refine ⟨fun c => ?_, fun c => ?_⟩
  · have hlt : cnt < 20 := by
      rcases Nat.lt_or_ge cnt 20 with q | q
      · exact q
      · exact absurd (by rw [show cnt = 20 by omega]; rfl) c
    have em : min (cnt + 1) 20 = cnt + 1 := Nat.min_eq_left (by omega)
    rw [em] at h
    refine J cnt σ hlt h0 rfl (fun g h1 h2 => h g h1 (fun j hj k hk => ?_))
    rw [h2 _ (by omega), show cnt + 1 - 1 - (j + 1) = cnt - 1 - j by omega]
  · have hcnt : cnt = 20 := ((nI_eq (by omega) (by decide)).mp (show nI cnt = nI 20 from c))
    subst hcnt
    rw [show min (20 + 1) 20 = 20 from rfl] at h
    refine up_loop (L := fun n k σ' => w_X9_remember_L12 Post n k σ') (N := 240) (I := fun k σ' => 12 ≤ k ∧ ∃ g : Nat → Int32, σ' = upc σ 12 g ∧ (∀ q, q + 12 < k → g q = σ 12 (q + 12)) ∧ ∀ q, k ≤ q + 12 → g q = σ 12 q) ?_ ?_ 228 FU 12 σ rfl (by decide) ⟨Nat.le_refl 12, σ 12, upc_self.symm, fun q hq => by omega, fun _ _ => rfl⟩
    · rintro n _ ⟨-, g, rfl, h1, -⟩
      refine ⟨fun _ => ?_, fun c => absurd (by decide) c⟩
      rintro _ rfl
      have e0 : upc σ 12 g 0 31 = nI 20 := by simp [upc_at, h0]
      have e00 : upc σ 12 g 0 = σ 0 := by simp [upc_at]
      refine J 19 _ (by decide) ?_ (by rw [up_ne (by decide)]; rfl) ?_
      · rw [e0]; simp [up_at]; rfl
      · intro g2 h3 h4
        have q1 : upc (upc (up (upc σ 12 g) 0 31 (upc σ 12 g 0 31 - 1)) 12 g2) 0 (upd (up (upc σ 12 g) 0 31 (upc σ 12 g 0 31 - 1) 0) 31 (nI (19 + 1))) = upc (upc σ 12 g2) 0 (upd (σ 0) 31 (nI 20)) := by
          rw [up_eq, upd_upd, up_def, e00, upc_comm (by decide : (0 : Nat) ≠ 12), upc_upc, upc_upc]
        rw [q1]
        refine h g2 h3 (fun j hj k hk => ?_)
        rw [h4 _ (by omega)]
        have q2 : up (upc σ 12 g) 0 31 (upc σ 12 g 0 31 - 1) 12 = g := by rw [up_ne (by decide), upc_same]
        rw [q2, h1 _ (by omega)]
        congr 1
        omega
    · rintro n k _ hk ⟨h12, g, rfl, h1, h2⟩ K
      have es : nI k - (12 : Int32) = nI (k - 12) := pk_sub (b := 12) (a := k) h12
      refine ⟨fun c => absurd c (nI_ge (b := 240) hk (by decide)), fun _ => ⟨vin rfl hk, ?_, ?_⟩⟩
      · rw [es]; exact vin rfl (by omega)
      · rintro _ rfl _ rfl
        rw [nI_1, es, cl_nI (by omega), cl_nI (by omega), upc_same, up_upc]
        refine K _ ⟨by omega, _, rfl, fun q hq => ?_, fun q hq => ?_⟩
        · rw [upd_at]
          by_cases e2 : q = k - 12
          · rw [if_pos e2, e2, show k - 12 + 12 = k by omega]
            exact h2 k (by omega)
          · rw [if_neg e2]; exact h1 q (by omega)
        · rw [upd_at, if_neg (by omega)]; exact h2 q (by omega)
/-- both remember: the relation of what can be undone -/
theorem RHi_push {c m : St} {cnt nx : Nat} {f g : Nat → Int32} (hc : cnt ≤ 20) (hn : nx < 20) (h0 : c 14 0 = nI cnt) (h1 : c 14 1 = nI nx) (h31 : m 0 31 = nI cnt) (hall : ∀ j, j < cnt → RN (c (16 + (nx + 19 - j) % 20)) (fun k => m 12 (12 * (cnt - 1 - j) + k))) (hN : RN (c 11) (m 4))
    (hf : ∀ k, k < 12 → f k = c 11 k) (hg1 : ∀ k, k < 12 → g (12 * (min (cnt + 1) 20 - 1) + k) = m 4 k) (hg2 : ∀ j, j + 1 < min (cnt + 1) 20 → ∀ k, k < 12 → g (12 * (min (cnt + 1) 20 - 1 - (j + 1)) + k) = m 12 (12 * (cnt - 1 - j) + k)) :
    RHi (upc (upc c (16 + nx) f) 14 (upd (upd (c 14) 1 (nI ((nx + 1) % 20))) 0 (nI (min (cnt + 1) 20)))) (upc (upc m 12 g) 0 (upd (m 0) 31 (nI (min (cnt + 1) 20)))) := by
  refine ⟨min (cnt + 1) 20, (nx + 1) % 20, Nat.min_le_right _ _, Nat.mod_lt _ (by decide), by rw [upc_same]; simp [upd], by rw [upc_same]; simp [upd], by rw [upc_same]; simp [upd], fun j hj => ?_⟩
  have e12 : ∀ z, upc (upc m 12 g) 0 z 12 = g := fun z => by simp [upc_at]
  rw [e12]
  cases j with
  | zero =>
    have q : 16 + ((nx + 1) % 20 + 19 - 0) % 20 = 16 + nx := by omega
    rw [q, upc_at, if_neg (by omega), upc_same]
    exact hN.eq12 hf (fun k hk => hg1 k hk)
  | succ j =>
    have q : ((nx + 1) % 20 + 19 - (j + 1)) % 20 = (nx + 19 - j) % 20 := by omega
    have q2 : (nx + 19 - j) % 20 ≠ nx := by omega
    rw [q, upc_at, if_neg (by omega), upc_at, if_neg (by omega)]
    exact (hall j (by omega)).eq12 (fun _ _ => rfl) (fun k hk => hg2 j hj k hk)
/-! tests -/
theorem isW (p lo hi : Int32) (σ : St) (K : Int32 → St → Prop) : w_X8_isWithin p lo hi σ K ↔ K (if lo ≤ p ∧ p ≤ hi then 1 else 0) σ := by
  unfold w_X8_isWithin
  by_cases h1 : lo ≤ p
  · by_cases h2 : p ≤ hi
    · rw [if_pos ⟨h1, h2⟩]
      exact ⟨fun h => (h.2 (Int32.not_lt.mpr h1)).2 (Int32.not_lt.mpr h2), fun h => ⟨fun c => absurd c (Int32.not_lt.mpr h1), fun _ => ⟨fun c => absurd c (Int32.not_lt.mpr h2), fun _ => h⟩⟩⟩
    · rw [if_neg (fun q => h2 q.2)]
      exact ⟨fun h => (h.2 (Int32.not_lt.mpr h1)).1 (Int32.not_le.mp h2), fun h => ⟨fun c => absurd c (Int32.not_lt.mpr h1), fun _ => ⟨fun _ => h, fun c => absurd (Int32.not_le.mp h2) c⟩⟩⟩
  · rw [if_neg (fun q => h1 q.1)]
    exact ⟨fun h => h.1 (Int32.not_le.mp h1), fun h => ⟨fun _ => h, fun c => absurd (Int32.not_le.mp h1) c⟩⟩
theorem inL (p lo hi : Int64) (σ : St) (K : Int32 → St → Prop) : w_X9_in p lo hi σ K ↔ K (if lo ≤ p ∧ p ≤ hi then 1 else 0) σ := by
  unfold w_X9_in
  rw [lg_cmp_lt, lg_cmp_gt]
  by_cases h1 : lo ≤ p
  · by_cases h2 : p ≤ hi
    · rw [if_pos ⟨h1, h2⟩]
      exact ⟨fun h => (h.2 (Int64.not_lt.mpr h1)).2 (Int64.not_lt.mpr h2), fun h => ⟨fun c => absurd c (Int64.not_lt.mpr h1), fun _ => ⟨fun c => absurd c (Int64.not_lt.mpr h2), fun _ => h⟩⟩⟩
    · rw [if_neg (fun q => h2 q.2)]
      exact ⟨fun h => (h.2 (Int64.not_lt.mpr h1)).1 (Int64.not_le.mp h2), fun h => ⟨fun c => absurd c (Int64.not_lt.mpr h1), fun _ => ⟨fun _ => h, fun c => absurd (Int64.not_le.mp h2) c⟩⟩⟩
  · rw [if_neg (fun q => h1 q.1)]
    exact ⟨fun h => h.1 (Int64.not_le.mp h1), fun h => ⟨fun _ => h, fun c => absurd (Int64.not_le.mp h1) c⟩⟩
theorem inM (p lo hi : Int32) (σ : St) (K : Int32 → St → Prop) : w_X9_in p.toInt64 lo.toInt64 hi.toInt64 σ K ↔ K (if lo ≤ p ∧ p ≤ hi then 1 else 0) σ := by
  rw [inL]
  have e : ∀ x y : Int32, x.toInt64 ≤ y.toInt64 ↔ x ≤ y := fun x y => by rw [Int64.le_iff_toInt_le, Int32.le_iff_toInt_le, Int32.toInt_toInt64, Int32.toInt_toInt64]
  simp only [e]
theorem ready_iff (σ : St) (K : Int32 → St → Prop) : w_X9_isReady σ K ↔ K (if ¬ σ 0 0 = 0 ∧ σ 4 5 = 0 then 1 else 0) σ := by
  unfold w_X9_isReady
  by_cases h1 : σ 0 0 = 0 <;> by_cases h2 : σ 4 5 = 0 <;> simp [h1, h2]
theorem cannot_iff (σ : St) (K : Int32 → St → Prop) : w_X8_cannotGoOn σ K ↔ K (if ¬ σ 3 0 = 0 ∧ σ 11 3 = 0 then 0 else 1) σ := by
  unfold w_X8_cannotGoOn
  by_cases h1 : σ 3 0 = 0 <;> by_cases h2 : σ 11 3 = 0 <;> simp [h1, h2]
def refV (p : Int32) (ok : Bool) (t : Int32) : Int32 := if 1 ≤ p ∧ p ≤ 99 then (if ok = true then (if t ≤ 9000 then 0 else -1000000004) else -1000000003) else -1000000002
theorem refM (p : Int32) (σ : St) (K : Int32 → St → Prop) : w_X9_minutesRefused p σ K ↔ K (refV p (decide (¬ σ 0 0 = 0 ∧ σ 4 5 = 0)) (σ 4 0)) σ := by
  unfold w_X9_minutesRefused refV
  rw [show (1 : Int64) = (1 : Int32).toInt64 from rfl, show (99 : Int64) = (99 : Int32).toInt64 from rfl, inM]
  by_cases h1 : 1 ≤ p ∧ p ≤ 99
  · rw [if_pos h1, if_pos h1, ready_iff]
    by_cases h2 : ¬ σ 0 0 = 0 ∧ σ 4 5 = 0
    · rw [if_pos h2, decide_eq_true h2, if_pos rfl]
      by_cases h3 : σ 4 0 ≤ 9000
      · rw [if_pos h3]; simp [h3]
      · rw [if_neg h3]; simp [h3]
    · rw [if_neg h2, decide_eq_false h2]; simp
  · rw [if_neg h1, if_neg h1]; simp
theorem refC (p : Int32) (σ : St) (K : Int32 → St → Prop) : w_X8_refusalOfMinutes p σ K ↔ K (refV p (decide (¬ σ 3 0 = 0 ∧ σ 11 3 = 0)) (σ 11 0)) σ := by
  unfold w_X8_refusalOfMinutes refV
  rw [isW]
  by_cases h1 : 1 ≤ p ∧ p ≤ 99
  · rw [if_pos h1, if_pos h1, cannot_iff]
    by_cases h2 : ¬ σ 3 0 = 0 ∧ σ 11 3 = 0
    · rw [if_pos h2, decide_eq_true h2, if_pos rfl]
      by_cases h3 : σ 11 0 ≤ 9000
      · rw [if_pos h3]; simp [h3]
      · rw [if_neg h3]; simp [h3]
    · rw [if_neg h2, decide_eq_false h2]; simp
  · rw [if_neg h1, if_neg h1]; simp
theorem R.mt {c m : St} (h : R c m) : c 3 0 = m 0 0 := h.1.1.1
theorem R.lost {c m : St} (h : R c m) : c 11 3 = m 4 5 := h.2.1.1.1 5 (by decide)
theorem R.shutv {c m : St} (h : R c m) : c 11 4 = m 4 6 := h.2.1.1.1 6 (by decide)
theorem R.mins {c m : St} (h : R c m) : c 11 0 = m 4 0 := h.2.1.1.1 0 (by decide)
theorem R.east {c m : St} (h : R c m) : c 11 1 = m 4 1 := h.2.1.1.1 1 (by decide)
theorem R.north {c m : St} (h : R c m) : c 11 2 = m 4 2 := h.2.1.1.1 2 (by decide)
theorem R.light {c m : St} (h : R c m) : c 11 7 = m 4 7 := h.2.1.1.1 7 (by decide)
theorem R.wlC {c m : St} (h : R c m) : wlOK (c 3 4) := by rw [h.1.2.2.1.1]; exact h.1.2.2.1.2
theorem R.wlM {c m : St} (h : R c m) : wlOK (m 0 4) := h.1.2.2.1.2
theorem R.prC {c m : St} (h : R c m) : prOK (c 3 7) := by rw [h.1.2.2.2.2.1.1]; exact h.1.2.2.2.2.1.2
theorem R.prM {c m : St} (h : R c m) : prOK (m 0 8) := h.1.2.2.2.2.1.2
