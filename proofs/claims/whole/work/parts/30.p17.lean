/-! ===== pure: the worm's rates; a clause ===== -/
def CW (c c' : St) : Prop := (∀ k, k ≠ 3 → c' 1 k = c 1 k) ∧ (∀ k, k ≠ 4 → c' 7 k = c 7 k) ∧ ∀ j, j ≠ 1 → j ≠ 7 → j ≠ 8 → c' j = c j
def MW (m m' : St) : Prop := (∀ j, j ≠ 0 → j ≠ 7 → m' j = m j) ∧ ∀ k, (k < 16 ∨ 19 < k) → k ≠ 22 → m' 0 k = m 0 k
theorem CW.trans {a b c : St} (h1 : CW a b) (h2 : CW b c) : CW a c := ⟨fun k x => (h2.1 k x).trans (h1.1 k x), fun k x => (h2.2.1 k x).trans (h1.2.1 k x), fun j x y z => (h2.2.2 j x y z).trans (h1.2.2 j x y z)⟩
theorem MW.trans {a b c : St} (h1 : MW a b) (h2 : MW b c) : MW a c := ⟨fun j x y => (h2.1 j x y).trans (h1.1 j x y), fun k x y => (h2.2 k x y).trans (h1.2 k x y)⟩
theorem CW.cf {c c' : St} (h : CW c c') : CF c c' := ⟨h.1 0 (by decide), fun j h1 h7 h8 _ _ => h.2.2 j h1 h7 h8⟩
theorem MW.fr {m m' : St} (h : MW m m') : MFr m m' := ⟨fun j h0 h1 => h.1 j h0 (by omega), fun k hk => h.2 k (by omega) (by omega)⟩
theorem CW.rfl' {c : St} : CW c c := ⟨fun _ _ => rfl, fun _ _ => rfl, fun _ _ _ _ => rfl⟩
theorem MW.rfl' {c : St} : MW c c := ⟨fun _ _ _ => rfl, fun _ _ _ => rfl⟩
theorem CW.at' {c c' : St} (h : CW c c') (x : Int32) : CW c (up c' 1 3 x) := h.trans ⟨fun k hk => by rw [up_at, if_neg (fun z => hk z.2)], fun k hk => by rw [up_ne (by decide)], fun j h1 _ _ => up_ne h1⟩
theorem CW.set' {c c' : St} (h : CW c c') (w : Nat) (x y : Int32) : CW c (up (up c' 8 w x) 7 4 y) := h.trans ⟨fun k hk => by rw [up_ne (by decide), up_ne (by decide)], fun k hk => by rw [up_at, if_neg (fun z => hk z.2), up_ne (by decide)], fun j h1 h7 h8 => by rw [up_ne h7, up_ne h8]⟩
theorem MW.up' {c c' : St} (h : MW c c') {k : Nat} (x : Int32) (hk : k = 16 ∨ k = 17 ∨ k = 22) : MW c (up c' 0 k x) := h.trans ⟨fun j h0 _ => up_ne h0, fun i h1 h2 => by rw [up_at, if_neg (by omega)]⟩
theorem C_tk {p : Int32} {c m : St} {n a : Nat} {Post : Int32 → St → Prop} (hT : VT c m n) (h3 : c 1 3 = nI a) (ha : a ≤ n) (h1 : ltF (m 5) n (skF (m 5) (n - a) a) = p → Post 1 (up c 1 3 (nI (skF (m 5) (n - a) a + 1)))) (h2 : ¬ ltF (m 5) n (skF (m 5) (n - a) a) = p → Post 0 (up c 1 3 (nI (skF (m 5) (n - a) a)))) : w_X6_takes p c Post := by
  have hs := skF_le (m 5) (n - a) a
  refine C_skip hT h3 ha (C_lt (hT.congr (by simp [up_at]) (by simp [up_ne]) rfl rfl) (a := skF (m 5) (n - a) a) (by simp [up_at]) (by omega) ⟨fun q => ?_, fun q => h2 q⟩)
  rintro _ rfl
  rw [up_up, show up c 1 3 (nI (skF (m 5) (n - a) a)) 1 3 = nI (skF (m 5) (n - a) a) by simp [up_at], nI_1]
  exact h1 q
theorem sk_idem {L : Nat → Int32} {n a : Nat} (ha : a ≤ n) : skF L (n - skF L (n - a) a) (skF L (n - a) a) = skF L (n - a) a := by
  have hs := skF_le L (n - a) a
  exact skF_id (n := n) (by omega) (skF_32 L (n - a) a n (by omega))
def WK (c m : St) (w : Nat) : Prop := c 7 4 = nI w ∧ m 0 22 = nI w ∧ ∀ k, k < w → ∃ x : Nat, x ≤ 18 ∧ m 7 k = nI x ∧ c 8 k = nI x - 9
theorem le18 {x : Nat} (hx : x ≤ 999) (q : nI x ≤ 18) : x ≤ 18 := by
  rw [Int32.le_iff_toInt_le, nI_toInt (by omega), show (18 : Int32).toInt = 18 by decide] at q; omega
theorem WK.next {c m m1 : St} {w v : Nat} {e : Int32} (hK : ∀ k, k < w → ∃ x : Nat, x ≤ 18 ∧ m 7 k = nI x ∧ c 8 k = nI x - 9) (hv : v ≤ 18) (hm : m1 7 = upd (m 7) w (nI v)) : WK (up (up (up c 1 3 e) 8 w (nI v - 9)) 7 4 (nI (w + 1))) (up m1 0 22 (nI (w + 1))) (w + 1) := by
  refine ⟨by simp [up_at], by simp [up_at], fun k hk => ?_⟩
  rw [up_ne (by decide), hm, up_ne (by decide), up_eq, up_ne (by decide)]
  by_cases z : k = w
  · subst z; exact ⟨v, hv, by simp [upd], by simp [upd]⟩
  · obtain ⟨x, x1, x2, x3⟩ := hK k (by omega)
    exact ⟨x, x1, by simp [upd, z, x2], by simp [upd, z, x3]⟩
theorem W_loop {n : Nat} : ∀ (j f1 f2 w a : Nat) (c m : St), w + j = 9 → 1 ≤ w → j < f1 → j + 1 < f2 → VT c m n → VA c m n a → WK c m w → ∃ (c' : St) (q : Int32) (m' : St),
    (∀ Post : St → Prop, Post c' → w_X6_readWorm_L7 Post f1 (nI w) c) ∧ (∀ Post : Int32 → St → Prop, Post q m' → w_X9_takeWorm_L18 Post f2 0 m) ∧
    ((q = 0 ∧ CW c c' ∧ MW m m' ∧ (∃ b e : Nat, a ≤ b ∧ VA2 c' m' n b e) ∧ (∃ w' : Nat, 1 ≤ w' ∧ w' ≤ 9 ∧ WK c' m' w') ∧ m' 0 16 = m 0 16) ∨
     ((q = 1 ∨ q = 2) ∧ ¬ q ≤ 0 ∧ ¬ c' 1 1 = 0 ∧ c' 1 1 = q ∧ c' 1 2 = m' 0 16 ∧ CF c c' ∧ MFr m m') ∨
     (q = 1 ∧ CW c c' ∧ MW m m' ∧ c' 1 1 = 0 ∧ ∃ b : Nat, b ≤ n ∧ c' 1 3 = nI b ∧ ¬ ltF (m 5) n (skF (m 5) (n - b) b) = 59 ∧ m' 0 16 = nI (skF (m 5) (n - b) b))) := by
  intro j
  induction j with
  | zero =>
    intro f1 f2 w a c m h1 hw1 h2 h3 hT hA hK
    obtain ⟨g1, rfl⟩ : ∃ z, f1 = z + 1 := ⟨f1 - 1, by omega⟩
    obtain ⟨g2, rfl⟩ : ∃ z, f2 = z + 1 := ⟨f2 - 1, by omega⟩
    obtain rfl : w = 9 := by omega
    have ha4 := hA.2.2.2
    have hs := skF_le (m 5) (n - a) a
    have h22 : m 0 22 = 9 := hK.2.1
    by_cases h44 : ltF (m 5) n (skF (m 5) (n - a) a) = 44
    · refine ⟨c, 1, up (up m 0 17 (nI (skF (m 5) (n - a) a))) 0 16 (nI (skF (m 5) (n - a) a)), fun Post hP => ⟨fun q => absurd q (by decide), fun _ => ⟨fun _ => hP, fun q => absurd (by decide) q⟩⟩, fun Post hP => ⟨fun q => absurd rfl q, fun _ => M_here hT hA.2.2.1 hA.2.2.2 ⟨fun q => absurd h44 q, fun _ => ⟨fun q => absurd (by rw [up_at, if_neg (by decide)]; exact h22) q, fun _ => ?_⟩⟩⟩, Or.inr (Or.inr ⟨rfl, CW.rfl', (MW.rfl'.up' _ (Or.inr (Or.inl rfl))).up' _ (Or.inl rfl), hA.1, a, hA.2.2.2, hA.2.1, by rw [h44]; decide, by simp [up_at]⟩)⟩
      rintro _ rfl
      rw [show up m 0 17 (nI (skF (m 5) (n - a) a)) 0 17 = nI (skF (m 5) (n - a) a) by simp [up_at]]
      exact hP
    · refine ⟨c, 0, up m 0 17 (nI (skF (m 5) (n - a) a)), fun Post hP => ⟨fun q => absurd q (by decide), fun _ => ⟨fun _ => hP, fun q => absurd (by decide) q⟩⟩, fun Post hP => ⟨fun q => absurd rfl q, fun _ => M_here hT hA.2.2.1 hA.2.2.2 ⟨fun _ => hP, fun q => absurd q h44⟩⟩, Or.inl ⟨rfl, CW.rfl', MW.rfl'.up' _ (Or.inr (Or.inl rfl)), ⟨a, skF (m 5) (n - a) a, Nat.le_refl _, hA.1, hA.2.1, by simp [up_at], hA.2.2.2, by omega, ?_⟩, ⟨9, by decide, by decide, hK.1, by rw [up_at, if_neg (by decide)]; exact hK.2.1, fun k hk => by rw [up_ne (by decide)]; exact hK.2.2 k hk⟩, by rw [up_at, if_neg (by decide)]⟩⟩
      rw [up_ne (by decide)]
      exact (sk_idem hA.2.2.2).symm
  | succ j ih =>
    intro f1 f2 w a c m h1 hw1 h2 h3 hT hA hK
    obtain ⟨g1, rfl⟩ : ∃ z, f1 = z + 1 := ⟨f1 - 1, by omega⟩
    obtain ⟨g2, rfl⟩ : ∃ z, f2 = z + 1 := ⟨f2 - 1, by omega⟩
    have ha4 := hA.2.2.2
    have hs := skF_le (m 5) (n - a) a
    have hn := hT.2.2.1
    have hne : ¬ nI w = 0 := nI_ne0 (by omega) (by omega)
    have h9 : ¬ (9 : Int32) ≤ nI w := nI_ge (a := w) (b := 9) (by omega) (by decide)
    have h22 : ¬ m 0 22 = 9 := by
      rw [hK.2.1]; exact fun z => absurd (nI_inj (a := w) (b := 9) (by omega) (by decide) z) (by omega)
    by_cases h44 : ltF (m 5) n (skF (m 5) (n - a) a) = 44
    · have hsn : skF (m 5) (n - a) a < n := by
        refine Nat.lt_of_not_le (fun z => ?_)
        unfold ltF at h44
        rw [if_neg (by omega)] at h44
        exact absurd h44 (by decide)
      generalize es : skF (m 5) (n - a) a = s at hs h44 hsn
      have T1 : VT (up c 1 3 (nI (s + 1))) (up m 0 17 (nI (s + 1))) n := hT.congr (by simp [up_at]) (by simp [up_ne]) (by simp [up_at]) (by simp [up_ne])
      obtain ⟨r, c1, q, m1, e1, e2, e3⟩ := J_into 0 18 (n := n) (a := s + 1) (a1 := 7) (L1 := 9) (k := w) T1 ⟨by simp [up_at]; exact hA.1, by simp [up_at], by simp [up_at], by omega⟩ (by decide) (by omega) (by decide)
      have hC : ∀ Post : St → Prop, w_X6_readWorm_L7 Post g1 (nI (w + 1)) (up (up c1 8 w (r - 9)) 7 4 (nI (w + 1))) → w_X6_readWorm_L7 Post (g1 + 1) (nI w) c := by
        intro Post hP
        refine ⟨fun q => absurd q hne, fun _ => ⟨fun q => absurd q h9, fun _ => C_tk hT hA.2.1 hA.2.2.2 (fun _ => ⟨fun q => absurd q (by decide), fun _ => ?_⟩) (fun q => absurd (by rw [es]; exact h44) q)⟩⟩
        rw [es]
        refine e1 _ (C_sw (by omega) ?_)
        rintro _ rfl
        rw [nI_1]; exact hP
      have hM : ∀ Post : Int32 → St → Prop, w_X9_takeWorm_L18 Post g2 q (up m1 0 22 (m1 0 22 + 1)) → w_X9_takeWorm_L18 Post (g2 + 1) 0 m := by
        intro Post hP
        refine ⟨fun q => absurd rfl q, fun _ => M_here hT hA.2.2.1 hA.2.2.2 ⟨fun q => absurd (by rw [es]; exact h44) q, fun _ => ⟨fun _ => ?_, fun q => absurd (by rw [up_at, if_neg (by decide)] at q; exact q) h22⟩⟩⟩
        rw [es]
        rintro _ rfl
        rw [show up m 0 17 (nI s) 0 17 = nI s by simp [up_at], up_up, nI_1, show up m 0 17 (nI (s + 1)) 0 22 = nI w by rw [up_at, if_neg (by decide)]; exact hK.2.1]
        refine e2 _ ?_
        rintro _ rfl
        exact hP
      rcases e3 with ⟨q0, v, e, rfl, v1, v2, v3, v4, v5, rfl, m17, ma, mj, m0, m16⟩ | ⟨q1, q2, q3, q4, q5, q6, q7⟩
      · subst q0
        rw [up_ne (by decide)] at ma
        have e22 : m1 0 22 = nI w := (m0 22 (by decide)).trans (by rw [up_at, if_neg (by decide)]; exact hK.2.1)
        rw [e22, nI_1] at hM
        rw [up_up] at hC
        have K2 : WK (up (up (up c 1 3 (nI e)) 8 w (nI v - 9)) 7 4 (nI (w + 1))) (up m1 0 22 (nI (w + 1))) (w + 1) := WK.next hK.2.2 (le18 v1 v3) ma
        have F1 : CW c (up (up (up c 1 3 (nI e)) 8 w (nI v - 9)) 7 4 (nI (w + 1))) := (CW.rfl'.at' _).set' _ _ _
        have F2 : MW m (up m1 0 22 (nI (w + 1))) := MW.up' ⟨fun j h0 h7 => (mj j h0 h7).trans (up_ne h0), fun k h1 h2 => (m0 k h1).trans (by rw [up_at, if_neg (by omega)])⟩ _ (Or.inr (Or.inr rfl))
        obtain ⟨c', q', m', k1, k2, k3⟩ := ih g1 g2 (w + 1) e _ _ (by omega) (by omega) (by omega) (by omega) (hT.fr F1.cf F2.fr) ⟨by simp [up_at]; exact hA.1, by simp [up_at], by rw [up_at, if_neg (by decide)]; exact m17, v4⟩ K2
        refine ⟨c', q', m', fun Post hP => hC Post (k1 Post hP), fun Post hP => hM Post (k2 Post hP), ?_⟩
        rcases k3 with ⟨y1, y2, y3, ⟨b, z, y4, y5⟩, y6, y16⟩ | ⟨y1, y2, y3, y4, y5, y6, y7⟩ | ⟨y1, y2, y3, y4, b, y5, y6, y7, y8⟩
        · exact Or.inl ⟨y1, F1.trans y2, F2.trans y3, ⟨b, z, by omega, y5⟩, y6, y16.trans ((by rw [up_at, if_neg (by decide)] : up m1 0 22 (nI (w + 1)) 0 16 = m1 0 16).trans (m16.trans (by rw [up_at, if_neg (by decide)])))⟩
        · exact Or.inr (Or.inl ⟨y1, y2, y3, y4, y5, F1.cf.trans y6, F2.fr.trans y7⟩)
        · rw [F2.1 5 (by decide) (by decide)] at y7 y8
          exact Or.inr (Or.inr ⟨y1, F1.trans y2, F2.trans y3, y4, b, y5, y6, y7, y8⟩)
      · obtain ⟨c', k1, k2⟩ := S_wl j g1 (w + 1) (up (up c1 8 w (r - 9)) 7 4 (nI (w + 1))) (by rw [up_ne (by decide), up_ne (by decide)]; exact q3) (by omega) (by omega)
        have hq : ¬ q = 0 := fun z => q2 (by rw [z]; exact Int32.le_refl 0)
        obtain ⟨g3, rfl⟩ : ∃ z, g2 = z + 1 := ⟨g2 - 1, by omega⟩
        refine ⟨c', q, up m1 0 22 (m1 0 22 + 1), fun Post hP => hC Post (k2 Post hP), fun Post hP => hM Post ⟨fun _ => hP, fun z => absurd z hq⟩, Or.inr (Or.inl ⟨q1, q2, k1.ne (by rw [up_ne (by decide), up_ne (by decide)]; exact q3), ?_, ?_, ?_, ?_⟩)⟩
        · rw [k1.1 1 (by decide) (by decide) (by decide) (by decide), up_ne (by decide), up_ne (by decide)]; exact q4
        · rw [k1.1 2 (by decide) (by decide) (by decide) (by decide), up_ne (by decide), up_ne (by decide), up_at, if_neg (by decide)]; exact q5
        · exact ((((CF.rfl'.up (Or.inl ⟨rfl, by decide⟩)).trans q6).up (Or.inr (Or.inr (Or.inl rfl)))).up (Or.inr (Or.inl rfl))).trans k1.cf
        · exact ((MFr.rfl'.up (Or.inl ⟨rfl, by decide, by decide⟩)).trans q7).up (Or.inl ⟨rfl, by decide, by decide⟩)
    · refine ⟨up c 1 3 (nI (skF (m 5) (n - a) a)), 0, up m 0 17 (nI (skF (m 5) (n - a) a)), fun Post hP => ⟨fun q => absurd q hne, fun _ => ⟨fun q => absurd q h9, fun _ => C_tk hT hA.2.1 hA.2.2.2 (fun q => absurd q h44) (fun _ => ⟨fun _ => hP, fun q => absurd rfl q⟩)⟩⟩, fun Post hP => ⟨fun q => absurd rfl q, fun _ => M_here hT hA.2.2.1 hA.2.2.2 ⟨fun _ => hP, fun q => absurd q h44⟩⟩, Or.inl ⟨rfl, CW.rfl'.at' _, MW.rfl'.up' _ (Or.inr (Or.inl rfl)), ⟨skF (m 5) (n - a) a, skF (m 5) (n - a) a, hs.1, by simp [up_at]; exact hA.1, by simp [up_at], by simp [up_at], by omega, by omega, rfl⟩, ⟨w, by omega, by omega, by rw [up_ne (by decide)]; exact hK.1, by rw [up_at, if_neg (by decide)]; exact hK.2.1, fun k hk => by rw [up_ne (by decide), up_ne (by decide)]; exact hK.2.2 k hk⟩, by rw [up_at, if_neg (by decide)]⟩⟩
theorem J_worm {c m : St} {n a : Nat} (hA : VA c m n a) (h : V0 c m n) : ∃ (c' : St) (q : Int32) (m' : St), (∀ Post : St → Prop, Post c' → w_X6_readWorm c Post) ∧ (∀ Post : Int32 → St → Prop, Post q m' → w_X9_takeWorm m Post) ∧ Bd n a c m c' q m' := by
  obtain ⟨hT, hR, hW, hJ, hP, hS, hF⟩ := h
  obtain ⟨r, c1, q, m1, e1, e2, e3⟩ := J_into 0 18 (c := up c 1 4 1) (m := m) (n := n) (a := a) (a1 := 7) (L1 := 9) (k := 0) (hT.congr (by simp [up_at]) (by simp [up_ne]) rfl rfl) (hA.congr (by simp [up_at]) (by simp [up_at]) rfl) (by decide) (by decide) (by decide)
  have hC : ∀ Post : St → Prop, w_X6_readWorm_L7 Post 1099 (nI 1) (up (up c1 8 0 (r - 9)) 7 4 (nI (0 + 1))) → w_X6_readWorm c Post := by
    intro Post hQ
    rintro _ rfl
    refine ⟨fun _ => e1 _ (C_sw (by decide) ?_), fun q => absurd rfl q⟩
    rintro _ rfl
    exact hQ
  have hM : ∀ Post : Int32 → St → Prop, w_X9_takeWorm_L18 Post FU q (up m1 0 22 1) → w_X9_takeWorm m Post := by
    intro Post hQ
    refine e2 _ ?_
    rintro _ rfl
    exact hQ
  rcases e3 with ⟨q0, v, e, rfl, v1, v2, v3, v4, v5, rfl, m17, ma, mj, m0, m16⟩ | ⟨q1, q2, q3, q4, q5, q6, q7⟩
  · subst q0
    have K2 : WK (up (up (up (up c 1 4 1) 1 3 (nI e)) 8 0 (nI v - 9)) 7 4 (nI (0 + 1))) (up m1 0 22 (nI (0 + 1))) (0 + 1) := WK.next (m := m) (fun k hk => absurd hk (Nat.not_lt_zero k)) (le18 v1 v3) ma
    have F1 : CF c (up (up (up (up c 1 4 1) 1 3 (nI e)) 8 0 (nI v - 9)) 7 4 (nI (0 + 1))) := (((CF.rfl'.up (Or.inl ⟨rfl, by decide⟩)).up (Or.inl ⟨rfl, by decide⟩)).up (Or.inr (Or.inr (Or.inl rfl)))).up (Or.inr (Or.inl rfl))
    have F2 : MW m (up m1 0 22 (nI (0 + 1))) := MW.up' ⟨fun j h0 h7 => mj j h0 h7, fun k h1 h2 => m0 k h1⟩ _ (Or.inr (Or.inr rfl))
    obtain ⟨c', q', m', k1, k2, k3⟩ := W_loop (n := n) 8 1099 FU 1 e _ _ rfl (by decide) (by decide) (by decide) (hT.fr F1 F2.fr) ⟨by simp [up_at]; exact hA.1, by simp [up_at], by rw [up_at, if_neg (by decide)]; exact m17, v4⟩ K2
    refine ⟨c', q', m', fun Post hQ => hC Post (k1 Post hQ), fun Post hQ => hM Post (k2 Post hQ), ?_⟩
    rcases k3 with ⟨y1, y2, y3, ⟨b, z, y4, y5⟩, ⟨w', y6, y7, y8⟩, y16⟩ | ⟨y1, y2, y3, y4, y5, y6, y7⟩ | ⟨y1, y2, y3, y4, b, y5, y6, y7, y8⟩
    · have G := F2.trans y3
      refine ⟨F1.trans y2.cf, G.fr, Or.inl ⟨y1, b, z, by omega, y5, hT.fr (F1.trans y2.cf) G.fr, ?_, ?_, ?_, ?_, ?_, (y2.1 2 (by decide)).trans (by simp [up_at]; exact hF.1), y16.trans ((by rw [up_at, if_neg (by decide)] : up m1 0 22 (nI (0 + 1)) 0 16 = m1 0 16).trans (m16.trans hF.2))⟩⟩
      · exact hR.congr ((y2.2.1 0 (by decide)).trans (by simp [up_at])) ((y2.2.1 1 (by decide)).trans (by simp [up_at])) ((y2.2.1 2 (by decide)).trans (by simp [up_at])) ((y2.2.1 3 (by decide)).trans (by simp [up_at])) (G.2 20 (by decide) (by decide)) (G.1 6 (by decide) (by decide))
      · exact Or.inr ⟨(y2.1 4 (by decide)).trans (by simp [up_at]), w', y6, y7, y8.2.1, y8.1, y8.2.2⟩
      · exact hJ.congr ((y2.1 5 (by decide)).trans (by simp [up_at])) ((y2.2.1 5 (by decide)).trans (by simp [up_at])) ((y2.2.1 6 (by decide)).trans (by simp [up_at])) (G.2 24 (by decide) (by decide)) (G.1 8 (by decide) (by decide))
      · exact hP.congr ((y2.1 6 (by decide)).trans (by simp [up_at])) ((y2.2.1 7 (by decide)).trans (by simp [up_at])) (G.2 26 (by decide) (by decide)) (G.1 9 (by decide) (by decide))
      · exact hS.congr ((y2.2.1 8 (by decide)).trans (by simp [up_at])) ((y2.2.2 9 (by decide) (by decide) (by decide)).trans (by simp [up_ne])) ((y2.2.2 10 (by decide) (by decide) (by decide)).trans (by simp [up_ne])) (G.2 28 (by decide) (by decide)) (G.1 10 (by decide) (by decide)) (G.1 11 (by decide) (by decide))
    · exact ⟨F1.trans y6, F2.fr.trans y7, Or.inr (Or.inl ⟨y1, y2, y3, y4, y5⟩)⟩
    · rw [F2.1 5 (by decide) (by decide)] at y7 y8
      exact ⟨F1.trans y2.cf, (F2.trans y3).fr, Or.inr (Or.inr ⟨y1, y4, b, y5, y6, y7, y8⟩)⟩
  · obtain ⟨c', k1, k2⟩ := S_wl 8 1099 1 (up (up c1 8 0 (r - 9)) 7 4 (nI (0 + 1))) (by rw [up_ne (by decide), up_ne (by decide)]; exact q3) (by omega) (by omega)
    have hq : ¬ q = 0 := fun z => q2 (by rw [z]; exact Int32.le_refl 0)
    refine ⟨c', q, up m1 0 22 1, fun Post hQ => hC Post (k2 Post hQ), fun Post hQ => hM Post ⟨fun _ => hQ, fun z => absurd z hq⟩, ?_, q7.up (Or.inl ⟨rfl, by decide, by decide⟩), Or.inr (Or.inl ⟨q1, q2, k1.ne (by rw [up_ne (by decide), up_ne (by decide)]; exact q3), ?_, ?_⟩)⟩
    · exact ((((CF.rfl'.up (Or.inl ⟨rfl, by decide⟩)).trans q6).up (Or.inr (Or.inr (Or.inl rfl)))).up (Or.inr (Or.inl rfl))).trans k1.cf
    · rw [k1.1 1 (by decide) (by decide) (by decide) (by decide), up_ne (by decide), up_ne (by decide)]; exact q4
    · rw [k1.1 2 (by decide) (by decide) (by decide) (by decide), up_ne (by decide), up_ne (by decide), up_at, if_neg (by decide)]; exact q5
def Cl (n a : Nat) (c m c' : St) (q : Int32) (m' : St) : Prop := CF c c' ∧ MFr m m' ∧
  ((q = 0 ∧ ∃ e : Nat, a < e ∧ VA c' m' n e ∧ V0 c' m' n) ∨ ((q = 1 ∨ q = 2 ∨ q = 3) ∧ ¬ c' 1 1 = 0 ∧ c' 1 1 = q ∧ c' 1 2 = m' 0 16))
theorem V0.at' {c m : St} {n : Nat} (h : V0 c m n) (x y : Int32) : V0 (up c 1 3 x) (up m 0 17 y) n := by
  obtain ⟨hT, hR, hW, hJ, hP, hS, hF⟩ := h
  exact ⟨hT.congr (by simp [up_at]) (by simp [up_ne]) (by simp [up_at]) (by simp [up_ne]), hR.congr (by simp [up_at]) (by simp [up_at]) (by simp [up_at]) (by simp [up_at]) (by simp [up_at]) (by simp [up_ne]), hW.congr (by simp [up_at]) (by simp [up_at]) (by simp [up_ne]) (by simp [up_at]) (by simp [up_ne]), hJ.congr (by simp [up_at]) (by simp [up_at]) (by simp [up_at]) (by simp [up_at]) (by simp [up_ne]), hP.congr (by simp [up_at]) (by simp [up_at]) (by simp [up_at]) (by simp [up_ne]), hS.congr (by simp [up_at]) (by simp [up_ne]) (by simp [up_ne]) (by simp [up_at]) (by simp [up_ne]) (by simp [up_ne]), by simp [up_at]; exact hF.1, by simp [up_at]; exact hF.2⟩
theorem J_close {c m c1 m1 : St} {q : Int32} {n a : Nat} (hT : VT c m n) (hB : Bd n a c m c1 q m1) : ∃ (c' : St) (q' : Int32) (m' : St), (∀ Post : St → Prop, Post c' → w_X6_readClause_J117 Post c1) ∧ (∀ Post : Int32 → St → Prop, Post q' m' → w_X9_takeClause_J227 Post q m1) ∧ Cl n a c m c' q' m' := by
  obtain ⟨b1, b2, b3⟩ := hB
  have T1 := hT.fr b1 b2
  rcases b3 with ⟨rfl, b, e, h1, ⟨a1, a2, a3, a4, a5, a6⟩, hV⟩ | ⟨q1, q2, q3, q4, q5⟩ | ⟨rfl, q2, b, q3, q4, q5, q6⟩
  · have hs := skF_le (m1 5) (n - b) b
    by_cases h59 : ltF (m1 5) n (skF (m1 5) (n - b) b) = 59
    · have hsn : skF (m1 5) (n - b) b < n := by
        refine Nat.lt_of_not_le (fun z => ?_)
        unfold ltF at h59
        rw [if_neg (by omega)] at h59
        exact absurd h59 (by decide)
      refine ⟨up c1 1 3 (nI (skF (m1 5) (n - b) b + 1)), 0, up m1 0 17 (nI (skF (m1 5) (n - b) b + 1)), fun Post hP => C_tk T1 a2 a4 (fun _ => ⟨fun _ => hP, fun z => absurd z (by decide)⟩) (fun z => absurd h59 z), fun Post hP => ⟨fun z => absurd rfl z, fun _ => M_here T1 a3 a5 ?_⟩, b1.up (Or.inl ⟨rfl, by decide⟩), b2.up (Or.inl ⟨rfl, by decide, by decide⟩), Or.inl ⟨rfl, skF (m1 5) (n - b) b + 1, by omega, ⟨by simp [up_at]; exact a1, by simp [up_at], by simp [up_at], by omega⟩, hV.at' _ _⟩⟩
      rw [← a6]
      refine ⟨fun _ => ?_, fun z => absurd h59 z⟩
      rintro _ rfl
      rw [up_up, show up m1 0 17 (nI (skF (m1 5) (n - b) b)) 0 17 = nI (skF (m1 5) (n - b) b) by simp [up_at], nI_1]
      exact hP
    · refine ⟨up (up (up c1 1 3 (nI (skF (m1 5) (n - b) b))) 1 1 1) 1 2 (nI (skF (m1 5) (n - b) b)), 1, up (up m1 0 17 (nI (skF (m1 5) (n - b) b))) 0 16 (nI (skF (m1 5) (n - b) b)), fun Post hP => C_tk T1 a2 a4 (fun z => absurd z h59) (fun _ => ⟨fun z => absurd rfl z, fun _ => ⟨fun z => absurd (by simp [up_at]; exact a1) z, fun _ => ?_⟩⟩), fun Post hP => ⟨fun z => absurd rfl z, fun _ => M_here T1 a3 a5 ?_⟩, ((b1.up (Or.inl ⟨rfl, by decide⟩)).up (Or.inl ⟨rfl, by decide⟩)).up (Or.inl ⟨rfl, by decide⟩), (b2.up (Or.inl ⟨rfl, by decide, by decide⟩)).up (Or.inl ⟨rfl, by decide, by decide⟩), Or.inr ⟨Or.inl rfl, by simp [up_at], by simp [up_at], by simp [up_at]⟩⟩
      · rw [show up c1 1 3 (nI (skF (m1 5) (n - b) b)) 1 3 = nI (skF (m1 5) (n - b) b) by simp [up_at]]
        rintro _ rfl _ rfl
        exact hP
      · rw [← a6]
        refine ⟨fun z => absurd z h59, fun _ => ?_⟩
        rintro _ rfl
        rw [show up m1 0 17 (nI (skF (m1 5) (n - b) b)) 0 17 = nI (skF (m1 5) (n - b) b) by simp [up_at]]
        exact hP
  · obtain ⟨c', k1, k2⟩ := S_117 q3
    have hq : ¬ q = 0 := fun z => q2 (by rw [z]; exact Int32.le_refl 0)
    refine ⟨c', q, up m1 0 17 (m1 0 17 + 1), k2, fun Post hP => ⟨fun _ => ?_, fun z => absurd z hq⟩, b1.trans k1.cf, b2.up (Or.inl ⟨rfl, by decide, by decide⟩), Or.inr ⟨by rcases q1 with z | z; exact Or.inl z; exact Or.inr (Or.inl z), k1.ne q3, (k1.1 1 (by decide) (by decide) (by decide) (by decide)).trans q4, ?_⟩⟩
    · rintro _ rfl; exact hP
    · rw [k1.1 2 (by decide) (by decide) (by decide) (by decide), up_at, if_neg (by decide)]; exact q5
  · rw [← b2.1 5 (by decide) (by decide)] at q5 q6
    refine ⟨up (up (up c1 1 3 (nI (skF (m1 5) (n - b) b))) 1 1 1) 1 2 (nI (skF (m1 5) (n - b) b)), 1, up m1 0 17 (m1 0 17 + 1), fun Post hP => C_tk T1 q4 q3 (fun z => absurd z q5) (fun _ => ⟨fun z => absurd rfl z, fun _ => ⟨fun z => absurd (by simp [up_at]; exact q2) z, fun _ => ?_⟩⟩), fun Post hP => ⟨fun _ => ?_, fun z => absurd z (by decide)⟩, ((b1.up (Or.inl ⟨rfl, by decide⟩)).up (Or.inl ⟨rfl, by decide⟩)).up (Or.inl ⟨rfl, by decide⟩), b2.up (Or.inl ⟨rfl, by decide, by decide⟩), Or.inr ⟨Or.inl rfl, by simp [up_at], by simp [up_at], by simp [up_at]; exact q6.symm⟩⟩
    · rw [show up c1 1 3 (nI (skF (m1 5) (n - b) b)) 1 3 = nI (skF (m1 5) (n - b) b) by simp [up_at]]
      rintro _ rfl _ rfl
      exact hP
    · rintro _ rfl; exact hP
theorem clause_bad {c m : St} {n a : Nat} {q : Int32} (hA : VA c m n a) (hq : q = 1 ∨ q = 3) (hc : ∀ Post : St → Prop, (w_X6_setFault q (nI a) c Post) → w_X6_readClause c Post) (hm : ∀ Post : Int32 → St → Prop, Post q (up m 0 16 (nI a)) → w_X9_takeClause m Post) : ∃ (c' : St) (q : Int32) (m' : St), (∀ Post : St → Prop, Post c' → w_X6_readClause c Post) ∧ (∀ Post : Int32 → St → Prop, Post q m' → w_X9_takeClause m Post) ∧ Cl n a c m c' q m' := by
  have hq0 : ¬ q = 0 := by rcases hq with z | z <;> rw [z] <;> decide
  refine ⟨up (up c 1 1 q) 1 2 (nI a), q, up m 0 16 (nI a), fun Post hP => hc Post ⟨fun z => absurd hA.1 z, fun _ => ?_⟩, hm, (CF.rfl'.up (Or.inl ⟨rfl, by decide⟩)).up (Or.inl ⟨rfl, by decide⟩), MFr.rfl'.up (Or.inl ⟨rfl, by decide, by decide⟩), Or.inr ⟨by rcases hq with z | z; exact Or.inl z; exact Or.inr (Or.inr z), by simp [up_at]; exact hq0, by simp [up_at], by simp [up_at]⟩⟩
  rintro _ rfl _ rfl
  exact hP
theorem clause_ok {c m : St} {n a : Nat} {BC : St → (St → Prop) → Prop} {BM : St → (Int32 → St → Prop) → Prop} (hT : VT c m n) (hc : ∀ Post : St → Prop, BC (up c 1 3 (nI (a + 1))) (fun σ => w_X6_readClause_J117 Post σ) → w_X6_readClause c Post) (hm : ∀ Post : Int32 → St → Prop, BM (up m 0 17 (nI (a + 1))) (fun r σ => w_X9_takeClause_J227 Post r σ) → w_X9_takeClause m Post)
    (hb : ∃ (c' : St) (q : Int32) (m' : St), (∀ Post : St → Prop, Post c' → BC (up c 1 3 (nI (a + 1))) Post) ∧ (∀ Post : Int32 → St → Prop, Post q m' → BM (up m 0 17 (nI (a + 1))) Post) ∧ Bd n (a + 1) (up c 1 3 (nI (a + 1))) (up m 0 17 (nI (a + 1))) c' q m') :
    ∃ (c' : St) (q : Int32) (m' : St), (∀ Post : St → Prop, Post c' → w_X6_readClause c Post) ∧ (∀ Post : Int32 → St → Prop, Post q m' → w_X9_takeClause m Post) ∧ Cl n a c m c' q m' := by
  obtain ⟨c1, q1, m1, e1, e2, e3⟩ := hb
  obtain ⟨c2, q2, m2, f1, f2, f3, f4, f5⟩ := J_close (hT.congr (by simp [up_at]) (by simp [up_ne]) (by simp [up_at]) (by simp [up_ne])) e3
  refine ⟨c2, q2, m2, fun Post hP => hc _ (e1 _ (f1 _ hP)), fun Post hP => hm _ (e2 _ (f2 _ hP)), (CF.up CF.rfl' (Or.inl ⟨rfl, by decide⟩)).trans f3, (MFr.rfl'.up (Or.inl ⟨rfl, by decide, by decide⟩)).trans f4, ?_⟩
  rcases f5 with ⟨k1, e, k2, k3⟩ | k
  · exact Or.inl ⟨k1, e, by omega, k3⟩
  · exact Or.inr k
