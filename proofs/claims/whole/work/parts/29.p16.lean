/-! ===== pure: the clauses' bodies ===== -/
def V0 (c m : St) (n : Nat) : Prop := VT c m n ∧ VR c m ∧ VW c m ∧ VJ c m ∧ VP c m ∧ VS c m ∧ (c 1 2 = -1 ∧ m 0 16 = -1)
def VA2 (c m : St) (n b e : Nat) : Prop := c 1 1 = 0 ∧ c 1 3 = nI b ∧ m 0 17 = nI e ∧ b ≤ n ∧ e ≤ n ∧ skF (m 5) (n - b) b = skF (m 5) (n - e) e
def Bd (n a : Nat) (c m c' : St) (q : Int32) (m' : St) : Prop := CF c c' ∧ MFr m m' ∧
  ((q = 0 ∧ ∃ b e : Nat, a ≤ b ∧ VA2 c' m' n b e ∧ V0 c' m' n) ∨
   ((q = 1 ∨ q = 2) ∧ ¬ q ≤ 0 ∧ ¬ c' 1 1 = 0 ∧ c' 1 1 = q ∧ c' 1 2 = m' 0 16) ∨
   (q = 1 ∧ c' 1 1 = 0 ∧ ∃ b : Nat, b ≤ n ∧ c' 1 3 = nI b ∧ ¬ ltF (m 5) n (skF (m 5) (n - b) b) = 59 ∧ m' 0 16 = nI (skF (m 5) (n - b) b)))
theorem VA.congr {c m c' m' : St} {n a : Nat} (h : VA c m n a) (h1 : c' 1 1 = c 1 1) (h2 : c' 1 3 = c 1 3) (h3 : m' 0 17 = m 0 17) : VA c' m' n a := by unfold VA; rw [h1, h2, h3]; exact h
theorem le_00 : (0 : Int32) ≤ 0 := by decide
theorem J_press {c m : St} {n a : Nat} (hA : VA c m n a) (h : V0 c m n) : ∃ (c' : St) (q : Int32) (m' : St), (∀ Post : St → Prop, Post c' → w_X6_readButtons c Post) ∧ (∀ Post : Int32 → St → Prop, Post q m' → w_X9_takePress m Post) ∧ Bd n a c m c' q m' := by
  obtain ⟨hT, hR, hW, hJ, hP, hS, hF⟩ := h
  obtain ⟨r, c1, q, m1, e1, e2, e3⟩ := J_into 1 9 (c := up c 1 6 1) (m := up m 0 26 1) (n := n) (a := a) (a1 := 9) (L1 := 1) (k := 0) (hT.congr (by simp [up_at]) (by simp [up_ne]) (by simp [up_at]) (by simp [up_ne])) (hA.congr (by simp [up_at]) (by simp [up_at]) (by simp [up_at])) (by decide) (by decide) (by decide)
  refine ⟨up c1 7 7 r, q, m1, fun Post hQ => ?_, fun Post hQ => ?_, ?_⟩
  · rintro _ rfl
    refine e1 _ ?_
    rintro _ rfl
    exact hQ
  · rintro _ rfl
    exact e2 _ hQ
  · rcases e3 with ⟨q0, v, e, rfl, v1, v2, v3, v4, v5, rfl, m17, ma, mj, m0, m16⟩ | ⟨q1, q2, q3, q4, q5, q6, q7⟩
    · have M16 : m1 0 16 = -1 := m16.trans (by rw [up_at, if_neg (by decide)]; exact hF.2)
      have M0 : ∀ k, (k < 16 ∨ 19 < k) → k ≠ 26 → m1 0 k = m 0 k := fun k h1 h2 => (m0 k h1).trans (by rw [up_at, if_neg (fun z => h2 z.2)])
      have Mj : ∀ j, j ≠ 0 → j ≠ 9 → m1 j = m j := fun j h1 h2 => (mj j h1 h2).trans (up_ne h1)
      refine ⟨((CF.rfl'.up (Or.inl ⟨rfl, by decide⟩)).up (Or.inl ⟨rfl, by decide⟩)).up (Or.inr (Or.inl rfl)), ⟨fun j h1 h2 => Mj j h1 (by omega), fun k h1 => M0 k (by omega) (by omega)⟩, Or.inl ⟨q0, e, e, by omega, ⟨by simp [up_at]; exact hA.1, by simp [up_at], m17, v4, v4, rfl⟩, ⟨hT.congr (by simp [up_at]) (by simp [up_ne]) (M0 15 (by decide) (by decide)) (Mj 5 (by decide) (by decide)), hR.congr (by simp [up_at]) (by simp [up_at]) (by simp [up_at]) (by simp [up_at]) (M0 20 (by decide) (by decide)) (Mj 6 (by decide) (by decide)), hW.congr (by simp [up_at]) (by simp [up_at]) (by simp [up_ne]) (M0 22 (by decide) (by decide)) (Mj 7 (by decide) (by decide)), hJ.congr (by simp [up_at]) (by simp [up_at]) (by simp [up_at]) (M0 24 (by decide) (by decide)) (Mj 8 (by decide) (by decide)), Or.inr ⟨by simp [up_at], (m0 26 (by decide)).trans (by simp [up_at]), v, ?_, ?_, by rw [ma]; simp [upd], by simp [up_at]⟩, hS.congr (by simp [up_at]) (by simp [up_ne]) (by simp [up_ne]) (M0 28 (by decide) (by decide)) (Mj 10 (by decide) (by decide)) (Mj 11 (by decide) (by decide)), ⟨by simp [up_at]; exact hF.1, M16⟩⟩⟩⟩
      · rw [Int32.le_iff_toInt_le, nI_toInt (by omega), show (1 : Int32).toInt = 1 by decide] at v2; omega
      · rw [Int32.le_iff_toInt_le, nI_toInt (by omega), show (9 : Int32).toInt = 9 by decide] at v3; omega
    · refine ⟨(CF.up CF.rfl' (Or.inl ⟨rfl, by decide⟩)).trans (q6.up (Or.inr (Or.inl rfl))), (MFr.rfl'.up (Or.inl ⟨rfl, by decide, by decide⟩)).trans q7, Or.inr (Or.inl ⟨q1, q2, ?_, ?_, ?_⟩)⟩
      · rw [up_ne (by decide)]; exact q3
      · rw [up_ne (by decide)]; exact q4
      · rw [up_ne (by decide)]; exact q5
theorem J_jump {c m : St} {n a : Nat} (hA : VA c m n a) (h : V0 c m n) : ∃ (c' : St) (q : Int32) (m' : St), (∀ Post : St → Prop, Post c' → w_X6_readJump c Post) ∧ (∀ Post : Int32 → St → Prop, Post q m' → w_X9_takeJump m Post) ∧ Bd n a c m c' q m' := by
  obtain ⟨hT, hR, hW, hJ, hP, hS, hF⟩ := h
  obtain ⟨r, c1, q, m1, e1, e2, e3⟩ := J_into 0 999 (c := up c 1 5 1) (m := up m 0 24 1) (n := n) (a := a) (a1 := 8) (L1 := 2) (k := 0) (hT.congr (by simp [up_at]) (by simp [up_ne]) (by simp [up_at]) (by simp [up_ne])) (hA.congr (by simp [up_at]) (by simp [up_at]) (by simp [up_at])) (by decide) (by decide) (by decide)
  rcases e3 with ⟨q0, v, e, rfl, v1, v2, v3, v4, v5, rfl, m17, ma, mj, m0, m16⟩ | ⟨q1, q2, q3, q4, q5, q6, q7⟩
  · subst q0
    have T1 : VT (up (up (up c 1 5 1) 1 3 (nI e)) 7 5 (nI v)) m1 n := hT.congr (by simp [up_at]) (by simp [up_ne]) ((m0 15 (by decide)).trans (by simp [up_at])) ((mj 5 (by decide) (by decide)).trans (by simp [up_ne]))
    obtain ⟨r2, c2, q2, m2, f1, f2, f3⟩ := J_into 0 198 (c := up (up (up c 1 5 1) 1 3 (nI e)) 7 5 (nI v)) (m := m1) (n := n) (a := e) (a1 := 8) (L1 := 2) (k := 1) T1 ⟨by simp [up_at]; exact hA.1, by simp [up_at], m17, v4⟩ (by decide) (by decide) (by decide)
    refine ⟨up c2 7 6 (r2 - 99), q2, m2, fun Post hQ => ?_, fun Post hQ => ?_, ?_⟩
    · rintro _ rfl
      refine e1 _ ?_
      rintro _ rfl
      refine f1 _ ?_
      rintro _ rfl
      exact hQ
    · rintro _ rfl
      exact e2 _ ⟨fun _ => f2 _ hQ, fun z => absurd le_00 z⟩
    · rcases f3 with ⟨q0, w, g, rfl, w1, w2, w3, w4, w5, rfl, n17, na, nj, n0, n16⟩ | ⟨p1, p2, p3, p4, p5, p6, p7⟩
      · have M16 : m2 0 16 = -1 := n16.trans (m16.trans (by rw [up_at, if_neg (by decide)]; exact hF.2))
        have M0 : ∀ k, (k < 16 ∨ 19 < k) → k ≠ 24 → m2 0 k = m 0 k := fun k h1 h2 => (n0 k h1).trans ((m0 k h1).trans (by rw [up_at, if_neg (fun z => h2 z.2)]))
        have Mj : ∀ j, j ≠ 0 → j ≠ 8 → m2 j = m j := fun j h1 h2 => (nj j h1 h2).trans ((mj j h1 h2).trans (up_ne h1))
        refine ⟨((((CF.rfl'.up (Or.inl ⟨rfl, by decide⟩)).up (Or.inl ⟨rfl, by decide⟩)).up (Or.inr (Or.inl rfl))).up (Or.inl ⟨rfl, by decide⟩)).up (Or.inr (Or.inl rfl)), ⟨fun j h1 h2 => Mj j h1 (by omega), fun k h1 => M0 k (by omega) (by omega)⟩, Or.inl ⟨q0, g, g, by omega, ⟨by simp [up_at]; exact hA.1, by simp [up_at], n17, w4, w4, rfl⟩, ⟨hT.congr (by simp [up_at]) (by simp [up_ne]) (M0 15 (by decide) (by decide)) (Mj 5 (by decide) (by decide)), hR.congr (by simp [up_at]) (by simp [up_at]) (by simp [up_at]) (by simp [up_at]) (M0 20 (by decide) (by decide)) (Mj 6 (by decide) (by decide)), hW.congr (by simp [up_at]) (by simp [up_at]) (by simp [up_ne]) (M0 22 (by decide) (by decide)) (Mj 7 (by decide) (by decide)), Or.inr ⟨by simp [up_at], (n0 24 (by decide)).trans ((m0 24 (by decide)).trans (by simp [up_at])), v, w, v1, ?_, by rw [na, ma]; simp [upd], by rw [na]; simp [upd], by simp [up_at], by simp [up_at]⟩, hP.congr (by simp [up_at]) (by simp [up_at]) (M0 26 (by decide) (by decide)) (Mj 9 (by decide) (by decide)), hS.congr (by simp [up_at]) (by simp [up_ne]) (by simp [up_ne]) (M0 28 (by decide) (by decide)) (Mj 10 (by decide) (by decide)) (Mj 11 (by decide) (by decide)), ⟨by simp [up_at]; exact hF.1, M16⟩⟩⟩⟩
        rw [Int32.le_iff_toInt_le, nI_toInt (by omega), show (198 : Int32).toInt = 198 by decide] at w3; omega
      · refine ⟨((((CF.rfl'.up (Or.inl ⟨rfl, by decide⟩)).up (Or.inl ⟨rfl, by decide⟩)).up (Or.inr (Or.inl rfl))).trans p6).up (Or.inr (Or.inl rfl)), ?_, Or.inr (Or.inl ⟨p1, p2, ?_, ?_, ?_⟩)⟩
        · refine MFr.trans ⟨fun j h1 h2 => (mj j h1 (by omega)).trans (up_ne h1), fun k h1 => (m0 k (by omega)).trans (by rw [up_at, if_neg (by omega)])⟩ p7
        · rw [up_ne (by decide)]; exact p3
        · rw [up_ne (by decide)]; exact p4
        · rw [up_ne (by decide)]; exact p5
  · obtain ⟨r2, x, hx⟩ := S_num 0 198 (c := up c1 7 5 r) (by rw [up_ne (by decide)]; exact q3)
    refine ⟨up (up (up c1 7 5 r) 1 3 x) 7 6 (r2 - 99), q, m1, fun Post hQ => ?_, fun Post hQ => ?_, ?_⟩
    · rintro _ rfl
      refine e1 _ ?_
      rintro _ rfl
      refine hx _ ?_
      rintro _ rfl
      exact hQ
    · rintro _ rfl
      exact e2 _ ⟨fun z => absurd z q2, fun _ => hQ⟩
    · refine ⟨(((((CF.rfl'.up (Or.inl ⟨rfl, by decide⟩)).trans q6).up (Or.inr (Or.inl rfl))).up (Or.inl ⟨rfl, by decide⟩)).up (Or.inr (Or.inl rfl))), (MFr.rfl'.up (Or.inl ⟨rfl, by decide, by decide⟩)).trans q7, Or.inr (Or.inl ⟨q1, q2, ?_, ?_, ?_⟩)⟩
      · simp [up_at]; exact q3
      · simp [up_at]; exact q4
      · simp [up_at]; exact q5
theorem J_rates {c m : St} {n a : Nat} (hA : VA c m n a) (h : V0 c m n) : ∃ (c' : St) (q : Int32) (m' : St), (∀ Post : St → Prop, Post c' → w_X6_readRates c Post) ∧ (∀ Post : Int32 → St → Prop, Post q m' → w_X9_takeMount m Post) ∧ Bd n a c m c' q m' := by
  obtain ⟨hT, hR, hW, hJ, hP, hS, hF⟩ := h
  obtain ⟨r, c1, q, m1, e1, e2, e3⟩ := J_into 0 18 (c := up c 7 0 1) (m := up m 0 20 1) (n := n) (a := a) (a1 := 6) (L1 := 3) (k := 0) (hT.congr (by simp [up_at]) (by simp [up_ne]) (by simp [up_at]) (by simp [up_ne])) (hA.congr (by simp [up_at]) (by simp [up_at]) (by simp [up_at])) (by decide) (by decide) (by decide)
  rcases e3 with ⟨q0, v, e, rfl, v1, v2, v3, v4, v5, rfl, m17, ma, mj, m0, m16⟩ | ⟨q1, q2, q3, q4, q5, q6, q7⟩
  · subst q0
    have T1 : VT (up (up (up c 7 0 1) 1 3 (nI e)) 7 1 (nI v - 9)) m1 n := hT.congr (by simp [up_at]) (by simp [up_ne]) ((m0 15 (by decide)).trans (by simp [up_at])) ((mj 5 (by decide) (by decide)).trans (by simp [up_ne]))
    obtain ⟨r2, c2, q2, m2, f1, f2, f3⟩ := J_into 0 18 (c := up (up (up c 7 0 1) 1 3 (nI e)) 7 1 (nI v - 9)) (m := m1) (n := n) (a := e) (a1 := 6) (L1 := 3) (k := 1) T1 ⟨by simp [up_at]; exact hA.1, by simp [up_at], m17, v4⟩ (by decide) (by decide) (by decide)
    rcases f3 with ⟨q0, w, g, rfl, w1, w2, w3, w4, w5, rfl, n17, na, nj, n0, n16⟩ | ⟨p1, p2, p3, p4, p5, p6, p7⟩
    · subst q0
      have T2 : VT (up (up (up (up (up c 7 0 1) 1 3 (nI e)) 7 1 (nI v - 9)) 1 3 (nI g)) 7 2 (nI w - 9)) m2 n := T1.congr (by simp [up_at]) (by simp [up_ne]) (n0 15 (by decide)) (nj 5 (by decide) (by decide))
      obtain ⟨r3, c3, q3, m3, g1, g2, g3⟩ := J_into 1 999 (c := up (up (up (up (up c 7 0 1) 1 3 (nI e)) 7 1 (nI v - 9)) 1 3 (nI g)) 7 2 (nI w - 9)) (m := m2) (n := n) (a := g) (a1 := 6) (L1 := 3) (k := 2) T2 ⟨by simp [up_at]; exact hA.1, by simp [up_at], n17, w4⟩ (by decide) (by decide) (by decide)
      refine ⟨up c3 7 3 r3, q3, m3, fun Post hQ => ?_, fun Post hQ => ?_, ?_⟩
      · rintro _ rfl
        refine e1 _ ?_
        rintro _ rfl
        refine f1 _ ?_
        rintro _ rfl
        refine g1 _ ?_
        rintro _ rfl
        exact hQ
      · rintro _ rfl
        exact e2 _ ⟨fun _ => f2 _ ⟨fun _ => g2 _ hQ, fun z => absurd le_00 z⟩, fun z => absurd le_00 z⟩
      · rcases g3 with ⟨q0, u, k, rfl, u1, u2, u3, u4, u5, rfl, l17, la, lj, l0, l16⟩ | ⟨p1, p2, p3, p4, p5, p6, p7⟩
        · have M16 : m3 0 16 = -1 := l16.trans (n16.trans (m16.trans (by rw [up_at, if_neg (by decide)]; exact hF.2)))
          have M0 : ∀ k, (k < 16 ∨ 19 < k) → k ≠ 20 → m3 0 k = m 0 k := fun k h1 h2 => (l0 k h1).trans ((n0 k h1).trans ((m0 k h1).trans (by rw [up_at, if_neg (fun z => h2 z.2)])))
          have Mj : ∀ j, j ≠ 0 → j ≠ 6 → m3 j = m j := fun j h1 h2 => (lj j h1 h2).trans ((nj j h1 h2).trans ((mj j h1 h2).trans (up_ne h1)))
          have M20 : m3 0 20 = 1 := (l0 20 (by decide)).trans ((n0 20 (by decide)).trans ((m0 20 (by decide)).trans (by simp [up_at])))
          have le18 : ∀ x : Nat, x ≤ 999 → nI x ≤ 18 → x ≤ 18 := fun x hx q => by
            rw [Int32.le_iff_toInt_le, nI_toInt (by omega), show (18 : Int32).toInt = 18 by decide] at q; omega
          have V6 : VR (up (up (up (up (up (up (up c 7 0 1) 1 3 (nI e)) 7 1 (nI v - 9)) 1 3 (nI g)) 7 2 (nI w - 9)) 1 3 (nI k)) 7 3 (nI u)) m3 := by
            refine ⟨by simp [up_at]; exact M20.symm, Or.inr ⟨M20, v, w, u, le18 v v1 v3, le18 w w1 w3, u1, ?_, ?_, ?_, by simp [up_at], by simp [up_at], by simp [up_at]⟩⟩
            · rw [la, na, ma]; simp [upd]
            · rw [la, na]; simp [upd]
            · rw [la]; simp [upd]
          refine ⟨((((((CF.rfl'.up (Or.inr (Or.inl rfl))).up (Or.inl ⟨rfl, by decide⟩)).up (Or.inr (Or.inl rfl))).up (Or.inl ⟨rfl, by decide⟩)).up (Or.inr (Or.inl rfl))).up (Or.inl ⟨rfl, by decide⟩)).up (Or.inr (Or.inl rfl)), ⟨fun j h1 h2 => Mj j h1 (by omega), fun k h1 => M0 k (by omega) (by omega)⟩, Or.inl ⟨q0, k, k, by omega, ⟨by simp [up_at]; exact hA.1, by simp [up_at], l17, u4, u4, rfl⟩, ⟨hT.congr (by simp [up_at]) (by simp [up_ne]) (M0 15 (by decide) (by decide)) (Mj 5 (by decide) (by decide)), V6, hW.congr (by simp [up_at]) (by simp [up_at]) (by simp [up_ne]) (M0 22 (by decide) (by decide)) (Mj 7 (by decide) (by decide)), hJ.congr (by simp [up_at]) (by simp [up_at]) (by simp [up_at]) (M0 24 (by decide) (by decide)) (Mj 8 (by decide) (by decide)), hP.congr (by simp [up_at]) (by simp [up_at]) (M0 26 (by decide) (by decide)) (Mj 9 (by decide) (by decide)), hS.congr (by simp [up_at]) (by simp [up_ne]) (by simp [up_ne]) (M0 28 (by decide) (by decide)) (Mj 10 (by decide) (by decide)) (Mj 11 (by decide) (by decide)), ⟨by simp [up_at]; exact hF.1, M16⟩⟩⟩⟩
        · refine ⟨((((((CF.rfl'.up (Or.inr (Or.inl rfl))).up (Or.inl ⟨rfl, by decide⟩)).up (Or.inr (Or.inl rfl))).up (Or.inl ⟨rfl, by decide⟩)).up (Or.inr (Or.inl rfl))).trans p6).up (Or.inr (Or.inl rfl)), ?_, Or.inr (Or.inl ⟨p1, p2, ?_, ?_, ?_⟩)⟩
          · refine MFr.trans ⟨fun j h1 h2 => (nj j h1 (by omega)).trans ((mj j h1 (by omega)).trans (up_ne h1)), fun k h1 => (n0 k (by omega)).trans ((m0 k (by omega)).trans (by rw [up_at, if_neg (by omega)]))⟩ p7
          · rw [up_ne (by decide)]; exact p3
          · rw [up_ne (by decide)]; exact p4
          · rw [up_ne (by decide)]; exact p5
    · obtain ⟨r3, x, hx⟩ := S_num 1 999 (c := up c2 7 2 (r2 - 9)) (by rw [up_ne (by decide)]; exact p3)
      refine ⟨up (up (up c2 7 2 (r2 - 9)) 1 3 x) 7 3 r3, q2, m2, fun Post hQ => ?_, fun Post hQ => ?_, ?_⟩
      · rintro _ rfl
        refine e1 _ ?_
        rintro _ rfl
        refine f1 _ ?_
        rintro _ rfl
        refine hx _ ?_
        rintro _ rfl
        exact hQ
      · rintro _ rfl
        exact e2 _ ⟨fun _ => f2 _ ⟨fun z => absurd z p2, fun _ => hQ⟩, fun z => absurd le_00 z⟩
      · refine ⟨((((((CF.rfl'.up (Or.inr (Or.inl rfl))).up (Or.inl ⟨rfl, by decide⟩)).up (Or.inr (Or.inl rfl))).trans p6).up (Or.inr (Or.inl rfl))).up (Or.inl ⟨rfl, by decide⟩)).up (Or.inr (Or.inl rfl)), ?_, Or.inr (Or.inl ⟨p1, p2, ?_, ?_, ?_⟩)⟩
        · refine MFr.trans ⟨fun j h1 h2 => (mj j h1 (by omega)).trans (up_ne h1), fun k h1 => (m0 k (by omega)).trans (by rw [up_at, if_neg (by omega)])⟩ p7
        · simp [up_at]; exact p3
        · simp [up_at]; exact p4
        · simp [up_at]; exact p5
  · obtain ⟨r2, x, hx⟩ := S_num 0 18 (c := up c1 7 1 (r - 9)) (by rw [up_ne (by decide)]; exact q3)
    obtain ⟨r3, y, hy⟩ := S_num 1 999 (c := up (up (up c1 7 1 (r - 9)) 1 3 x) 7 2 (r2 - 9)) (by simp [up_at]; exact q3)
    refine ⟨up (up (up (up (up c1 7 1 (r - 9)) 1 3 x) 7 2 (r2 - 9)) 1 3 y) 7 3 r3, q, m1, fun Post hQ => ?_, fun Post hQ => ?_, ?_⟩
    · rintro _ rfl
      refine e1 _ ?_
      rintro _ rfl
      refine hx _ ?_
      rintro _ rfl
      refine hy _ ?_
      rintro _ rfl
      exact hQ
    · rintro _ rfl
      exact e2 _ ⟨fun z => absurd z q2, fun _ => ⟨fun z => absurd z q2, fun _ => hQ⟩⟩
    · refine ⟨(((((((CF.rfl'.up (Or.inr (Or.inl rfl))).trans q6).up (Or.inr (Or.inl rfl))).up (Or.inl ⟨rfl, by decide⟩)).up (Or.inr (Or.inl rfl))).up (Or.inl ⟨rfl, by decide⟩)).up (Or.inr (Or.inl rfl))), (MFr.rfl'.up (Or.inl ⟨rfl, by decide, by decide⟩)).trans q7, Or.inr (Or.inl ⟨q1, q2, ?_, ?_, ?_⟩)⟩
      · simp [up_at]; exact q3
      · simp [up_at]; exact q4
      · simp [up_at]; exact q5
theorem S_star (x y : Int32) (c : St) : ∃ c' : St, FE c c' ∧ ∀ Post : St → Prop, Post c' → w_X3_addStar x y c Post := by
  by_cases h1 : c 7 8 < 0
  · exact ⟨c, FE.rfl', fun Post hP => ⟨fun _ => hP, fun q => absurd h1 q⟩⟩
  · by_cases h2 : nI 6 ≤ c 7 8
    · exact ⟨c, FE.rfl', fun Post hP => ⟨fun _ => hP, fun _ => ⟨fun _ => hP, fun q => absurd h2 q⟩⟩⟩
    · obtain ⟨a, ha, e⟩ := nI_of h1
      have h6 : a < 6 := by rw [e] at h2; exact Nat.lt_of_not_le (fun z => h2 (nI_le z (by omega)))
      refine ⟨_, ((FE.rfl'.upm (Or.inr (Or.inr (Or.inl rfl))) a x).upm (Or.inr (Or.inr (Or.inr rfl))) a y).upm (Or.inl rfl) 8 (nI (a + 1)), fun Post hP => ⟨fun q => absurd q h1, fun _ => ⟨fun q => absurd q h2, fun _ => ⟨fun q => absurd q h2, fun _ => ⟨vin e h6, ?_⟩⟩⟩⟩⟩
      have e2 : up c 9 a x 7 8 = nI a := by rw [up_ne (by decide)]; exact e
      rw [e, nI_clamp (by omega)]
      rintro _ rfl
      refine ⟨vin e2 h6, ?_⟩
      rw [e2, nI_clamp (by omega)]
      rintro _ rfl
      rw [show up (up c 9 a x) 10 a y 7 8 = nI a by rw [up_ne (by decide)]; exact e2, nI_1]
      rintro _ rfl
      exact hP
theorem C_star {x y : Int32} {c : St} {a : Nat} (e : c 7 8 = nI a) (h6 : a < 6) {Post : St → Prop} (hP : Post (up (up (up c 9 a x) 10 a y) 7 8 (nI (a + 1)))) : w_X3_addStar x y c Post := by
  have h1 : ¬ c 7 8 < 0 := by rw [e]; exact nI_pos (by omega)
  have h2 : ¬ nI 6 ≤ c 7 8 := by rw [e]; exact nI_ge h6 (by decide)
  refine ⟨fun q => absurd q h1, fun _ => ⟨fun q => absurd q h2, fun _ => ⟨fun q => absurd q h2, fun _ => ⟨vin e h6, ?_⟩⟩⟩⟩
  have e2 : up c 9 a x 7 8 = nI a := by rw [up_ne (by decide)]; exact e
  rw [e, nI_clamp (by omega)]
  rintro _ rfl
  refine ⟨vin e2 h6, ?_⟩
  rw [e2, nI_clamp (by omega)]
  rintro _ rfl
  rw [show up (up c 9 a x) 10 a y 7 8 = nI a by rw [up_ne (by decide)]; exact e2, nI_1]
  rintro _ rfl
  exact hP
theorem J_star {c m : St} {n a : Nat} (hA : VA c m n a) (h : V0 c m n) (hs6 : ¬ m 0 28 = 6) : ∃ (c' : St) (q : Int32) (m' : St), (∀ Post : St → Prop, Post c' → w_X6_readStar c Post) ∧ (∀ Post : Int32 → St → Prop, Post q m' → w_X9_takeStar m Post) ∧ Bd n a c m c' q m' := by
  obtain ⟨hT, hR, hW, hJ, hP, ⟨s, s1, s2, s3, s4⟩, hF⟩ := h
  have hs : s < 6 := by
    rcases Nat.lt_or_ge s 6 with z | z
    · exact z
    · exact absurd (by rw [s3, show s = 6 by omega]; rfl) hs6
  have en : m 0 28 + 1 = nI (s + 1) := by rw [s3, nI_1]
  obtain ⟨r, c1, q, m1, e1, e2, e3⟩ := J_into 0 99 (c := c) (m := up m 0 28 (nI (s + 1))) (n := n) (a := a) (a1 := 10) (L1 := 6) (k := s) (hT.congr rfl rfl (by simp [up_at]) (by simp [up_ne])) (hA.congr rfl rfl (by simp [up_at])) (by decide) hs (by decide)
  rcases e3 with ⟨q0, v, e, rfl, v1, v2, v3, v4, v5, rfl, m17, ma, mj, m0, m16⟩ | ⟨q1, q2, q3, q4, q5, q6, q7⟩
  · subst q0
    have T1 : VT (up c 1 3 (nI e)) m1 n := hT.congr (by simp [up_at]) (by simp [up_ne]) ((m0 15 (by decide)).trans (by simp [up_at])) ((mj 5 (by decide) (by decide)).trans (by simp [up_ne]))
    obtain ⟨r2, c2, q2, m2, f1, f2, f3⟩ := J_into 1 9 (c := up c 1 3 (nI e)) (m := m1) (n := n) (a := e) (a1 := 11) (L1 := 6) (k := s) T1 ⟨by simp [up_at]; exact hA.1, by simp [up_at], m17, v4⟩ (by decide) hs (by decide)
    have hM : ∀ Post : Int32 → St → Prop, Post q2 m2 → w_X9_takeStar m Post := by
      intro Post hQ
      rintro _ rfl
      rw [en, s3]
      rintro _ rfl
      exact e2 _ ⟨fun _ => f2 _ hQ, fun z => absurd le_00 z⟩
    rcases f3 with ⟨q0, w, g, rfl, w1, w2, w3, w4, w5, rfl, n17, na, nj, n0, n16⟩ | ⟨p1, p2, p3, p4, p5, p6, p7⟩
    · have M16 : m2 0 16 = -1 := n16.trans (m16.trans (by rw [up_at, if_neg (by decide)]; exact hF.2))
      have M0 : ∀ k, (k < 16 ∨ 19 < k) → k ≠ 28 → m2 0 k = m 0 k := fun k h1 h2 => (n0 k h1).trans ((m0 k h1).trans (by rw [up_at, if_neg (fun z => h2 z.2)]))
      have Mj : ∀ j, j ≠ 0 → (j ≠ 10 ∧ j ≠ 11) → m2 j = m j := fun j h1 h2 => (nj j h1 h2.2).trans ((mj j h1 h2.1).trans (up_ne h1))
      have e7 : up (up c 1 3 (nI e)) 1 3 (nI g) 7 8 = nI s := by rw [up_ne (by decide), up_ne (by decide)]; exact s2
      have VS6 : VS (up (up (up (up (up c 1 3 (nI e)) 1 3 (nI g)) 9 s (nI v)) 10 s (nI w)) 7 8 (nI (s + 1))) m2 := by
        refine ⟨s + 1, by omega, by simp [up_at], (n0 28 (by decide)).trans ((m0 28 (by decide)).trans (by simp [up_at])), fun k hk => ?_⟩
        have a1 : up (up (up (up (up c 1 3 (nI e)) 1 3 (nI g)) 9 s (nI v)) 10 s (nI w)) 7 8 (nI (s + 1)) 9 = upd (c 9) s (nI v) := by rw [up_ne (by decide), up_ne (by decide), up_eq, up_ne (by decide), up_ne (by decide)]
        have a2 : up (up (up (up (up c 1 3 (nI e)) 1 3 (nI g)) 9 s (nI v)) 10 s (nI w)) 7 8 (nI (s + 1)) 10 = upd (c 10) s (nI w) := by rw [up_ne (by decide), up_eq, up_ne (by decide), up_ne (by decide), up_ne (by decide)]
        have a3 : m2 10 = upd (m 10) s (nI v) := by rw [nj 10 (by decide) (by decide), ma, up_ne (by decide)]
        have a4 : m2 11 = upd (m 11) s (nI w) := by rw [na, mj 11 (by decide) (by decide), up_ne (by decide)]
        rw [a1, a2, a3, a4]
        by_cases z : k = s
        · subst z; simp [upd]
        · have := s4 k (by omega)
          simp [upd, z]; exact this
      refine ⟨up (up (up (up (up c 1 3 (nI e)) 1 3 (nI g)) 9 s (nI v)) 10 s (nI w)) 7 8 (nI (s + 1)), q2, m2, fun Post hQ => e1 _ (f1 _ (C_star e7 hs hQ)), hM, ((((CF.rfl'.up (Or.inl ⟨rfl, by decide⟩)).up (Or.inl ⟨rfl, by decide⟩)).up (Or.inr (Or.inr (Or.inr (Or.inl rfl))))).up (Or.inr (Or.inr (Or.inr (Or.inr rfl))))).up (Or.inr (Or.inl rfl)), ⟨fun j h1 h2 => Mj j h1 (by omega), fun k h1 => M0 k (by omega) (by omega)⟩, Or.inl ⟨q0, g, g, by omega, ⟨by simp [up_at]; exact hA.1, by simp [up_at], n17, w4, w4, rfl⟩, ⟨hT.congr (by simp [up_at]) (by simp [up_ne]) (M0 15 (by decide) (by decide)) (Mj 5 (by decide) (by decide)), hR.congr (by simp [up_at]) (by simp [up_at]) (by simp [up_at]) (by simp [up_at]) (M0 20 (by decide) (by decide)) (Mj 6 (by decide) (by decide)), hW.congr (by simp [up_at]) (by simp [up_at]) (by simp [up_ne]) (M0 22 (by decide) (by decide)) (Mj 7 (by decide) (by decide)), hJ.congr (by simp [up_at]) (by simp [up_at]) (by simp [up_at]) (M0 24 (by decide) (by decide)) (Mj 8 (by decide) (by decide)), hP.congr (by simp [up_at]) (by simp [up_at]) (M0 26 (by decide) (by decide)) (Mj 9 (by decide) (by decide)), VS6, ⟨by simp [up_at]; exact hF.1, M16⟩⟩⟩⟩
    · obtain ⟨c3, k1, k2⟩ := S_star (nI v) r2 c2
      refine ⟨c3, q2, m2, fun Post hQ => e1 _ (f1 _ (k2 _ hQ)), hM, ((CF.rfl'.up (Or.inl ⟨rfl, by decide⟩)).trans p6).trans k1.cf, ?_, Or.inr (Or.inl ⟨p1, p2, k1.ne p3, (k1.1 1 (by decide) (by decide) (by decide) (by decide)).trans p4, (k1.1 2 (by decide) (by decide) (by decide) (by decide)).trans p5⟩)⟩
      refine MFr.trans ⟨fun j h1 h2 => (mj j h1 (by omega)).trans (up_ne h1), fun k h1 => (m0 k (by omega)).trans (by rw [up_at, if_neg (by omega)])⟩ p7
  · obtain ⟨r2, x, hx⟩ := S_num 1 9 q3
    obtain ⟨c3, k1, k2⟩ := S_star r r2 (up c1 1 3 x)
    have k3 : FE c1 c3 := (FE.rfl'.up3 x).trans k1
    refine ⟨c3, q, m1, fun Post hQ => e1 _ (hx _ (k2 _ hQ)), fun Post hQ => ?_, q6.trans k3.cf, (MFr.rfl'.up (Or.inl ⟨rfl, by decide, by decide⟩)).trans q7, Or.inr (Or.inl ⟨q1, q2, k3.ne q3, (k3.1 1 (by decide) (by decide) (by decide) (by decide)).trans q4, (k3.1 2 (by decide) (by decide) (by decide) (by decide)).trans q5⟩)⟩
    rintro _ rfl
    rw [en, s3]
    rintro _ rfl
    exact e2 _ ⟨fun z => absurd z q2, fun _ => hQ⟩
