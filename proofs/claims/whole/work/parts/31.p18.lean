/-! ===== pure: a clause, all clauses, what is read taken over ===== -/
theorem Cl_of {n a : Nat} {c m : St} (h : a < n) (hA : VA c m n a) : VA (up c 1 3 (nI (a + 1))) (up m 0 17 (nI (a + 1))) n (a + 1) := ⟨by simp [up_at]; exact hA.1, by simp [up_at], by simp [up_at], by omega⟩
theorem lt_n {L : Nat → Int32} {n a : Nat} (h : ¬ ltF L n a = -1) : a < n := by
  refine Nat.lt_of_not_le (fun z => h ?_)
  unfold ltF; rw [if_neg (by omega)]
theorem J_clause {c m : St} {n a : Nat} (hA : VA c m n a) (h : V0 c m n) (h32 : ¬ ltF (m 5) n a = 32) : ∃ (c' : St) (q : Int32) (m' : St), (∀ Post : St → Prop, Post c' → w_X6_readClause c Post) ∧ (∀ Post : Int32 → St → Prop, Post q m' → w_X9_takeClause m Post) ∧ Cl n a c m c' q m' := by
  have hT := h.1
  have M_h : ∀ K : Int32 → St → Prop, K (ltF (m 5) n a) m → w_X9_here m K := by
    intro K hK
    refine M_here hT hA.2.2.1 hA.2.2.2 ?_
    rw [skF_id (n := n) (by have := hA.2.2.2; omega) h32, ← hA.2.2.1, up_same]; exact hK
  have M_f : ∀ (q : Int32) (Post : Int32 → St → Prop), Post q (up m 0 16 (nI a)) → w_X9_fails q (m 0 17) m Post := by
    intro q Post hP
    rintro _ rfl
    rw [hA.2.2.1]; exact hP
  have C_b : ∀ q : Int32, ¬ q = 0 → (∀ K : Int32 → St → Prop, K q c → w_X6_faultOfWord (ltF (m 5) n a) c K) → ∀ Post : St → Prop, w_X6_setFault q (nI a) c Post → w_X6_readClause c Post := by
    intro q hq hf Post hP
    refine C_lt hT hA.2.1 hA.2.2.2 (hf _ ⟨fun z => absurd z hq, fun _ => ?_⟩)
    rw [hA.2.1]; exact hP
  have hl := h.2.1.1
  obtain ⟨-, hR, hW, hJ, hP, hS, -⟩ := id h
  have h20 : m 0 20 = 0 ∨ m 0 20 = 1 := by rcases hR.2 with z | z; exact Or.inl z.1; exact Or.inr z.1
  generalize hx : ltF (m 5) n a = x at M_h C_b h32
  by_cases n109 : x = 109
  · subst n109
    have han : a < n := lt_n (by rw [hx]; decide)
    rcases h20 with hm | hm
    · skip
      refine clause_ok (BC := w_X6_readRates) (BM := w_X9_takeMount) hT (fun Post hQ => C_lt hT hA.2.1 hA.2.2.2 ?_) (fun Post hQ => M_h _ ⟨fun z => absurd rfl z, fun _ => ⟨fun z => absurd z (by decide), fun _ => ⟨fun _ => ⟨fun z => absurd rfl z, fun _ => ⟨fun _ => ?_, fun z => absurd hm z⟩⟩, fun z => absurd (by decide) z⟩⟩⟩) ?_
      · rw [hx]
        have hK : ∀ K : Int32 → St → Prop, K 0 c → w_X6_faultOfWord 109 c K := fun K hK => ⟨fun z => absurd (hl.trans hm) z, fun _ => ⟨fun z => absurd rfl z, fun _ => hK⟩⟩
        refine hK _ ⟨fun _ => ?_, fun z => absurd rfl z⟩
        rintro _ rfl
        rw [hA.2.1, nI_1]
        exact ⟨fun z => absurd z (by decide), fun _ => ⟨fun _ => hQ, fun z => absurd rfl z⟩⟩
      · rintro _ rfl
        rw [hA.2.2.1, nI_1]
        exact ⟨fun z => absurd rfl z, fun _ => hQ⟩
      · exact J_rates (Cl_of han hA) (h.at' _ _)
    · have hm1 : ¬ m 0 20 = 0 := by rw [hm]; decide
      exact clause_bad (q := 3) hA (Or.inr rfl) (C_b 3 (by decide) (fun K hK => ⟨fun _ => ⟨fun z => absurd z (by decide), fun _ => ⟨fun z => absurd z (by decide), fun _ => ⟨fun _ => hK, fun z => absurd rfl z⟩⟩⟩, fun z => absurd (hl.symm.trans z) hm1⟩)) (fun Post hQ => M_h _ ⟨fun z => absurd rfl z, fun _ => ⟨fun z => absurd z (by decide), fun _ => ⟨fun _ => ⟨fun z => absurd rfl z, fun _ => ⟨fun z => absurd z hm1, fun _ => M_f 3 _ hQ⟩⟩, fun z => absurd (by decide) z⟩⟩⟩)
  by_cases n119 : x = 119
  · subst n119
    have han : a < n := lt_n (by rw [hx]; decide)
    by_cases hm : m 0 20 = 0
    · skip
      exact clause_bad (q := 1) hA (Or.inl rfl) (C_b 1 (by decide) (fun K hK => ⟨fun z => absurd (hl.trans hm) z, fun _ => ⟨fun _ => hK, fun z => absurd z (by decide)⟩⟩)) (fun Post hQ => M_h _ ⟨fun _ => ⟨fun z => absurd rfl z, fun _ => ⟨fun z => absurd z (by decide), fun _ => ⟨fun z => absurd z (by decide), fun _ => ⟨fun z => absurd hm z, fun _ => M_f 1 _ hQ⟩⟩⟩⟩, fun z => absurd z (by decide)⟩)
    · rcases hW with ⟨w1, w2, -⟩ | ⟨w1, w, w2, w3, w4, -⟩
      · skip
        refine clause_ok (BC := w_X6_readWorm) (BM := w_X9_takeWorm) hT (fun Post hQ => C_lt hT hA.2.1 hA.2.2.2 ?_) (fun Post hQ => M_h _ ⟨fun _ => ⟨fun z => absurd rfl z, fun _ => ⟨fun z => absurd z (by decide), fun _ => ⟨fun z => absurd z (by decide), fun _ => ⟨fun _ => ⟨fun _ => ⟨fun z => absurd rfl z, fun _ => ⟨fun _ => ⟨fun _ => ?_, fun z => absurd rfl z⟩, fun z => absurd (by rw [w2]; decide) z⟩⟩, fun z => absurd z (by decide)⟩, fun z => absurd z hm⟩⟩⟩⟩, fun z => absurd z (by decide)⟩) ?_
        · rw [hx]
          have hK : ∀ K : Int32 → St → Prop, K 0 c → w_X6_faultOfWord 119 c K := fun K hK => ⟨fun _ => ⟨fun z => absurd z (by decide), fun _ => ⟨fun z => absurd z (by decide), fun _ => ⟨fun z => absurd z (by decide), fun _ => ⟨fun z => absurd z (by decide), fun _ => ⟨fun _ => ⟨fun _ => hK, fun z => absurd w1 z⟩, fun z => absurd rfl z⟩⟩⟩⟩⟩, fun z => absurd (hl.symm.trans z) hm⟩
          refine hK _ ⟨fun _ => ?_, fun z => absurd rfl z⟩
          rintro _ rfl
          rw [hA.2.1, nI_1]
          exact ⟨fun z => absurd z (by decide), fun _ => ⟨fun z => absurd z (by decide), fun _ => ⟨fun z => absurd z (by decide), fun _ => ⟨fun _ => hQ, fun z => absurd rfl z⟩⟩⟩⟩
        · rintro _ rfl
          rw [hA.2.2.1, nI_1]
          exact ⟨fun _ => ⟨fun z => absurd rfl z, fun _ => hQ⟩, fun z => absurd z (by decide)⟩
        · exact J_worm (Cl_of han hA) (h.at' _ _)
      · skip
        exact clause_bad (q := 3) hA (Or.inr rfl) (C_b 3 (by decide) (fun K hK => ⟨fun _ => ⟨fun z => absurd z (by decide), fun _ => ⟨fun z => absurd z (by decide), fun _ => ⟨fun z => absurd z (by decide), fun _ => ⟨fun z => absurd z (by decide), fun _ => ⟨fun _ => ⟨fun z => absurd (w1.symm.trans z) (by decide), fun _ => hK⟩, fun z => absurd rfl z⟩⟩⟩⟩⟩, fun z => absurd (hl.symm.trans z) hm⟩)) (fun Post hQ => M_h _ ⟨fun _ => ⟨fun z => absurd rfl z, fun _ => ⟨fun z => absurd z (by decide), fun _ => ⟨fun z => absurd z (by decide), fun _ => ⟨fun _ => ⟨fun _ => ⟨fun z => absurd rfl z, fun _ => ⟨fun z => absurd (by rw [w4] at z; exact z) (nI_nle w2 (by omega)), fun _ => ⟨fun z => absurd z (by decide), fun _ => M_f 3 _ hQ⟩⟩⟩, fun z => absurd z (by decide)⟩, fun z => absurd z hm⟩⟩⟩⟩, fun z => absurd z (by decide)⟩)
  by_cases n106 : x = 106
  · subst n106
    have han : a < n := lt_n (by rw [hx]; decide)
    by_cases hm : m 0 20 = 0
    · skip
      exact clause_bad (q := 1) hA (Or.inl rfl) (C_b 1 (by decide) (fun K hK => ⟨fun z => absurd (hl.trans hm) z, fun _ => ⟨fun _ => hK, fun z => absurd z (by decide)⟩⟩)) (fun Post hQ => M_h _ ⟨fun _ => ⟨fun _ => ⟨fun z => absurd rfl z, fun _ => ⟨fun z => absurd z (by decide), fun _ => ⟨fun z => absurd z (by decide), fun _ => ⟨fun z => absurd hm z, fun _ => M_f 1 _ hQ⟩⟩⟩⟩, fun z => absurd z (by decide)⟩, fun z => absurd z (by decide)⟩)
    · rcases hJ with ⟨w1, w2, -⟩ | ⟨w1, w2, -⟩
      · skip
        refine clause_ok (BC := w_X6_readJump) (BM := w_X9_takeJump) hT (fun Post hQ => C_lt hT hA.2.1 hA.2.2.2 ?_) (fun Post hQ => M_h _ ⟨fun _ => ⟨fun _ => ⟨fun z => absurd rfl z, fun _ => ⟨fun z => absurd z (by decide), fun _ => ⟨fun z => absurd z (by decide), fun _ => ⟨fun _ => ⟨fun _ => ⟨fun _ => ⟨fun z => absurd rfl z, fun _ => ⟨fun _ => ?_, fun z => absurd w2 z⟩⟩, fun z => absurd z (by decide)⟩, fun z => absurd z (by decide)⟩, fun z => absurd z hm⟩⟩⟩⟩, fun z => absurd z (by decide)⟩, fun z => absurd z (by decide)⟩) ?_
        · rw [hx]
          have hK : ∀ K : Int32 → St → Prop, K 0 c → w_X6_faultOfWord 106 c K := fun K hK => ⟨fun _ => ⟨fun z => absurd z (by decide), fun _ => ⟨fun _ => ⟨fun _ => hK, fun z => absurd w1 z⟩, fun z => absurd rfl z⟩⟩, fun z => absurd (hl.symm.trans z) hm⟩
          refine hK _ ⟨fun _ => ?_, fun z => absurd rfl z⟩
          rintro _ rfl
          rw [hA.2.1, nI_1]
          exact ⟨fun _ => hQ, fun z => absurd rfl z⟩
        · rintro _ rfl
          rw [hA.2.2.1, nI_1]
          exact ⟨fun _ => ⟨fun _ => ⟨fun z => absurd rfl z, fun _ => hQ⟩, fun z => absurd z (by decide)⟩, fun z => absurd z (by decide)⟩
        · exact J_jump (Cl_of han hA) (h.at' _ _)
      · skip
        exact clause_bad (q := 3) hA (Or.inr rfl) (C_b 3 (by decide) (fun K hK => ⟨fun _ => ⟨fun z => absurd z (by decide), fun _ => ⟨fun _ => ⟨fun z => absurd (w1.symm.trans z) (by decide), fun _ => hK⟩, fun z => absurd rfl z⟩⟩, fun z => absurd (hl.symm.trans z) hm⟩)) (fun Post hQ => M_h _ ⟨fun _ => ⟨fun _ => ⟨fun z => absurd rfl z, fun _ => ⟨fun z => absurd z (by decide), fun _ => ⟨fun z => absurd z (by decide), fun _ => ⟨fun _ => ⟨fun _ => ⟨fun _ => ⟨fun z => absurd rfl z, fun _ => ⟨fun z => absurd (w2.symm.trans z) (by decide), fun _ => M_f 3 _ hQ⟩⟩, fun z => absurd z (by decide)⟩, fun z => absurd z (by decide)⟩, fun z => absurd z hm⟩⟩⟩⟩, fun z => absurd z (by decide)⟩, fun z => absurd z (by decide)⟩)
  by_cases n115 : x = 115
  · subst n115
    have han : a < n := lt_n (by rw [hx]; decide)
    by_cases hm : m 0 20 = 0
    · skip
      exact clause_bad (q := 1) hA (Or.inl rfl) (C_b 1 (by decide) (fun K hK => ⟨fun z => absurd (hl.trans hm) z, fun _ => ⟨fun _ => hK, fun z => absurd z (by decide)⟩⟩)) (fun Post hQ => M_h _ ⟨fun _ => ⟨fun _ => ⟨fun _ => ⟨fun z => absurd rfl z, fun _ => ⟨fun z => absurd z (by decide), fun _ => ⟨fun z => absurd z (by decide), fun _ => ⟨fun z => absurd hm z, fun _ => M_f 1 _ hQ⟩⟩⟩⟩, fun z => absurd z (by decide)⟩, fun z => absurd z (by decide)⟩, fun z => absurd z (by decide)⟩)
    · obtain ⟨s, s1, s2, s3, -⟩ := hS
      by_cases hs6 : m 0 28 = 6
      · have h6 : ¬ c 7 8 < 6 := by rw [s2, ← s3, hs6]; decide
        exact clause_bad (q := 3) hA (Or.inr rfl) (C_b 3 (by decide) (fun K hK => ⟨fun _ => ⟨fun z => absurd z (by decide), fun _ => ⟨fun z => absurd z (by decide), fun _ => ⟨fun z => absurd z (by decide), fun _ => ⟨fun _ => ⟨fun z => absurd z h6, fun _ => hK⟩, fun z => absurd rfl z⟩⟩⟩⟩, fun z => absurd (hl.symm.trans z) hm⟩)) (fun Post hQ => M_h _ ⟨fun _ => ⟨fun _ => ⟨fun _ => ⟨fun z => absurd rfl z, fun _ => ⟨fun z => absurd z (by decide), fun _ => ⟨fun z => absurd z (by decide), fun _ => ⟨fun _ => ⟨fun _ => ⟨fun _ => ⟨fun _ => ⟨fun z => absurd rfl z, fun _ => ⟨fun z => absurd hs6 z, fun _ => ⟨fun z => absurd z (by decide), fun _ => M_f 3 _ hQ⟩⟩⟩, fun z => absurd z (by decide)⟩, fun z => absurd z (by decide)⟩, fun z => absurd z (by decide)⟩, fun z => absurd z hm⟩⟩⟩⟩, fun z => absurd z (by decide)⟩, fun z => absurd z (by decide)⟩, fun z => absurd z (by decide)⟩)
      · have h6 : c 7 8 < 6 := by
          rw [s2]; refine nI_lt (a := s) (b := 6) (Nat.lt_of_le_of_ne s1 (fun z => hs6 ?_)) (by decide)
          rw [s3, z]; rfl
        refine clause_ok (BC := w_X6_readStar) (BM := w_X9_takeStar) hT (fun Post hQ => C_lt hT hA.2.1 hA.2.2.2 ?_) (fun Post hQ => M_h _ ⟨fun _ => ⟨fun _ => ⟨fun _ => ⟨fun z => absurd rfl z, fun _ => ⟨fun z => absurd z (by decide), fun _ => ⟨fun z => absurd z (by decide), fun _ => ⟨fun _ => ⟨fun _ => ⟨fun _ => ⟨fun _ => ⟨fun z => absurd rfl z, fun _ => ⟨fun _ => ⟨fun _ => ?_, fun z => absurd rfl z⟩, fun z => absurd z hs6⟩⟩, fun z => absurd z (by decide)⟩, fun z => absurd z (by decide)⟩, fun z => absurd z (by decide)⟩, fun z => absurd z hm⟩⟩⟩⟩, fun z => absurd z (by decide)⟩, fun z => absurd z (by decide)⟩, fun z => absurd z (by decide)⟩) ?_
        · rw [hx]
          have hK : ∀ K : Int32 → St → Prop, K 0 c → w_X6_faultOfWord 115 c K := fun K hK => ⟨fun _ => ⟨fun z => absurd z (by decide), fun _ => ⟨fun z => absurd z (by decide), fun _ => ⟨fun z => absurd z (by decide), fun _ => ⟨fun _ => ⟨fun _ => hK, fun z => absurd h6 z⟩, fun z => absurd rfl z⟩⟩⟩⟩, fun z => absurd (hl.symm.trans z) hm⟩
          refine hK _ ⟨fun _ => ?_, fun z => absurd rfl z⟩
          rintro _ rfl
          rw [hA.2.1, nI_1]
          exact ⟨fun z => absurd z (by decide), fun _ => ⟨fun z => absurd z (by decide), fun _ => ⟨fun _ => hQ, fun z => absurd rfl z⟩⟩⟩
        · rintro _ rfl
          rw [hA.2.2.1, nI_1]
          exact ⟨fun _ => ⟨fun _ => ⟨fun _ => ⟨fun z => absurd rfl z, fun _ => hQ⟩, fun z => absurd z (by decide)⟩, fun z => absurd z (by decide)⟩, fun z => absurd z (by decide)⟩
        · exact J_star (Cl_of han hA) (h.at' _ _) (by simp [up_at]; exact hs6)
  by_cases n98 : x = 98
  · subst n98
    have han : a < n := lt_n (by rw [hx]; decide)
    by_cases hm : m 0 20 = 0
    · skip
      exact clause_bad (q := 1) hA (Or.inl rfl) (C_b 1 (by decide) (fun K hK => ⟨fun z => absurd (hl.trans hm) z, fun _ => ⟨fun _ => hK, fun z => absurd z (by decide)⟩⟩)) (fun Post hQ => M_h _ ⟨fun _ => ⟨fun _ => ⟨fun _ => ⟨fun _ => ⟨fun z => absurd rfl z, fun _ => ⟨fun z => absurd z (by decide), fun _ => ⟨fun z => absurd z (by decide), fun _ => ⟨fun z => absurd hm z, fun _ => M_f 1 _ hQ⟩⟩⟩⟩, fun z => absurd z (by decide)⟩, fun z => absurd z (by decide)⟩, fun z => absurd z (by decide)⟩, fun z => absurd z (by decide)⟩)
    · rcases hP with ⟨w1, w2, -⟩ | ⟨w1, w2, -⟩
      · skip
        refine clause_ok (BC := w_X6_readButtons) (BM := w_X9_takePress) hT (fun Post hQ => C_lt hT hA.2.1 hA.2.2.2 ?_) (fun Post hQ => M_h _ ⟨fun _ => ⟨fun _ => ⟨fun _ => ⟨fun _ => ⟨fun z => absurd rfl z, fun _ => ⟨fun z => absurd z (by decide), fun _ => ⟨fun z => absurd z (by decide), fun _ => ⟨fun _ => ⟨fun _ => ⟨fun _ => ⟨fun _ => ⟨fun _ => ⟨fun _ => ?_, fun z => absurd w2 z⟩, fun z => absurd z (by decide)⟩, fun z => absurd z (by decide)⟩, fun z => absurd z (by decide)⟩, fun z => absurd z (by decide)⟩, fun z => absurd z hm⟩⟩⟩⟩, fun z => absurd z (by decide)⟩, fun z => absurd z (by decide)⟩, fun z => absurd z (by decide)⟩, fun z => absurd z (by decide)⟩) ?_
        · rw [hx]
          have hK : ∀ K : Int32 → St → Prop, K 0 c → w_X6_faultOfWord 98 c K := fun K hK => ⟨fun _ => ⟨fun _ => ⟨fun _ => hK, fun z => absurd w1 z⟩, fun z => absurd rfl z⟩, fun z => absurd (hl.symm.trans z) hm⟩
          refine hK _ ⟨fun _ => ?_, fun z => absurd rfl z⟩
          rintro _ rfl
          rw [hA.2.1, nI_1]
          exact ⟨fun z => absurd z (by decide), fun _ => ⟨fun z => absurd z (by decide), fun _ => ⟨fun z => absurd z (by decide), fun _ => ⟨fun z => absurd z (by decide), fun _ => hQ⟩⟩⟩⟩
        · rintro _ rfl
          rw [hA.2.2.1, nI_1]
          exact ⟨fun _ => ⟨fun _ => ⟨fun _ => ⟨fun _ => hQ, fun z => absurd z (by decide)⟩, fun z => absurd z (by decide)⟩, fun z => absurd z (by decide)⟩, fun z => absurd z (by decide)⟩
        · exact J_press (Cl_of han hA) (h.at' _ _)
      · skip
        exact clause_bad (q := 3) hA (Or.inr rfl) (C_b 3 (by decide) (fun K hK => ⟨fun _ => ⟨fun _ => ⟨fun z => absurd (w1.symm.trans z) (by decide), fun _ => hK⟩, fun z => absurd rfl z⟩, fun z => absurd (hl.symm.trans z) hm⟩)) (fun Post hQ => M_h _ ⟨fun _ => ⟨fun _ => ⟨fun _ => ⟨fun _ => ⟨fun z => absurd rfl z, fun _ => ⟨fun z => absurd z (by decide), fun _ => ⟨fun z => absurd z (by decide), fun _ => ⟨fun _ => ⟨fun _ => ⟨fun _ => ⟨fun _ => ⟨fun _ => ⟨fun z => absurd (w2.symm.trans z) (by decide), fun _ => M_f 3 _ hQ⟩, fun z => absurd z (by decide)⟩, fun z => absurd z (by decide)⟩, fun z => absurd z (by decide)⟩, fun z => absurd z (by decide)⟩, fun z => absurd z hm⟩⟩⟩⟩, fun z => absurd z (by decide)⟩, fun z => absurd z (by decide)⟩, fun z => absurd z (by decide)⟩, fun z => absurd z (by decide)⟩)
  · refine clause_bad (q := 1) hA (Or.inl rfl) (C_b 1 (by decide) (fun K hK => ⟨fun _ => ⟨fun z => absurd z n98, fun _ => ⟨fun z => absurd z n106, fun _ => ⟨fun z => absurd z n109, fun _ => ⟨fun z => absurd z n115, fun _ => ⟨fun z => absurd z n119, fun _ => hK⟩⟩⟩⟩⟩, fun _ => ⟨fun _ => hK, fun z => absurd z n109⟩⟩)) (fun Post hQ => M_h _ ⟨fun _ => ⟨fun _ => ⟨fun _ => ⟨fun _ => ⟨fun _ => ⟨fun _ => M_f 1 _ hQ, fun z => absurd (by decide) z⟩, fun z => absurd z n98⟩, fun z => absurd z n115⟩, fun z => absurd z n106⟩, fun z => absurd z n119⟩, fun z => absurd z n109⟩)
theorem J_loop {n : Nat} : ∀ (j f1 f2 i s a : Nat) (c m : St), s + j = n → i ≤ s → j + 1 < f1 → j + 1 < f2 → V0 c m n → c 1 1 = 0 → c 1 3 = nI s → m 0 17 = nI a → a ≤ n → s = skF (m 5) (n - a) a → ∃ (c' : St) (q : Int32) (m' : St),
    (∀ Post : St → Prop, w_X6_readInto_J80 Post c' → w_X6_readInto_L40 Post f1 (nI i) c) ∧ (∀ Post : Int32 → St → Prop, w_X9_mount_J56 Post q m' → w_X9_mount_L37 Post f2 0 m) ∧ CF c c' ∧ MFr m m' ∧
    ((q = 0 ∧ c' 1 1 = 0 ∧ V0 c' m' n) ∨ ((q = 1 ∨ q = 2 ∨ q = 3) ∧ c' 1 1 = q ∧ c' 1 2 = m' 0 16)) := by
  intro j
  induction j using Nat.strongRecOn with
  | ind j ih =>
    intro f1 f2 i s a c m h1 hi hf1 hf2 hV hc1 hc3 hm17 ha hs
    obtain ⟨g1, rfl⟩ : ∃ z, f1 = z + 1 := ⟨f1 - 1, by omega⟩
    obtain ⟨g2, rfl⟩ : ∃ z, f2 = z + 1 := ⟨f2 - 1, by omega⟩
    have hT := hV.1
    have hn := hT.2.2.1
    have h32 := skF_32 (m 5) (n - a) a n (by omega)
    have V1 : V0 c (up m 0 17 (nI s)) n := by
      have := hV.at' (nI s) (nI s)
      rwa [← hc3, up_same, hc3] at this
    by_cases hsn : s = n
    · refine ⟨c, 0, up m 0 17 (nI s), fun Post hP => ⟨fun _ => hP, fun _ => ⟨fun _ => hP, fun z => absurd (by rw [hT.1, hc3, hsn]; exact Int32.le_refl _) z⟩⟩, fun Post hP => ⟨fun z => absurd rfl z, fun _ => M_here hT hm17 ha ?_⟩, CF.rfl', MFr.rfl'.up (Or.inl ⟨rfl, by decide, by decide⟩), Or.inl ⟨rfl, hc1, V1⟩⟩
      rw [← hs]
      refine ⟨fun _ => hP, fun z => absurd ?_ z⟩
      unfold ltF; rw [if_neg (by omega)]; decide
    · rw [← hs] at h32
      have e5 : up m 0 17 (nI s) 5 = m 5 := up_ne (by decide)
      obtain ⟨c1, q, m1, e1, e2, e3, e4, e6⟩ := J_clause (c := c) (m := up m 0 17 (nI s)) (n := n) (a := s) ⟨hc1, hc3, by simp [up_at], by omega⟩ V1 (by rw [e5]; exact h32)
      have hM : ∀ Post : Int32 → St → Prop, w_X9_mount_L37 Post g2 q m1 → w_X9_mount_L37 Post (g2 + 1) 0 m := by
        intro Post hP
        refine ⟨fun z => absurd rfl z, fun _ => M_here hT hm17 ha ?_⟩
        rw [← hs]
        refine ⟨fun z => absurd z ?_, fun _ => e2 _ hP⟩
        unfold ltF; rw [if_pos (by omega)]
        obtain ⟨x, hx, ex⟩ := (hT.2.2.2 s (by omega)).2
        rw [ex]; exact nI_pos (by omega)
      have hC : ∀ Post : St → Prop, w_X6_skipBlanks c1 (fun σ13 => ∀ x14 : Int32, x14 = nI i + (1 : Int32) → w_X6_readInto_L40 Post g1 x14 σ13) → w_X6_readInto_L40 Post (g1 + 1) (nI i) c := by
        intro Post hP
        refine ⟨fun z => absurd z (nI_ge (a := i) (b := 230) (by omega) (by decide)), fun _ => ⟨fun z => absurd z ?_, fun _ => ⟨fun z => absurd hc1 z, fun _ => e1 _ hP⟩⟩⟩
        rw [hT.1, hc3]; exact nI_ge (by omega) (by omega)
      have E4 : MFr m m1 := (MFr.rfl'.up (Or.inl ⟨rfl, by decide, by decide⟩)).trans e4
      rcases e6 with ⟨q0, e, k1, k2, k3⟩ | ⟨k1, k2, k3, k4⟩
      · subst q0
        have hk := skF_le (m1 5) (n - e) e
        have k24 := k2.2.2.2
        obtain ⟨c', q', m', y1, y2, y3, y4, y5⟩ := ih (n - skF (m1 5) (n - e) e) (by omega) g1 g2 (i + 1) (skF (m1 5) (n - e) e) e (up c1 1 3 (nI (skF (m1 5) (n - e) e))) m1 (by omega) (by omega) (by omega) (by omega) (by
          have := k3.at' (nI (skF (m1 5) (n - e) e)) (m1 0 17)
          rwa [up_same] at this) (by simp [up_at]; exact k2.1) (by simp [up_at]) k2.2.2.1 k24 rfl
        refine ⟨c', q', m', fun Post hP => hC Post (C_skip k3.1 k2.2.1 k24 ?_), fun Post hP => hM Post (y2 Post hP), (e3.up (Or.inl ⟨rfl, by decide⟩)).trans y3, E4.trans y4, y5⟩
        rintro _ rfl
        rw [nI_1]; exact y1 Post hP
      · obtain ⟨x, hx⟩ := S_skip c1
        obtain ⟨g3, rfl⟩ : ∃ z, g1 = z + 1 := ⟨g1 - 1, by omega⟩
        obtain ⟨g4, rfl⟩ : ∃ z, g2 = z + 1 := ⟨g2 - 1, by omega⟩
        have hq0 : ¬ q = 0 := by rw [← k3]; exact k2
        refine ⟨up c1 1 3 x, q, m1, fun Post hP => hC Post (hx _ ?_), fun Post hP => hM Post ⟨fun _ => hP, fun z => absurd z hq0⟩, e3.up (Or.inl ⟨rfl, by decide⟩), E4, Or.inr ⟨k1, by simp [up_at]; exact k3, by simp [up_at]; exact k4⟩⟩
        rintro _ rfl
        exact ⟨fun _ => hP, fun _ => ⟨fun _ => hP, fun _ => ⟨fun _ => hP, fun z => absurd z (up3_ne k2)⟩⟩⟩
/-! the class's mounting taken over -/
theorem C_copyMount {c : St} {Post : St → Prop} (h0 : c 7 0 = 0 ∨ c 7 0 = 1) (h : ∀ σ : St, (∀ j, (j < 3 ∨ 6 < j) → σ j = c j) → (∀ z, z < 9 → σ 3 z = c 7 z) → (∀ z, z < 9 → σ 4 z = c 8 z) → (∀ z, z < 6 → σ 5 z = c 9 z ∧ σ 6 z = c 10 z) → Post σ) : w_X3_copyFrom c Post := by
  refine ⟨h0, ?_⟩
  rintro _ rfl _ rfl _ rfl _ rfl _ rfl _ rfl _ rfl _ rfl _ rfl
  simp only [up_ne (show (7 : Nat) ≠ 3 by decide)]
  refine up_loop (L := fun n k σ' => w_X3_copyFrom_L74 Post n k σ') (N := 9) (I := fun k σ => (∀ j, (j < 3 ∨ 4 < j) → σ j = c j) ∧ (∀ z, z < 9 → σ 3 z = c 7 z) ∧ ∀ z, z < k → σ 4 z = c 8 z) ?_ ?_ 9 FU 0 _ rfl (by decide) ⟨fun j hj => ?_, fun z hz => ?_, fun z hz => absurd hz (Nat.not_lt_zero z)⟩
  · rintro n σ ⟨k1, k2, k3⟩
    refine ⟨fun _ => ?_, fun q => absurd (by decide) q⟩
    refine up_loop (L := fun n k σ' => w_X3_copyFrom_L102 Post n k σ') (N := 6) (I := fun k σ => (∀ j, (j < 3 ∨ 6 < j) → σ j = c j) ∧ (∀ z, z < 9 → σ 3 z = c 7 z) ∧ (∀ z, z < 9 → σ 4 z = c 8 z) ∧ ∀ z, z < k → σ 5 z = c 9 z ∧ σ 6 z = c 10 z) ?_ ?_ 6 FU 0 σ rfl (by decide) ⟨fun j hj => k1 j (by omega), k2, k3, fun z hz => absurd hz (Nat.not_lt_zero z)⟩
    · rintro n2 σ2 ⟨y1, y2, y3, y4⟩
      exact ⟨fun _ => h σ2 y1 y2 y3 y4, fun q => absurd (by decide) q⟩
    · rintro n2 k σ2 hk ⟨y1, y2, y3, y4⟩ K
      have nk : ¬ nI 6 ≤ nI k := nI_ge hk (by decide)
      have n0 : ¬ nI k < 0 := nI_pos (by omega)
      refine ⟨fun q => absurd q nk, fun _ => ⟨fun q => absurd q nk, fun _ => ⟨fun q => absurd q n0, fun _ => ⟨fun q => absurd q nk, fun _ => ⟨vp_in_nI hk (by decide), vp_in_nI hk (by decide), ?_⟩⟩⟩⟩⟩
      rw [nI_clamp (by omega)]
      rintro _ rfl
      refine ⟨fun q => absurd q n0, fun _ => ⟨fun q => absurd q nk, fun _ => ⟨vp_in_nI hk (by decide), vp_in_nI hk (by decide), ?_⟩⟩⟩
      rw [nI_clamp (by omega)]
      rintro _ rfl _ rfl
      rw [nI_1]
      refine K _ ⟨fun j hj => ?_, fun z hz => ?_, fun z hz => ?_, fun z hz => ?_⟩
      · rw [up_ne (by omega), up_ne (by omega)]; exact y1 j hj
      · rw [up_ne (by decide), up_ne (by decide)]; exact y2 z hz
      · rw [up_ne (by decide), up_ne (by decide)]; exact y3 z hz
      · have w9 : σ2 9 = c 9 := y1 9 (by decide)
        have w10 : σ2 10 = c 10 := y1 10 (by decide)
        by_cases e : z = k
        · subst e
          refine ⟨?_, ?_⟩
          · rw [up_at, if_neg (by omega), up_at, if_pos ⟨rfl, rfl⟩]; show σ2 9 z = _; rw [w9]
          · rw [up_at, if_pos ⟨rfl, rfl⟩]; show up σ2 5 z _ 10 z = _; rw [up_ne (by decide), w10]
        · have := y4 z (by omega)
          rw [up_at, if_neg (by omega), up_at, if_neg (fun q => e q.2), up_at, if_neg (fun q => e q.2), up_ne (by decide)]
          exact this
  · rintro n k σ hk ⟨k1, k2, k3⟩ K
    have nk : ¬ nI 9 ≤ nI k := nI_ge hk (by decide)
    have n0 : ¬ nI k < 0 := nI_pos (by omega)
    refine ⟨fun q => absurd q nk, fun _ => ⟨fun q => absurd q n0, fun _ => ⟨fun q => absurd q nk, fun _ => ⟨vp_in_nI hk (by decide), vp_in_nI hk (by decide), ?_⟩⟩⟩⟩
    rw [nI_clamp (by omega)]
    rintro _ rfl _ rfl
    rw [nI_1]
    refine K _ ⟨fun j hj => ?_, fun z hz => ?_, fun z hz => ?_⟩
    · rw [up_ne (by omega)]; exact k1 j hj
    · rw [up_ne (by decide)]; exact k2 z hz
    · have w8 : σ 8 = c 8 := k1 8 (by decide)
      by_cases e : z = k
      · subst e
        rw [up_at, if_pos ⟨rfl, rfl⟩]; show σ 8 z = _; rw [w8]
      · rw [up_at, if_neg (fun q => e q.2)]; exact k3 z (by omega)
  · have : j ≠ 3 := by omega
    simp only [up_ne this]
  · have : z = 0 ∨ z = 1 ∨ z = 2 ∨ z = 3 ∨ z = 4 ∨ z = 5 ∨ z = 6 ∨ z = 7 ∨ z = 8 := by omega
    rcases this with rfl | rfl | rfl | rfl | rfl | rfl | rfl | rfl | rfl <;> simp [up_at]
