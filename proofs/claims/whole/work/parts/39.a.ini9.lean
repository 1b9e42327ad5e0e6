/-! ===== the start: the two worlds as the constructors leave them ===== -/
def qC (h0 q1 q2 q3 q4 q5 q6 q7 q8 q9 q10 q11 q12 q13 q14 q15 q16 q17 q18 q19 q20 q21 q22 q23 q24 q25 q26 q27 q28 q29 q30 q31 q32 q33 q34 q35 q36 q37 q38 q39 q40 q41 q42 q43 q44 q45 q46 q47 : Nat) : Nat → Nat := fun i => match i with
  | 0 => h0
  | 1 => q1
  | 2 => q2
  | 3 => q3
  | 4 => q4
  | 5 => q5
  | 6 => q6
  | 7 => q7
  | 8 => q8
  | 9 => q9
  | 10 => q10
  | 11 => q11
  | 12 => q12
  | 13 => q13
  | 14 => q14
  | 15 => q15
  | 16 => q16
  | 17 => q17
  | 18 => q18
  | 19 => q19
  | 20 => q20
  | 21 => q21
  | 22 => q22
  | 23 => q23
  | 24 => q24
  | 25 => q25
  | 26 => q26
  | 27 => q27
  | 28 => q28
  | 29 => q29
  | 30 => q30
  | 31 => q31
  | 32 => q32
  | 33 => q33
  | 34 => q34
  | 35 => q35
  | 36 => q36
  | 37 => q37
  | 38 => q38
  | 39 => q39
  | 40 => q40
  | 41 => q41
  | 42 => q42
  | 43 => q43
  | 44 => q44
  | 45 => q45
  | 46 => q46
  | _ => q47
def qM (h0 q1 q2 q3 q4 q5 q6 q7 q8 q9 q10 q11 q12 q13 q14 q15 q16 q17 q18 q19 q20 q21 q22 : Nat) : Nat → Nat := fun i => match i with
  | 0 => h0
  | 1 => q1
  | 2 => q2
  | 3 => q3
  | 4 => q4
  | 5 => q5
  | 6 => q6
  | 7 => q7
  | 8 => q8
  | 9 => q9
  | 10 => q10
  | 11 => q11
  | 12 => q12
  | 13 => q13
  | 14 => q14
  | 15 => q15
  | 16 => q16
  | 17 => q17
  | 18 => q18
  | 19 => q19
  | 20 => q20
  | 21 => q21
  | _ => q22
def mt0 : Nat → Int32 := fun k => match k with
  | 4 => 1
  | 5 => -1
  | 7 => 1
  | _ => 0
def rd0 : Nat → Int32 := fun k => match k with
  | 2 => -1
  | _ => 0
def md0 : Nat → Int32 := fun k => match k with
  | 4 => 1
  | 6 => -1
  | 8 => 1
  | 16 => -1
  | _ => 0
def σc0 : St := fun i => match i with
  | 1 => rd0
  | 3 => mt0
  | 7 => mt0
  | _ => fun _ => 0
def σm0 : St := fun i => match i with
  | 0 => md0
  | _ => fun _ => 0
theorem ring_eq (h0 q1 q2 q3 q4 q5 q6 q7 q8 q9 q10 q11 q12 q13 q14 q15 q16 q17 q18 q19 q20 q21 q22 q23 q24 q25 q26 q27 q28 q29 q30 q31 q32 q33 q34 q35 q36 q37 q38 q39 q40 q41 q42 q43 q44 q45 q46 q47 : Nat) : (va_up (va_up (va_up (va_up (va_up (va_up (va_up (va_up (va_up (va_up (va_up (va_up (va_up (va_up (va_up (va_up (va_up (va_up (va_up (va_up (fun _ => none) 0 (some q16)) 1 (some q17)) 2 (some q18)) 3 (some q19)) 4 (some q20)) 5 (some q21)) 6 (some q22)) 7 (some q23)) 8 (some q24)) 9 (some q25)) 10 (some q26)) 11 (some q27)) 12 (some q28)) 13 (some q29)) 14 (some q30)) 15 (some q31)) 16 (some q32)) 17 (some q33)) 18 (some q34)) 19 (some q35)) = fun j => if j < 20 then some (qC h0 q1 q2 q3 q4 q5 q6 q7 q8 q9 q10 q11 q12 q13 q14 q15 q16 q17 q18 q19 q20 q21 q22 q23 q24 q25 q26 q27 q28 q29 q30 q31 q32 q33 q34 q35 q36 q37 q38 q39 q40 q41 q42 q43 q44 q45 q46 q47 (16 + j)) else none := by
  funext j
  by_cases h : j < 20
  · have : j = 0 ∨ j = 1 ∨ j = 2 ∨ j = 3 ∨ j = 4 ∨ j = 5 ∨ j = 6 ∨ j = 7 ∨ j = 8 ∨ j = 9 ∨ j = 10 ∨ j = 11 ∨ j = 12 ∨ j = 13 ∨ j = 14 ∨ j = 15 ∨ j = 16 ∨ j = 17 ∨ j = 18 ∨ j = 19 := by omega
    rcases this with rfl | rfl | rfl | rfl | rfl | rfl | rfl | rfl | rfl | rfl | rfl | rfl | rfl | rfl | rfl | rfl | rfl | rfl | rfl | rfl <;> rfl
  · rw [if_neg h]
    simp only [va_up]
    rw [if_neg (by omega), if_neg (by omega), if_neg (by omega), if_neg (by omega), if_neg (by omega), if_neg (by omega), if_neg (by omega), if_neg (by omega), if_neg (by omega), if_neg (by omega), if_neg (by omega), if_neg (by omega), if_neg (by omega), if_neg (by omega), if_neg (by omega), if_neg (by omega), if_neg (by omega), if_neg (by omega), if_neg (by omega), if_neg (by omega)]
set_option maxRecDepth 100000 in
theorem resX8_eq {l : Launch} {D : va_G} {cy : Nat → ClassId} (h0 q1 q2 q3 q4 q5 q6 q7 q8 q9 q10 q11 q12 q13 q14 q15 q16 q17 q18 q19 q20 q21 q22 q23 q24 q25 q26 q27 q28 q29 q30 q31 q32 q33 q34 q35 q36 q37 q38 q39 q40 q41 q42 q43 q44 q45 q46 q47 : Nat) : resX8 cy h0 q1 q2 q3 q4 q5 q6 q7 q8 q9 q10 q11 q12 q13 q14 q15 q16 q17 q18 q19 q20 q21 q22 q23 q24 q25 q26 q27 q28 q29 q30 q31 q32 q33 q34 q35 q36 q37 q38 q39 q40 q41 q42 q43 q44 q45 q46 q47 = WD SC (l, D, qC h0 q1 q2 q3 q4 q5 q6 q7 q8 q9 q10 q11 q12 q13 q14 q15 q16 q17 q18 q19 q20 q21 q22 q23 q24 q25 q26 q27 q28 q29 q30 q31 q32 q33 q34 q35 q36 q37 q38 q39 q40 q41 q42 q43 q44 q45 q46 q47, cy) σc0 := by
  unfold resX8
  rw [ring_eq h0 q1 q2 q3 q4 q5 q6 q7 q8 q9 q10 q11 q12 q13 q14 q15 q16 q17 q18 q19 q20 q21 q22 q23 q24 q25 q26 q27 q28 q29 q30 q31 q32 q33 q34 q35 q36 q37 q38 q39 q40 q41 q42 q43 q44 q45 q46 q47]
  rfl
set_option maxRecDepth 100000 in
theorem resX9_eq {l : Launch} {D : va_G} {cy : Nat → ClassId} (h0 q1 q2 q3 q4 q5 q6 q7 q8 q9 q10 q11 q12 q13 q14 q15 q16 q17 q18 q19 q20 q21 q22 : Nat) : resX9 cy h0 q1 q2 q3 q4 q5 q6 q7 q8 q9 q10 q11 q12 q13 q14 q15 q16 q17 q18 q19 q20 q21 q22 = WD SM (l, D, qM h0 q1 q2 q3 q4 q5 q6 q7 q8 q9 q10 q11 q12 q13 q14 q15 q16 q17 q18 q19 q20 q21 q22, cy) σm0 := rfl
theorem R_0 : R σc0 σm0 := by
  refine ⟨⟨⟨rfl, Or.inl rfl⟩, ⟨rfl, rfl, rfl⟩, ⟨rfl, 1, by decide, by decide, rfl⟩, ⟨rfl, rfl⟩, ⟨rfl, 1, by decide, by decide, rfl⟩, ⟨0, by decide, rfl, rfl, fun k hk => absurd hk (Nat.not_lt_zero k)⟩, fun k _ => rfl, ⟨0, by decide, rfl⟩, ?_⟩, ⟨NE_fresh rfl (fun _ _ _ => rfl) (fun _ _ _ => rfl), 0, 0, rfl, by decide, rfl, by decide, Or.inl rfl, Or.inl rfl⟩, ?_, ?_, ?_, ?_, rfl⟩
  · exact ⟨fun t => emF_b (IB_0 (by decide)) (IB_0 (by decide)) ⟨1, by decide, by decide, rfl⟩ (fun _ _ => IB_0 (by decide)) t, (IB_0 (by decide) : IB 9 0)⟩
  · exact ⟨0, 0, by decide, by decide, rfl, rfl, rfl, fun j hj => absurd hj (Nat.not_lt_zero j)⟩
  · exact ⟨0, 0, 0, by decide, by decide, by decide, ⟨rfl, rfl, fun k hk => absurd hk (Nat.not_lt_zero k)⟩, ⟨rfl, rfl, fun k hk => absurd hk (Nat.not_lt_zero k)⟩, rfl, rfl, fun k hk => absurd hk (Nat.not_lt_zero k)⟩
  · exact ⟨⟨rfl, fun z => absurd rfl z⟩, rfl, fun z => absurd rfl z⟩
  · exact ⟨⟨0, by decide, rfl, rfl, fun k hk => absurd hk (Nat.not_lt_zero k)⟩, rfl⟩
