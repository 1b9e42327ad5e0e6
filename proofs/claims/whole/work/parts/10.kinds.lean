/-! ===== the components of the two systems ===== -/
theorem dg_of {fl : List (Nat ⊕ Nat)} (h : (List.range fl.length).all (fun k => match fl[k]? with | some (.inl j) => j == k | _ => true) = true) : ∀ k2 j : Nat, fl[k2]? = some (.inl j) → j = k2 := by
  intro k2 j hk
  have h1 := List.all_eq_true.mp h k2 (List.mem_range.mpr (List.getElem?_eq_some_iff.mp hk).1)
  rw [hk] at h1
  exact eq_of_beq h1
abbrev flN : List (Nat ⊕ Nat) := [.inl 0, .inl 1, .inl 2, .inl 3, .inl 4, .inl 5, .inl 6, .inl 7, .inl 8, .inl 9, .inl 10, .inl 11]
abbrev flM (j : Nat) : List (Nat ⊕ Nat) := [.inl 0, .inl 1, .inl 2, .inl 3, .inl 4, .inl 5, .inl 6, .inl 7, .inl 8, .inr (j + 1), .inr (j + 2), .inr (j + 3)]
abbrev kN : KD := .inr (.inl (4, flN))
abbrev kM (j : Nat) : KD := .inr (.inl (3, flM j))
abbrev flC0 : List (Nat ⊕ Nat) := [.inr 1, .inr 3, .inr 7, .inr 11, .inr 12, .inr 14, .inr 36, .inr 43, .inr 44, .inr 46]
abbrev flC1 : List (Nat ⊕ Nat) := [.inl 0, .inl 1, .inl 2, .inl 3, .inl 4, .inl 5, .inl 6, .inr 2]
abbrev flC12 : List (Nat ⊕ Nat) := [.inl 0, .inl 1, .inr 13, .inr 3, .inr 11, .inl 5]
abbrev flC14 : List (Nat ⊕ Nat) := [.inl 0, .inl 1, .inr 15]
abbrev flC36 : List (Nat ⊕ Nat) := [.inl 0, .inl 1, .inl 2, .inr 37, .inr 38, .inr 39, .inr 40, .inr 41, .inr 42]
abbrev flC43 : List (Nat ⊕ Nat) := [.inl 0]
abbrev flC44 : List (Nat ⊕ Nat) := [.inl 0, .inl 1, .inr 45]
abbrev flC46 : List (Nat ⊕ Nat) := [.inl 0, .inl 1, .inr 47]
def kdC : Nat → KD := fun i => match i with
  | 0 => .inr (.inl (8, flC0))
  | 1 => .inr (.inl (6, flC1))
  | 2 => .inl (0, 230)
  | 3 => kM 3
  | 4 => .inl (0, 9)
  | 5 => .inl (0, 6)
  | 6 => .inl (0, 6)
  | 7 => kM 7
  | 8 => .inl (0, 9)
  | 9 => .inl (0, 6)
  | 10 => .inl (0, 6)
  | 12 => .inr (.inl (7, flC12))
  | 14 => .inr (.inl (1, flC14))
  | 15 => .inr (.inr (20, 16))
  | 36 => .inr (.inl (5, flC36))
  | 37 => .inl (0, 10)
  | 38 => .inl (0, 10)
  | 39 => .inl (0, 6)
  | 40 => .inl (0, 6)
  | 41 => .inl (0, 15)
  | 42 => .inl (0, 15)
  | 43 => .inr (.inl (0, flC43))
  | 44 => .inr (.inl (2, flC44))
  | 46 => .inr (.inl (2, flC46))
  | _ => kN
abbrev SC : Sd := (kdC, 48)
theorem kC0 : SC.1 0 = .inr (.inl (8, flC0)) := rfl
theorem iC0 : 0 < SC.2 := by decide
theorem dgC0 : ∀ k2 j : Nat, flC0[k2]? = some (.inl j) → j = k2 := dg_of rfl
theorem kC1 : SC.1 1 = .inr (.inl (6, flC1)) := rfl
theorem iC1 : 1 < SC.2 := by decide
theorem dgC1 : ∀ k2 j : Nat, flC1[k2]? = some (.inl j) → j = k2 := dg_of rfl
theorem kC2 : SC.1 2 = .inl (0, 230) := rfl
theorem iC2 : 2 < SC.2 := by decide
theorem kC3 : SC.1 3 = .inr (.inl (3, flM 3)) := rfl
theorem iC3 : 3 < SC.2 := by decide
theorem kC4 : SC.1 4 = .inl (0, 9) := rfl
theorem iC4 : 4 < SC.2 := by decide
theorem kC5 : SC.1 5 = .inl (0, 6) := rfl
theorem iC5 : 5 < SC.2 := by decide
theorem kC6 : SC.1 6 = .inl (0, 6) := rfl
theorem iC6 : 6 < SC.2 := by decide
theorem kC7 : SC.1 7 = .inr (.inl (3, flM 7)) := rfl
theorem iC7 : 7 < SC.2 := by decide
theorem kC8 : SC.1 8 = .inl (0, 9) := rfl
theorem iC8 : 8 < SC.2 := by decide
theorem kC9 : SC.1 9 = .inl (0, 6) := rfl
theorem iC9 : 9 < SC.2 := by decide
theorem kC10 : SC.1 10 = .inl (0, 6) := rfl
theorem iC10 : 10 < SC.2 := by decide
theorem kC11 : SC.1 11 = .inr (.inl (4, flN)) := rfl
theorem iC11 : 11 < SC.2 := by decide
theorem kC12 : SC.1 12 = .inr (.inl (7, flC12)) := rfl
theorem iC12 : 12 < SC.2 := by decide
theorem dgC12 : ∀ k2 j : Nat, flC12[k2]? = some (.inl j) → j = k2 := dg_of rfl
theorem kC13 : SC.1 13 = .inr (.inl (4, flN)) := rfl
theorem iC13 : 13 < SC.2 := by decide
theorem kC14 : SC.1 14 = .inr (.inl (1, flC14)) := rfl
theorem iC14 : 14 < SC.2 := by decide
theorem dgC14 : ∀ k2 j : Nat, flC14[k2]? = some (.inl j) → j = k2 := dg_of rfl
theorem kC15 : SC.1 15 = .inr (.inr (20, 16)) := rfl
theorem iC15 : 15 < SC.2 := by decide
theorem kC16 : SC.1 16 = .inr (.inl (4, flN)) := rfl
theorem iC16 : 16 < SC.2 := by decide
theorem kC17 : SC.1 17 = .inr (.inl (4, flN)) := rfl
theorem iC17 : 17 < SC.2 := by decide
theorem kC18 : SC.1 18 = .inr (.inl (4, flN)) := rfl
theorem iC18 : 18 < SC.2 := by decide
theorem kC19 : SC.1 19 = .inr (.inl (4, flN)) := rfl
theorem iC19 : 19 < SC.2 := by decide
theorem kC20 : SC.1 20 = .inr (.inl (4, flN)) := rfl
theorem iC20 : 20 < SC.2 := by decide
theorem kC21 : SC.1 21 = .inr (.inl (4, flN)) := rfl
theorem iC21 : 21 < SC.2 := by decide
theorem kC22 : SC.1 22 = .inr (.inl (4, flN)) := rfl
theorem iC22 : 22 < SC.2 := by decide
theorem kC23 : SC.1 23 = .inr (.inl (4, flN)) := rfl
theorem iC23 : 23 < SC.2 := by decide
theorem kC24 : SC.1 24 = .inr (.inl (4, flN)) := rfl
theorem iC24 : 24 < SC.2 := by decide
theorem kC25 : SC.1 25 = .inr (.inl (4, flN)) := rfl
theorem iC25 : 25 < SC.2 := by decide
theorem kC26 : SC.1 26 = .inr (.inl (4, flN)) := rfl
theorem iC26 : 26 < SC.2 := by decide
theorem kC27 : SC.1 27 = .inr (.inl (4, flN)) := rfl
theorem iC27 : 27 < SC.2 := by decide
theorem kC28 : SC.1 28 = .inr (.inl (4, flN)) := rfl
theorem iC28 : 28 < SC.2 := by decide
theorem kC29 : SC.1 29 = .inr (.inl (4, flN)) := rfl
theorem iC29 : 29 < SC.2 := by decide
theorem kC30 : SC.1 30 = .inr (.inl (4, flN)) := rfl
theorem iC30 : 30 < SC.2 := by decide
theorem kC31 : SC.1 31 = .inr (.inl (4, flN)) := rfl
theorem iC31 : 31 < SC.2 := by decide
theorem kC32 : SC.1 32 = .inr (.inl (4, flN)) := rfl
theorem iC32 : 32 < SC.2 := by decide
theorem kC33 : SC.1 33 = .inr (.inl (4, flN)) := rfl
theorem iC33 : 33 < SC.2 := by decide
theorem kC34 : SC.1 34 = .inr (.inl (4, flN)) := rfl
theorem iC34 : 34 < SC.2 := by decide
theorem kC35 : SC.1 35 = .inr (.inl (4, flN)) := rfl
theorem iC35 : 35 < SC.2 := by decide
theorem kC36 : SC.1 36 = .inr (.inl (5, flC36)) := rfl
theorem iC36 : 36 < SC.2 := by decide
theorem dgC36 : ∀ k2 j : Nat, flC36[k2]? = some (.inl j) → j = k2 := dg_of rfl
theorem kC37 : SC.1 37 = .inl (0, 10) := rfl
theorem iC37 : 37 < SC.2 := by decide
theorem kC38 : SC.1 38 = .inl (0, 10) := rfl
theorem iC38 : 38 < SC.2 := by decide
theorem kC39 : SC.1 39 = .inl (0, 6) := rfl
theorem iC39 : 39 < SC.2 := by decide
theorem kC40 : SC.1 40 = .inl (0, 6) := rfl
theorem iC40 : 40 < SC.2 := by decide
theorem kC41 : SC.1 41 = .inl (0, 15) := rfl
theorem iC41 : 41 < SC.2 := by decide
theorem kC42 : SC.1 42 = .inl (0, 15) := rfl
theorem iC42 : 42 < SC.2 := by decide
theorem kC43 : SC.1 43 = .inr (.inl (0, flC43)) := rfl
theorem iC43 : 43 < SC.2 := by decide
theorem dgC43 : ∀ k2 j : Nat, flC43[k2]? = some (.inl j) → j = k2 := dg_of rfl
theorem kC44 : SC.1 44 = .inr (.inl (2, flC44)) := rfl
theorem iC44 : 44 < SC.2 := by decide
theorem dgC44 : ∀ k2 j : Nat, flC44[k2]? = some (.inl j) → j = k2 := dg_of rfl
theorem kC45 : SC.1 45 = .inr (.inl (4, flN)) := rfl
theorem iC45 : 45 < SC.2 := by decide
theorem kC46 : SC.1 46 = .inr (.inl (2, flC46)) := rfl
theorem iC46 : 46 < SC.2 := by decide
theorem dgC46 : ∀ k2 j : Nat, flC46[k2]? = some (.inl j) → j = k2 := dg_of rfl
theorem kC47 : SC.1 47 = .inr (.inl (4, flN)) := rfl
theorem iC47 : 47 < SC.2 := by decide
abbrev flM0 : List (Nat ⊕ Nat) := [.inl 0, .inl 1, .inl 2, .inl 3, .inl 4, .inr 1, .inl 6, .inl 7, .inl 8, .inl 9, .inr 2, .inr 3, .inr 4, .inl 13, .inr 5, .inl 15, .inl 16, .inl 17, .inl 18, .inl 19, .inl 20, .inr 6, .inl 22, .inr 7, .inl 24, .inr 8, .inl 26, .inr 9, .inl 28, .inr 10, .inr 11, .inl 31, .inr 12, .inr 13, .inl 34, .inl 35, .inr 14, .inr 15, .inl 38, .inr 16, .inr 17, .inr 18, .inl 42, .inr 19, .inr 20, .inr 21, .inr 22]
def kdM : Nat → KD := fun i => match i with
  | 0 => .inr (.inl (9, flM0))
  | 1 => .inl (0, 9)
  | 2 => .inl (0, 6)
  | 3 => .inl (0, 6)
  | 4 => .inl (0, 12)
  | 5 => .inl (0, 230)
  | 6 => .inl (0, 3)
  | 7 => .inl (0, 9)
  | 8 => .inl (0, 2)
  | 9 => .inl (0, 1)
  | 10 => .inl (0, 6)
  | 11 => .inl (0, 6)
  | 12 => .inl (0, 240)
  | 13 => .inl (0, 12)
  | 14 => .inl (0, 10)
  | 15 => .inl (0, 10)
  | 16 => .inl (0, 6)
  | 17 => .inl (0, 6)
  | 18 => .inl (0, 6)
  | 19 => .inl (0, 15)
  | 20 => .inl (0, 15)
  | 21 => .inl (0, 26)
  | 22 => .inl (1, 2)
  | _ => .inl (0, 0)
abbrev SM : Sd := (kdM, 23)
theorem kM0 : SM.1 0 = .inr (.inl (9, flM0)) := rfl
theorem iM0 : 0 < SM.2 := by decide
theorem dgM0 : ∀ k2 j : Nat, flM0[k2]? = some (.inl j) → j = k2 := dg_of rfl
theorem kM1 : SM.1 1 = .inl (0, 9) := rfl
theorem iM1 : 1 < SM.2 := by decide
theorem kM2 : SM.1 2 = .inl (0, 6) := rfl
theorem iM2 : 2 < SM.2 := by decide
theorem kM3 : SM.1 3 = .inl (0, 6) := rfl
theorem iM3 : 3 < SM.2 := by decide
theorem kM4 : SM.1 4 = .inl (0, 12) := rfl
theorem iM4 : 4 < SM.2 := by decide
theorem kM5 : SM.1 5 = .inl (0, 230) := rfl
theorem iM5 : 5 < SM.2 := by decide
theorem kM6 : SM.1 6 = .inl (0, 3) := rfl
theorem iM6 : 6 < SM.2 := by decide
theorem kM7 : SM.1 7 = .inl (0, 9) := rfl
theorem iM7 : 7 < SM.2 := by decide
theorem kM8 : SM.1 8 = .inl (0, 2) := rfl
theorem iM8 : 8 < SM.2 := by decide
theorem kM9 : SM.1 9 = .inl (0, 1) := rfl
theorem iM9 : 9 < SM.2 := by decide
theorem kM10 : SM.1 10 = .inl (0, 6) := rfl
theorem iM10 : 10 < SM.2 := by decide
theorem kM11 : SM.1 11 = .inl (0, 6) := rfl
theorem iM11 : 11 < SM.2 := by decide
theorem kM12 : SM.1 12 = .inl (0, 240) := rfl
theorem iM12 : 12 < SM.2 := by decide
theorem kM13 : SM.1 13 = .inl (0, 12) := rfl
theorem iM13 : 13 < SM.2 := by decide
theorem kM14 : SM.1 14 = .inl (0, 10) := rfl
theorem iM14 : 14 < SM.2 := by decide
theorem kM15 : SM.1 15 = .inl (0, 10) := rfl
theorem iM15 : 15 < SM.2 := by decide
theorem kM16 : SM.1 16 = .inl (0, 6) := rfl
theorem iM16 : 16 < SM.2 := by decide
theorem kM17 : SM.1 17 = .inl (0, 6) := rfl
theorem iM17 : 17 < SM.2 := by decide
theorem kM18 : SM.1 18 = .inl (0, 6) := rfl
theorem iM18 : 18 < SM.2 := by decide
theorem kM19 : SM.1 19 = .inl (0, 15) := rfl
theorem iM19 : 19 < SM.2 := by decide
theorem kM20 : SM.1 20 = .inl (0, 15) := rfl
theorem iM20 : 20 < SM.2 := by decide
theorem kM21 : SM.1 21 = .inl (0, 26) := rfl
theorem iM21 : 21 < SM.2 := by decide
theorem kM22 : SM.1 22 = .inl (1, 2) := rfl
theorem iM22 : 22 < SM.2 := by decide
theorem dgN : ∀ k2 j : Nat, flN[k2]? = some (.inl j) → j = k2 := dg_of rfl
theorem dgM (i : Nat) : ∀ k2 j : Nat, (flM i)[k2]? = some (.inl j) → j = k2 := dg_of rfl
theorem zb_n {v : Int32} (h : v = 0 ∨ v = 1) : narrow .boolean (.int v) = .int v := by rcases h with rfl | rfl <;> rfl
theorem zb_f {v : Int32} (h : v = 0 ∨ v = 1) : fits .boolean (.int v) = true := by rcases h with rfl | rfl <;> decide
theorem zb_v {v : Int32} (h : v = 0 ∨ v = 1) : vp_nar .boolean v = v := by rcases h with rfl | rfl <;> rfl
theorem ni_n (v : Int32) : narrow .int (.int v) = .int v := rfl
theorem ni_f (v : Int32) : fits .int (.int v) = true := rfl
theorem tsw_out {x : Int32} {lo hi : Int} (h : ∀ k : Int, lo ≤ k → k ≤ hi → ¬ x.toInt = k) : x.toInt < lo ∨ hi < x.toInt := by
  by_cases h1 : x.toInt < lo
  · exact Or.inl h1
  · by_cases h2 : hi < x.toInt
    · exact Or.inr h2
    · exact absurd rfl (h x.toInt (by omega) (by omega))
theorem ne_ti {x v : Int32} (h : ¬ x = v) : ¬ x.toInt = v.toInt := fun e => h (Int32.toInt_inj.mp e)
def FU : Nat := 1100
