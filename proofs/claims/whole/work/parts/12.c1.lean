abbrev rmX0_drawOf : Room := { frames := 0, cells := 0, slots := 0, locals := 0 }
theorem nkX0_drawOf : NmOk yX0_drawOf 1 := by decide +kernel
theorem inX0_drawOf_X0 : ∀ w ∈ u_ws RX0 TX0 1, w ∈ wsX0_drawOf := fun _ h => List.mem_cons_of_mem _ (List.mem_append_right _ h)
def w_X0_drawOf (p1 : Int32) (σ : St) (Post : Int32 → St → Prop) : Prop := ∀ σ1 : St, σ1 = up σ 43 0 (((((σ 43 0).toInt64 * (1103515245 : Int64)) + (12345 : Int64)) - (((σ 43 0).toInt64 * (1103515245 : Int64)) + (12345 : Int64)) / (2147483648 : Int64) * (2147483648 : Int64)).toInt32) → (p1 ≤ 0 → Post (0 : Int32) σ1) ∧ (¬ p1 ≤ 0 → (¬ p1 = 0) ∧ (Post ((((σ1 43 0) / (65536 : Int32)) - ((σ1 43 0) / (65536 : Int32)) / p1 * p1)) σ1))
set_option maxHeartbeats 4000000 in
set_option maxRecDepth 100000 in
theorem b_X0_drawOf {Y : CY} {Z : CZ} (C : cx SC 2 Y Z cX0_drawOf RX0 wsX0_drawOf (some .int) rmX0_drawOf) {Post : Int32 → St → Prop} (hQ : Qi SC Y Z Post)  (p1 : Int32) (σ : St) (h : w_X0_drawOf p1 σ Post) : WW SC 2 Y Z σ 0 [(0, .ref (qa Y 43)), (1, .int p1)] [] := by
  unfold w_X0_drawOf at h
  refine q_aload_n C 0 dX0_drawOf_0 rfl ?_
  refine q_aload_n C 0 dX0_drawOf_1 rfl ?_
  refine q_geti (T := TX0) C kC43 iC43 inX0_drawOf_X0 rfl 0 (by decide) (List.mem_of_getElem? (i := 1) rfl) (fun _ h9 => h9) rfl dX0_drawOf_2 ?_
  refine q_i2l C dX0_drawOf_5 ?_
  refine q_ldc2 (v := (1103515245 : Int64)) C (List.mem_of_getElem? (i := 2) rfl) dX0_drawOf_6 ?_
  refine q_lmul C dX0_drawOf_9 ?_
  refine q_ldc2 (v := (12345 : Int64)) C (List.mem_of_getElem? (i := 3) rfl) dX0_drawOf_10 ?_
  refine q_ladd C dX0_drawOf_13 ?_
  refine q_ldc2 (v := (2147483648 : Int64)) C (List.mem_of_getElem? (i := 4) rfl) dX0_drawOf_14 ?_
  refine q_lrem C dX0_drawOf_17 (by decide) ?_
  refine q_l2i C dX0_drawOf_18 ?_
  refine q_puti (T := TX0) C kC43 iC43 inX0_drawOf_X0 rfl tyX0 tyX0_ok nmX0 0 (by decide) (List.mem_of_getElem? (i := 1) rfl) (fun _ h9 => h9) rfl dgC43 rfl (ni_n _) (ni_f _) dX0_drawOf_19 ?_
  refine q_nmS (fun σ1 eσ1 => ?_)
  replace h := h σ1 eσ1
  refine q_iload_n C 1 dX0_drawOf_22 rfl ?_
  refine q_if_le C 38 dX0_drawOf_23 (by decide) (fun c2 => ?_) (fun c2 => ?_)
  · replace h := h.1 c2
    refine q_iconst (v := (0 : Int32)) C dX0_drawOf_38 (by decide) ?_
    exact q_iret C hQ dX0_drawOf_39 h
  · replace h := h.2 c2
    refine q_aload_n C 0 dX0_drawOf_26 rfl ?_
    refine q_geti (T := TX0) C kC43 iC43 inX0_drawOf_X0 rfl 0 (by decide) (List.mem_of_getElem? (i := 1) rfl) (fun _ h9 => h9) rfl dX0_drawOf_27 ?_
    refine q_ldc (v := (65536 : Int32)) C (List.mem_of_getElem? (i := 5) rfl) dX0_drawOf_30 ?_
    refine q_idiv C dX0_drawOf_32 (by decide) ?_
    refine q_iload_n C 1 dX0_drawOf_33 rfl ?_
    obtain ⟨g3, h⟩ := h
    refine q_irem C dX0_drawOf_34 g3 ?_
    refine q_goto C 39 dX0_drawOf_35 (by decide) ?_
    exact q_iret C hQ dX0_drawOf_39 h
theorem c_X0_drawOf (Y : CY)  (p1 : Int32) (σ : St) (Post : Int32 → St → Prop) (h : w_X0_drawOf p1 σ Post) : Ki SC Y yX0_drawOf wsX0_drawOf rmX0_drawOf [.ref (qa Y 43), .int p1] σ Post :=
  Ki_of (cc := cX0_drawOf) (nL := 2) (ret := (some .int)) (by decide +kernel) rfl (Nat.le_of_ble_eq_true rfl) (fun Z C hQ => b_X0_drawOf C hQ  p1 σ h)
abbrev rmX1_clear : Room := { frames := 0, cells := 0, slots := 0, locals := 0 }
theorem nkX1_clear : NmOk yX1_clear 0 := by decide +kernel
theorem inX1_clear_X1 : ∀ w ∈ u_ws RX1 TX1 3, w ∈ wsX1_clear := fun _ h => List.mem_cons_of_mem _ (List.mem_append_right _ h)
def w_X1_clear (σ : St) (Post : St → Prop) : Prop := ∀ σ1 : St, σ1 = up σ 14 0 (0 : Int32) → Post σ1
set_option maxHeartbeats 4000000 in
set_option maxRecDepth 100000 in
theorem b_X1_clear {Y : CY} {Z : CZ} (C : cx SC 1 Y Z cX1_clear RX1 wsX1_clear none rmX1_clear) {Post : St → Prop} (hQ : Qv SC Y Z Post)  (σ : St) (h : w_X1_clear  σ Post) : WW SC 1 Y Z σ 0 [(0, .ref (qa Y 14))] [] := by
  unfold w_X1_clear at h
  refine q_aload_n C 0 dX1_clear_0 rfl ?_
  refine q_iconst (v := (0 : Int32)) C dX1_clear_1 (by decide) ?_
  refine q_puti (T := TX1) C kC14 iC14 inX1_clear_X1 rfl tyX1 tyX1_ok nmX1 0 (by decide) (List.mem_of_getElem? (i := 1) rfl) (fun _ h9 => h9) rfl dgC14 rfl (ni_n _) (ni_f _) dX1_clear_2 ?_
  refine q_nmS (fun σ1 eσ1 => ?_)
  replace h := h σ1 eσ1
  exact q_vret C hQ dX1_clear_5 h
theorem c_X1_clear (Y : CY)  (σ : St) (Post : St → Prop) (h : w_X1_clear  σ Post) : Kv SC Y yX1_clear wsX1_clear rmX1_clear [.ref (qa Y 14)] σ Post :=
  Kv_of (cc := cX1_clear) (nL := 1) (ret := none) (by decide +kernel) rfl (Nat.le_of_ble_eq_true rfl) (fun Z C hQ => b_X1_clear C hQ  σ h)
abbrev rmX1_slotAt : Room := { frames := 0, cells := 0, slots := 0, locals := 0 }
theorem nkX1_slotAt : NmOk yX1_slotAt 1 := by decide +kernel
theorem inX1_slotAt_X1 : ∀ w ∈ u_ws RX1 TX1 3, w ∈ wsX1_slotAt := fun _ h => List.mem_cons_of_mem _ (List.mem_append_right _ h)
def w_X1_slotAt (p1 : Int32) (σ : St) (Post : Option Nat → St → Prop) : Prop := (p1 < 0 → Post none σ) ∧ (¬ p1 < 0 → ((nI 20) ≤ p1 → Post none σ) ∧ (¬ (nI 20) ≤ p1 → (vp_in p1 20) ∧ (Post ((some (16 + p1.toNatClampNeg))) σ)))
set_option maxHeartbeats 4000000 in
set_option maxRecDepth 100000 in
theorem b_X1_slotAt {Y : CY} {Z : CZ} (C : cx SC 2 Y Z cX1_slotAt RX1 wsX1_slotAt (some (.object "HeldOnCross$Night")) rmX1_slotAt) {Post : Option Nat → St → Prop} (hQ : Qq SC Y Z Post)  (p1 : Int32) (σ : St) (h : w_X1_slotAt p1 σ Post) : WW SC 2 Y Z σ 0 [(0, .ref (qa Y 14)), (1, .int p1)] [] := by
  unfold w_X1_slotAt at h
  refine q_iload_n C 1 dX1_slotAt_0 rfl ?_
  refine q_if_lt C 22 dX1_slotAt_1 (by decide) (fun c1 => ?_) (fun c1 => ?_)
  · replace h := h.1 c1
    refine q_aconst_null C dX1_slotAt_22 ?_
    exact q_qret C hQ (r := none) dX1_slotAt_23 h
  · replace h := h.2 c1
    refine q_iload_n C 1 dX1_slotAt_4 rfl ?_
    refine q_aload_n C 0 dX1_slotAt_5 rfl ?_
    refine q_getr (T := TX1) C kC14 iC14 inX1_slotAt_X1 rfl 2 (by decide) (List.mem_of_getElem? (i := 1) rfl) (fun _ h9 => h9) rfl dX1_slotAt_6 ?_
    refine q_alenq C kC15 iC15 dX1_slotAt_9 ?_
    refine q_icmp_ge C 22 dX1_slotAt_10 (by decide) (fun c2 => ?_) (fun c2 => ?_)
    · replace h := h.1 c2
      refine q_aconst_null C dX1_slotAt_22 ?_
      exact q_qret C hQ (r := none) dX1_slotAt_23 h
    · replace h := h.2 c2
      refine q_aload_n C 0 dX1_slotAt_13 rfl ?_
      refine q_getr (T := TX1) C kC14 iC14 inX1_slotAt_X1 rfl 2 (by decide) (List.mem_of_getElem? (i := 1) rfl) (fun _ h9 => h9) rfl dX1_slotAt_14 ?_
      refine q_iload_n C 1 dX1_slotAt_17 rfl ?_
      obtain ⟨g3, h⟩ := h
      refine q_aald C kC15 iC15 g3 dX1_slotAt_18 ?_
      refine q_goto C 23 dX1_slotAt_19 (by decide) ?_
      exact q_qret C hQ (r := (some (16 + p1.toNatClampNeg))) dX1_slotAt_23 h
theorem c_X1_slotAt (Y : CY)  (p1 : Int32) (σ : St) (Post : Option Nat → St → Prop) (h : w_X1_slotAt p1 σ Post) : Kq SC Y yX1_slotAt wsX1_slotAt rmX1_slotAt [.ref (qa Y 14), .int p1] σ Post :=
  Kq_of (cc := cX1_slotAt) (nL := 2) (ret := (some (.object "HeldOnCross$Night"))) (by decide +kernel) rfl (Nat.le_of_ble_eq_true rfl) (fun Z C hQ => b_X1_slotAt C hQ  p1 σ h)
abbrev rmX4_copyFrom : Room := { frames := 0, cells := 0, slots := 0, locals := 0 }
theorem nkX4_copyFrom : NmOk yX4_copyFrom 1 := by decide +kernel
theorem inX4_copyFrom_X4 : ∀ w ∈ u_ws RX4 TX4 12, w ∈ wsX4_copyFrom := fun _ h => List.mem_cons_of_mem _ (List.mem_append_right _ h)
def w_X4_copyFrom (i1 : Nat) (i2 : Nat) (σ : St) (Post : St → Prop) : Prop := ∀ σ1 : St, σ1 = up σ i1 0 ((σ i2 0)) → ∀ σ2 : St, σ2 = up σ1 i1 1 ((σ1 i2 1)) → ∀ σ3 : St, σ3 = up σ2 i1 2 ((σ2 i2 2)) → ((σ3 i2 3) = 0 ∨ (σ3 i2 3) = 1) ∧ (∀ σ4 : St, σ4 = up σ3 i1 3 ((σ3 i2 3)) → ((σ4 i2 4) = 0 ∨ (σ4 i2 4) = 1) ∧ (∀ σ6 : St, σ6 = up σ4 i1 4 ((σ4 i2 4)) → ∀ σ8 : St, σ8 = up σ6 i1 5 ((σ6 i2 5)) → ∀ σ9 : St, σ9 = up σ8 i1 6 ((σ8 i2 6)) → ∀ σ10 : St, σ10 = up σ9 i1 7 ((σ9 i2 7)) → ∀ σ11 : St, σ11 = up σ10 i1 8 ((σ10 i2 8)) → ∀ σ12 : St, σ12 = up σ11 i1 9 ((σ11 i2 9)) → ∀ σ13 : St, σ13 = up σ12 i1 10 ((σ12 i2 10)) → ∀ σ14 : St, σ14 = up σ13 i1 11 ((σ13 i2 11)) → Post σ14))
set_option maxHeartbeats 4000000 in
set_option maxRecDepth 100000 in
theorem b_X4_copyFrom {Y : CY} {Z : CZ} (C : cx SC 2 Y Z cX4_copyFrom RX4 wsX4_copyFrom none rmX4_copyFrom) {Post : St → Prop} (hQ : Qv SC Y Z Post) {i1 : Nat} (k_i1 : SC.1 i1 = .inr (.inl (4, flN))) (i_i1 : i1 < SC.2) {i2 : Nat} (k_i2 : SC.1 i2 = .inr (.inl (4, flN))) (i_i2 : i2 < SC.2) (σ : St) (h : w_X4_copyFrom i1 i2 σ Post) : WW SC 2 Y Z σ 0 [(0, .ref (qa Y i1)), (1, .ref (qa Y i2))] [] := by
  unfold w_X4_copyFrom at h
  refine q_aload_n C 0 dX4_copyFrom_0 rfl ?_
  refine q_aload_n C 1 dX4_copyFrom_1 rfl ?_
  refine q_geti (T := TX4) C k_i2 i_i2 inX4_copyFrom_X4 rfl 0 (by decide) (List.mem_of_getElem? (i := 1) rfl) (fun _ h9 => h9) rfl dX4_copyFrom_2 ?_
  refine q_puti (T := TX4) C k_i1 i_i1 inX4_copyFrom_X4 rfl tyX4 tyX4_ok nmX4 0 (by decide) (List.mem_of_getElem? (i := 1) rfl) (fun _ h9 => h9) rfl dgN rfl (ni_n _) (ni_f _) dX4_copyFrom_5 ?_
  refine q_nmS (fun σ1 eσ1 => ?_)
  replace h := h σ1 eσ1
  refine q_aload_n C 0 dX4_copyFrom_8 rfl ?_
  refine q_aload_n C 1 dX4_copyFrom_9 rfl ?_
  refine q_geti (T := TX4) C k_i2 i_i2 inX4_copyFrom_X4 rfl 1 (by decide) (List.mem_of_getElem? (i := 2) rfl) (fun _ h9 => h9) rfl dX4_copyFrom_10 ?_
  refine q_puti (T := TX4) C k_i1 i_i1 inX4_copyFrom_X4 rfl tyX4 tyX4_ok nmX4 1 (by decide) (List.mem_of_getElem? (i := 2) rfl) (fun _ h9 => h9) rfl dgN rfl (ni_n _) (ni_f _) dX4_copyFrom_13 ?_
  refine q_nmS (fun σ2 eσ2 => ?_)
  replace h := h σ2 eσ2
  refine q_aload_n C 0 dX4_copyFrom_16 rfl ?_
  refine q_aload_n C 1 dX4_copyFrom_17 rfl ?_
  refine q_geti (T := TX4) C k_i2 i_i2 inX4_copyFrom_X4 rfl 2 (by decide) (List.mem_of_getElem? (i := 3) rfl) (fun _ h9 => h9) rfl dX4_copyFrom_18 ?_
  refine q_puti (T := TX4) C k_i1 i_i1 inX4_copyFrom_X4 rfl tyX4 tyX4_ok nmX4 2 (by decide) (List.mem_of_getElem? (i := 3) rfl) (fun _ h9 => h9) rfl dgN rfl (ni_n _) (ni_f _) dX4_copyFrom_21 ?_
  refine q_nmS (fun σ3 eσ3 => ?_)
  replace h := h σ3 eσ3
  refine q_aload_n C 0 dX4_copyFrom_24 rfl ?_
  refine q_aload_n C 1 dX4_copyFrom_25 rfl ?_
  refine q_geti (T := TX4) C k_i2 i_i2 inX4_copyFrom_X4 rfl 3 (by decide) (List.mem_of_getElem? (i := 4) rfl) (fun _ h9 => h9) rfl dX4_copyFrom_26 ?_
  obtain ⟨g5, h⟩ := h
  refine q_puti (T := TX4) C k_i1 i_i1 inX4_copyFrom_X4 rfl tyX4 tyX4_ok nmX4 3 (by decide) (List.mem_of_getElem? (i := 4) rfl) (fun _ h9 => h9) rfl dgN rfl (zb_n g5) (zb_f g5) dX4_copyFrom_29 ?_
  refine q_nmS (fun σ4 eσ4 => ?_)
  replace h := h σ4 eσ4
  refine q_aload_n C 0 dX4_copyFrom_32 rfl ?_
  refine q_aload_n C 1 dX4_copyFrom_33 rfl ?_
  refine q_geti (T := TX4) C k_i2 i_i2 inX4_copyFrom_X4 rfl 4 (by decide) (List.mem_of_getElem? (i := 5) rfl) (fun _ h9 => h9) rfl dX4_copyFrom_34 ?_
  obtain ⟨g7, h⟩ := h
  refine q_puti (T := TX4) C k_i1 i_i1 inX4_copyFrom_X4 rfl tyX4 tyX4_ok nmX4 4 (by decide) (List.mem_of_getElem? (i := 5) rfl) (fun _ h9 => h9) rfl dgN rfl (zb_n g7) (zb_f g7) dX4_copyFrom_37 ?_
  refine q_nmS (fun σ6 eσ6 => ?_)
  replace h := h σ6 eσ6
  refine q_aload_n C 0 dX4_copyFrom_40 rfl ?_
  refine q_aload_n C 1 dX4_copyFrom_41 rfl ?_
  refine q_geti (T := TX4) C k_i2 i_i2 inX4_copyFrom_X4 rfl 5 (by decide) (List.mem_of_getElem? (i := 6) rfl) (fun _ h9 => h9) rfl dX4_copyFrom_42 ?_
  refine q_puti (T := TX4) C k_i1 i_i1 inX4_copyFrom_X4 rfl tyX4 tyX4_ok nmX4 5 (by decide) (List.mem_of_getElem? (i := 6) rfl) (fun _ h9 => h9) rfl dgN rfl (ni_n _) (ni_f _) dX4_copyFrom_45 ?_
  refine q_nmS (fun σ8 eσ8 => ?_)
  replace h := h σ8 eσ8
  refine q_aload_n C 0 dX4_copyFrom_48 rfl ?_
  refine q_aload_n C 1 dX4_copyFrom_49 rfl ?_
  refine q_geti (T := TX4) C k_i2 i_i2 inX4_copyFrom_X4 rfl 6 (by decide) (List.mem_of_getElem? (i := 7) rfl) (fun _ h9 => h9) rfl dX4_copyFrom_50 ?_
  refine q_puti (T := TX4) C k_i1 i_i1 inX4_copyFrom_X4 rfl tyX4 tyX4_ok nmX4 6 (by decide) (List.mem_of_getElem? (i := 7) rfl) (fun _ h9 => h9) rfl dgN rfl (ni_n _) (ni_f _) dX4_copyFrom_53 ?_
  refine q_nmS (fun σ9 eσ9 => ?_)
  replace h := h σ9 eσ9
  refine q_aload_n C 0 dX4_copyFrom_56 rfl ?_
  refine q_aload_n C 1 dX4_copyFrom_57 rfl ?_
  refine q_geti (T := TX4) C k_i2 i_i2 inX4_copyFrom_X4 rfl 7 (by decide) (List.mem_of_getElem? (i := 8) rfl) (fun _ h9 => h9) rfl dX4_copyFrom_58 ?_
  refine q_puti (T := TX4) C k_i1 i_i1 inX4_copyFrom_X4 rfl tyX4 tyX4_ok nmX4 7 (by decide) (List.mem_of_getElem? (i := 8) rfl) (fun _ h9 => h9) rfl dgN rfl (ni_n _) (ni_f _) dX4_copyFrom_61 ?_
  refine q_nmS (fun σ10 eσ10 => ?_)
  replace h := h σ10 eσ10
  refine q_aload_n C 0 dX4_copyFrom_64 rfl ?_
  refine q_aload_n C 1 dX4_copyFrom_65 rfl ?_
  refine q_geti (T := TX4) C k_i2 i_i2 inX4_copyFrom_X4 rfl 8 (by decide) (List.mem_of_getElem? (i := 9) rfl) (fun _ h9 => h9) rfl dX4_copyFrom_66 ?_
  refine q_puti (T := TX4) C k_i1 i_i1 inX4_copyFrom_X4 rfl tyX4 tyX4_ok nmX4 8 (by decide) (List.mem_of_getElem? (i := 9) rfl) (fun _ h9 => h9) rfl dgN rfl (ni_n _) (ni_f _) dX4_copyFrom_69 ?_
  refine q_nmS (fun σ11 eσ11 => ?_)
  replace h := h σ11 eσ11
  refine q_aload_n C 0 dX4_copyFrom_72 rfl ?_
  refine q_aload_n C 1 dX4_copyFrom_73 rfl ?_
  refine q_geti (T := TX4) C k_i2 i_i2 inX4_copyFrom_X4 rfl 9 (by decide) (List.mem_of_getElem? (i := 10) rfl) (fun _ h9 => h9) rfl dX4_copyFrom_74 ?_
  refine q_puti (T := TX4) C k_i1 i_i1 inX4_copyFrom_X4 rfl tyX4 tyX4_ok nmX4 9 (by decide) (List.mem_of_getElem? (i := 10) rfl) (fun _ h9 => h9) rfl dgN rfl (ni_n _) (ni_f _) dX4_copyFrom_77 ?_
  refine q_nmS (fun σ12 eσ12 => ?_)
  replace h := h σ12 eσ12
  refine q_aload_n C 0 dX4_copyFrom_80 rfl ?_
  refine q_aload_n C 1 dX4_copyFrom_81 rfl ?_
  refine q_geti (T := TX4) C k_i2 i_i2 inX4_copyFrom_X4 rfl 10 (by decide) (List.mem_of_getElem? (i := 11) rfl) (fun _ h9 => h9) rfl dX4_copyFrom_82 ?_
  refine q_puti (T := TX4) C k_i1 i_i1 inX4_copyFrom_X4 rfl tyX4 tyX4_ok nmX4 10 (by decide) (List.mem_of_getElem? (i := 11) rfl) (fun _ h9 => h9) rfl dgN rfl (ni_n _) (ni_f _) dX4_copyFrom_85 ?_
  refine q_nmS (fun σ13 eσ13 => ?_)
  replace h := h σ13 eσ13
  refine q_aload_n C 0 dX4_copyFrom_88 rfl ?_
  refine q_aload_n C 1 dX4_copyFrom_89 rfl ?_
  refine q_geti (T := TX4) C k_i2 i_i2 inX4_copyFrom_X4 rfl 11 (by decide) (List.mem_of_getElem? (i := 12) rfl) (fun _ h9 => h9) rfl dX4_copyFrom_90 ?_
  refine q_puti (T := TX4) C k_i1 i_i1 inX4_copyFrom_X4 rfl tyX4 tyX4_ok nmX4 11 (by decide) (List.mem_of_getElem? (i := 12) rfl) (fun _ h9 => h9) rfl dgN rfl (ni_n _) (ni_f _) dX4_copyFrom_93 ?_
  refine q_nmS (fun σ14 eσ14 => ?_)
  replace h := h σ14 eσ14
  exact q_vret C hQ dX4_copyFrom_96 h
theorem c_X4_copyFrom (Y : CY) {i1 : Nat} (k_i1 : SC.1 i1 = .inr (.inl (4, flN))) (i_i1 : i1 < SC.2) {i2 : Nat} (k_i2 : SC.1 i2 = .inr (.inl (4, flN))) (i_i2 : i2 < SC.2) (σ : St) (Post : St → Prop) (h : w_X4_copyFrom i1 i2 σ Post) : Kv SC Y yX4_copyFrom wsX4_copyFrom rmX4_copyFrom [.ref (qa Y i1), .ref (qa Y i2)] σ Post :=
  Kv_of (cc := cX4_copyFrom) (nL := 2) (ret := none) (by decide +kernel) rfl (Nat.le_of_ble_eq_true rfl) (fun Z C hQ => b_X4_copyFrom C hQ k_i1 i_i1 k_i2 i_i2 σ h)
abbrev rmX1_popInto : Room := { frames := 1, cells := 0, slots := 0, locals := 21 }
theorem nkX1_popInto : NmOk yX1_popInto 1 := by decide +kernel
theorem rmOk_X1_popInto__X1_slotAt : RmOk rmX1_slotAt rmX1_popInto 2 := ⟨rfl, rfl, by decide, by decide⟩
theorem rmOk_X1_popInto__X4_copyFrom : RmOk rmX4_copyFrom rmX1_popInto 2 := ⟨rfl, rfl, by decide, by decide⟩
theorem inX1_popInto_X1 : ∀ w ∈ u_ws RX1 TX1 3, w ∈ wsX1_popInto := fun _ h => List.mem_cons_of_mem _ (List.mem_append_left _ (List.mem_append_right _ h))
def w_X1_popInto (σ : St) (Post : Int32 → St → Prop) : Prop := ∀ x1 : Int32, x1 = ((((σ 14 1) + (20 : Int32)) - (1 : Int32)) - (((σ 14 1) + (20 : Int32)) - (1 : Int32)) / (20 : Int32) * (20 : Int32)) → w_X1_slotAt x1 σ (fun r3 σ2 => ((σ2 14 0) < (1 : Int32) → Post (0 : Int32) σ2) ∧ (¬ (σ2 14 0) < (1 : Int32) → (r3 = none → Post (0 : Int32) σ2) ∧ (∀ i6 : Nat, r3 = some i6 → ((SC.1 i6 = .inr (.inl (4, flN))) ∧ i6 < SC.2) ∧ (w_X4_copyFrom 11 i6 σ2 (fun σ7 => ∀ σ8 : St, σ8 = up σ7 14 1 x1 → ∀ σ9 : St, σ9 = up σ8 14 0 (((σ8 14 0) - (1 : Int32))) → Post (1 : Int32) σ9)))))
set_option maxHeartbeats 4000000 in
set_option maxRecDepth 100000 in
theorem b_X1_popInto {Y : CY} {Z : CZ} (C : cx SC 4 Y Z cX1_popInto RX1 wsX1_popInto (some .boolean) rmX1_popInto) {Post : Int32 → St → Prop} (hQ : Qi SC Y Z Post)  (σ : St) (h : w_X1_popInto  σ Post) : WW SC 4 Y Z σ 0 [(0, .ref (qa Y 14)), (1, .ref (qa Y 11))] [] := by
  unfold w_X1_popInto at h
  refine q_aload_n C 0 dX1_popInto_0 rfl ?_
  refine q_geti (T := TX1) C kC14 iC14 inX1_popInto_X1 rfl 1 (by decide) (List.mem_of_getElem? (i := 1) rfl) (fun _ h9 => h9) rfl dX1_popInto_1 ?_
  refine q_bipush (v := (20 : Int32)) C dX1_popInto_4 (by decide) ?_
  refine q_iadd C dX1_popInto_6 ?_
  refine q_iconst (v := (1 : Int32)) C dX1_popInto_7 (by decide) ?_
  refine q_isub C dX1_popInto_8 ?_
  refine q_bipush (v := (20 : Int32)) C dX1_popInto_9 (by decide) ?_
  refine q_irem C dX1_popInto_11 (by decide) ?_
  refine q_topi (fun x1 ex1 => ?_)
  replace h := h x1 ex1
  refine q_istore_n C [(2, .int x1), (0, .ref (qa Y 14)), (1, .ref (qa Y 11))] dX1_popInto_12 (by decide) rfl ?_
  refine q_aload_n C 1 dX1_popInto_13 rfl ?_
  refine q_iload_n C 0 dX1_popInto_14 rfl ?_
  refine q_callVq (As := [.int x1]) (st := []) C (c_X1_slotAt Y x1 σ _ h) gX1_popInto_X1_slotAt rfl ⟨rfl, nkX1_slotAt⟩ rmOk_X1_popInto__X1_slotAt kC14 iC14 rfl rfl (Nat.le_of_ble_eq_true rfl) dX1_popInto_15 rfl (fun r3 σ2 h => ?_)
  refine q_astore_nq C [(2, .int x1), (0, .ref (qa Y 14)), (1, .ref (qa Y 11))] dX1_popInto_18 (by decide) rfl ?_
  refine q_aload_n C 2 dX1_popInto_19 rfl ?_
  refine q_geti (T := TX1) C kC14 iC14 inX1_popInto_X1 rfl 0 (by decide) (List.mem_of_getElem? (i := 2) rfl) (fun _ h9 => h9) rfl dX1_popInto_20 ?_
  refine q_iconst (v := (1 : Int32)) C dX1_popInto_23 (by decide) ?_
  refine q_icmp_lt C 31 dX1_popInto_24 (by decide) (fun c4 => ?_) (fun c4 => ?_)
  · replace h := h.1 c4
    refine q_iconst (v := (0 : Int32)) C dX1_popInto_31 (by decide) ?_
    exact q_zret C hQ (zb_n (by decide)) dX1_popInto_32 h
  · replace h := h.2 c4
    refine q_aload_nq C 0 dX1_popInto_27 rfl ?_
    refine q_ifnonnullq C 33 dX1_popInto_28 (by decide) (fun c5 => ?_) (fun i6 c5 => ?_)
    · replace h := h.1 c5
      refine q_iconst (v := (0 : Int32)) C dX1_popInto_31 (by decide) ?_
      exact q_zret C hQ (zb_n (by decide)) dX1_popInto_32 h
    · replace h := h.2 i6 c5
      obtain ⟨⟨k_i6, i_i6⟩, h⟩ := h
      subst c5
      show WW SC 4 Y Z σ2 33 [(3, .ref (qa Y i6)), (2, .int x1), (0, .ref (qa Y 14)), (1, .ref (qa Y 11))] []
      refine q_aload_n C 3 dX1_popInto_33 rfl ?_
      refine q_aload_n C 0 dX1_popInto_34 rfl ?_
      refine q_callVv (As := [.ref (qa Y i6)]) (st := []) C (c_X4_copyFrom Y kC11 iC11 k_i6 i_i6 σ2 _ h) gX1_popInto_X4_copyFrom rfl ⟨rfl, nkX4_copyFrom⟩ rmOk_X1_popInto__X4_copyFrom kC11 iC11 rfl rfl (Nat.le_of_ble_eq_true rfl) dX1_popInto_35 rfl (fun σ7 h => ?_)
      refine q_aload_n C 2 dX1_popInto_38 rfl ?_
      refine q_iload_n C 1 dX1_popInto_39 rfl ?_
      refine q_puti (T := TX1) C kC14 iC14 inX1_popInto_X1 rfl tyX1 tyX1_ok nmX1 1 (by decide) (List.mem_of_getElem? (i := 1) rfl) (fun _ h9 => h9) rfl dgC14 rfl (ni_n _) (ni_f _) dX1_popInto_40 ?_
      refine q_nmS (fun σ8 eσ8 => ?_)
      replace h := h σ8 eσ8
      refine q_aload_n C 2 dX1_popInto_43 rfl ?_
      refine q_dup C dX1_popInto_44 rfl ?_
      refine q_geti (T := TX1) C kC14 iC14 inX1_popInto_X1 rfl 0 (by decide) (List.mem_of_getElem? (i := 2) rfl) (fun _ h9 => h9) rfl dX1_popInto_45 ?_
      refine q_iconst (v := (1 : Int32)) C dX1_popInto_48 (by decide) ?_
      refine q_isub C dX1_popInto_49 ?_
      refine q_puti (T := TX1) C kC14 iC14 inX1_popInto_X1 rfl tyX1 tyX1_ok nmX1 0 (by decide) (List.mem_of_getElem? (i := 2) rfl) (fun _ h9 => h9) rfl dgC14 rfl (ni_n _) (ni_f _) dX1_popInto_50 ?_
      refine q_nmS (fun σ9 eσ9 => ?_)
      replace h := h σ9 eσ9
      refine q_iconst (v := (1 : Int32)) C dX1_popInto_53 (by decide) ?_
      exact q_zret C hQ (zb_n (by decide)) dX1_popInto_54 h
theorem c_X1_popInto (Y : CY)  (σ : St) (Post : Int32 → St → Prop) (h : w_X1_popInto  σ Post) : Ki SC Y yX1_popInto wsX1_popInto rmX1_popInto [.ref (qa Y 14), .ref (qa Y 11)] σ Post :=
  Ki_of (cc := cX1_popInto) (nL := 4) (ret := (some .boolean)) (by decide +kernel) rfl (Nat.le_of_ble_eq_true rfl) (fun Z C hQ => b_X1_popInto C hQ  σ h)
abbrev rmX1_push : Room := { frames := 1, cells := 0, slots := 0, locals := 24 }
theorem nkX1_push : NmOk yX1_push 1 := by decide +kernel
theorem rmOk_X1_push__X1_slotAt : RmOk rmX1_slotAt rmX1_push 2 := ⟨rfl, rfl, by decide, by decide⟩
theorem rmOk_X1_push__X4_copyFrom : RmOk rmX4_copyFrom rmX1_push 2 := ⟨rfl, rfl, by decide, by decide⟩
theorem inX1_push_X1 : ∀ w ∈ u_ws RX1 TX1 3, w ∈ wsX1_push := fun _ h => List.mem_cons_of_mem _ (List.mem_append_left _ (List.mem_append_right _ h))
def w_X1_push (σ : St) (Post : St → Prop) : Prop := w_X1_slotAt ((σ 14 1)) σ (fun r2 σ1 => (r2 = none → Post σ1) ∧ (∀ i4 : Nat, r2 = some i4 → ((SC.1 i4 = .inr (.inl (4, flN))) ∧ i4 < SC.2) ∧ (w_X4_copyFrom i4 11 σ1 (fun σ5 => ∀ σ6 : St, σ6 = up σ5 14 1 ((((σ5 14 1) + (1 : Int32)) - ((σ5 14 1) + (1 : Int32)) / (20 : Int32) * (20 : Int32))) → ∀ x7 : Int32, x7 = (if (20 : Int32) < ((σ6 14 0) + (1 : Int32)) then (20 : Int32) else ((σ6 14 0) + (1 : Int32))) → ∀ σ8 : St, σ8 = up σ6 14 0 x7 → Post σ8))))
set_option maxHeartbeats 4000000 in
set_option maxRecDepth 100000 in
theorem b_X1_push {Y : CY} {Z : CZ} (C : cx SC 3 Y Z cX1_push RX1 wsX1_push none rmX1_push) {Post : St → Prop} (hQ : Qv SC Y Z Post)  (σ : St) (h : w_X1_push  σ Post) : WW SC 3 Y Z σ 0 [(0, .ref (qa Y 14)), (1, .ref (qa Y 11))] [] := by
  unfold w_X1_push at h
  refine q_aload_n C 0 dX1_push_0 rfl ?_
  refine q_aload_n C 0 dX1_push_1 rfl ?_
  refine q_geti (T := TX1) C kC14 iC14 inX1_push_X1 rfl 1 (by decide) (List.mem_of_getElem? (i := 1) rfl) (fun _ h9 => h9) rfl dX1_push_2 ?_
  refine q_callVq (As := [.int (σ 14 1)]) (st := []) C (c_X1_slotAt Y ((σ 14 1)) σ _ h) gX1_push_X1_slotAt rfl ⟨rfl, nkX1_slotAt⟩ rmOk_X1_push__X1_slotAt kC14 iC14 rfl rfl (Nat.le_of_ble_eq_true rfl) dX1_push_5 rfl (fun r2 σ1 h => ?_)
  refine q_astore_nq C [(0, .ref (qa Y 14)), (1, .ref (qa Y 11))] dX1_push_8 (by decide) rfl ?_
  refine q_aload_nq C 0 dX1_push_9 rfl ?_
  refine q_ifnonnullq C 14 dX1_push_10 (by decide) (fun c3 => ?_) (fun i4 c3 => ?_)
  · replace h := h.1 c3
    exact q_vret C hQ dX1_push_13 h
  · replace h := h.2 i4 c3
    obtain ⟨⟨k_i4, i_i4⟩, h⟩ := h
    subst c3
    show WW SC 3 Y Z σ1 14 [(2, .ref (qa Y i4)), (0, .ref (qa Y 14)), (1, .ref (qa Y 11))] []
    refine q_aload_n C 0 dX1_push_14 rfl ?_
    refine q_aload_n C 2 dX1_push_15 rfl ?_
    refine q_callVv (As := [.ref (qa Y 11)]) (st := []) C (c_X4_copyFrom Y k_i4 i_i4 kC11 iC11 σ1 _ h) gX1_push_X4_copyFrom rfl ⟨rfl, nkX4_copyFrom⟩ rmOk_X1_push__X4_copyFrom k_i4 i_i4 rfl rfl (Nat.le_of_ble_eq_true rfl) dX1_push_16 rfl (fun σ5 h => ?_)
    refine q_aload_n C 1 dX1_push_19 rfl ?_
    refine q_aload_n C 1 dX1_push_20 rfl ?_
    refine q_geti (T := TX1) C kC14 iC14 inX1_push_X1 rfl 1 (by decide) (List.mem_of_getElem? (i := 1) rfl) (fun _ h9 => h9) rfl dX1_push_21 ?_
    refine q_iconst (v := (1 : Int32)) C dX1_push_24 (by decide) ?_
    refine q_iadd C dX1_push_25 ?_
    refine q_bipush (v := (20 : Int32)) C dX1_push_26 (by decide) ?_
    refine q_irem C dX1_push_28 (by decide) ?_
    refine q_puti (T := TX1) C kC14 iC14 inX1_push_X1 rfl tyX1 tyX1_ok nmX1 1 (by decide) (List.mem_of_getElem? (i := 1) rfl) (fun _ h9 => h9) rfl dgC14 rfl (ni_n _) (ni_f _) dX1_push_29 ?_
    refine q_nmS (fun σ6 eσ6 => ?_)
    replace h := h σ6 eσ6
    refine q_aload_n C 1 dX1_push_32 rfl ?_
    refine q_aload_n C 1 dX1_push_33 rfl ?_
    refine q_geti (T := TX1) C kC14 iC14 inX1_push_X1 rfl 0 (by decide) (List.mem_of_getElem? (i := 2) rfl) (fun _ h9 => h9) rfl dX1_push_34 ?_
    refine q_iconst (v := (1 : Int32)) C dX1_push_37 (by decide) ?_
    refine q_iadd C dX1_push_38 ?_
    refine q_bipush (v := (20 : Int32)) C dX1_push_39 (by decide) ?_
    refine q_mmin C (List.mem_of_getElem? (i := 3) rfl) (List.mem_of_getElem? (i := 4) rfl) (List.mem_of_getElem? (i := 5) rfl) (List.mem_of_getElem? (i := 6) rfl) (by decide) (Nat.le_of_ble_eq_true rfl) dX1_push_41 ?_
    refine q_topi (fun x7 ex7 => ?_)
    replace h := h x7 ex7
    refine q_puti (T := TX1) C kC14 iC14 inX1_push_X1 rfl tyX1 tyX1_ok nmX1 0 (by decide) (List.mem_of_getElem? (i := 2) rfl) (fun _ h9 => h9) rfl dgC14 rfl (ni_n _) (ni_f _) dX1_push_44 ?_
    refine q_nmS (fun σ8 eσ8 => ?_)
    replace h := h σ8 eσ8
    exact q_vret C hQ dX1_push_47 h
theorem c_X1_push (Y : CY)  (σ : St) (Post : St → Prop) (h : w_X1_push  σ Post) : Kv SC Y yX1_push wsX1_push rmX1_push [.ref (qa Y 14), .ref (qa Y 11)] σ Post :=
  Kv_of (cc := cX1_push) (nL := 3) (ret := none) (by decide +kernel) rfl (Nat.le_of_ble_eq_true rfl) (fun Z C hQ => b_X1_push C hQ  σ h)
abbrev rmX3_addStar : Room := { frames := 0, cells := 0, slots := 0, locals := 0 }
theorem nkX3_addStar : NmOk yX3_addStar 2 := by decide +kernel
theorem inX3_addStar_X3 : ∀ w ∈ u_ws RX3 TX3 12, w ∈ wsX3_addStar := fun _ h => List.mem_cons_of_mem _ (List.mem_append_right _ h)
def w_X3_addStar (p1 : Int32) (p2 : Int32) (σ : St) (Post : St → Prop) : Prop := ((σ 7 8) < 0 → Post σ) ∧ (¬ (σ 7 8) < 0 → ((nI 6) ≤ (σ 7 8) → Post σ) ∧ (¬ (nI 6) ≤ (σ 7 8) → ((nI 6) ≤ (σ 7 8) → Post σ) ∧ (¬ (nI 6) ≤ (σ 7 8) → (vp_in (σ 7 8) 6) ∧ (∀ σ4 : St, σ4 = up σ 9 (σ 7 8).toNatClampNeg p1 → (vp_in (σ4 7 8) 6) ∧ (∀ σ5 : St, σ5 = up σ4 10 (σ4 7 8).toNatClampNeg p2 → ∀ σ6 : St, σ6 = up σ5 7 8 (((σ5 7 8) + (1 : Int32))) → Post σ6)))))
set_option maxHeartbeats 4000000 in
set_option maxRecDepth 100000 in
theorem b_X3_addStar {Y : CY} {Z : CZ} (C : cx SC 3 Y Z cX3_addStar RX3 wsX3_addStar none rmX3_addStar) {Post : St → Prop} (hQ : Qv SC Y Z Post)  (p1 : Int32) (p2 : Int32) (σ : St) (h : w_X3_addStar p1 p2 σ Post) : WW SC 3 Y Z σ 0 [(0, .ref (qa Y 7)), (1, .int p1), (2, .int p2)] [] := by
  unfold w_X3_addStar at h
  refine q_aload_n C 0 dX3_addStar_0 rfl ?_
  refine q_geti (T := TX3) C kC7 iC7 inX3_addStar_X3 rfl 8 (by decide) (List.mem_of_getElem? (i := 1) rfl) (fun _ h9 => h9) rfl dX3_addStar_1 ?_
  refine q_if_lt C 61 dX3_addStar_4 (by decide) (fun c1 => ?_) (fun c1 => ?_)
  · replace h := h.1 c1
    exact q_vret C hQ dX3_addStar_61 h
  · replace h := h.2 c1
    refine q_aload_n C 0 dX3_addStar_7 rfl ?_
    refine q_geti (T := TX3) C kC7 iC7 inX3_addStar_X3 rfl 8 (by decide) (List.mem_of_getElem? (i := 1) rfl) (fun _ h9 => h9) rfl dX3_addStar_8 ?_
    refine q_aload_n C 0 dX3_addStar_11 rfl ?_
    refine q_getr (T := TX3) C kC7 iC7 inX3_addStar_X3 rfl 10 (by decide) (List.mem_of_getElem? (i := 2) rfl) (fun _ h9 => h9) rfl dX3_addStar_12 ?_
    refine q_alen C kC9 iC9 dX3_addStar_15 ?_
    refine q_icmp_ge C 61 dX3_addStar_16 (by decide) (fun c2 => ?_) (fun c2 => ?_)
    · replace h := h.1 c2
      exact q_vret C hQ dX3_addStar_61 h
    · replace h := h.2 c2
      refine q_aload_n C 0 dX3_addStar_19 rfl ?_
      refine q_geti (T := TX3) C kC7 iC7 inX3_addStar_X3 rfl 8 (by decide) (List.mem_of_getElem? (i := 1) rfl) (fun _ h9 => h9) rfl dX3_addStar_20 ?_
      refine q_aload_n C 0 dX3_addStar_23 rfl ?_
      refine q_getr (T := TX3) C kC7 iC7 inX3_addStar_X3 rfl 11 (by decide) (List.mem_of_getElem? (i := 3) rfl) (fun _ h9 => h9) rfl dX3_addStar_24 ?_
      refine q_alen C kC10 iC10 dX3_addStar_27 ?_
      refine q_icmp_ge C 61 dX3_addStar_28 (by decide) (fun c3 => ?_) (fun c3 => ?_)
      · replace h := h.1 c3
        exact q_vret C hQ dX3_addStar_61 h
      · replace h := h.2 c3
        refine q_aload_n C 0 dX3_addStar_31 rfl ?_
        refine q_getr (T := TX3) C kC7 iC7 inX3_addStar_X3 rfl 10 (by decide) (List.mem_of_getElem? (i := 2) rfl) (fun _ h9 => h9) rfl dX3_addStar_32 ?_
        refine q_aload_n C 0 dX3_addStar_35 rfl ?_
        refine q_geti (T := TX3) C kC7 iC7 inX3_addStar_X3 rfl 8 (by decide) (List.mem_of_getElem? (i := 1) rfl) (fun _ h9 => h9) rfl dX3_addStar_36 ?_
        refine q_iload_n C 1 dX3_addStar_39 rfl ?_
        obtain ⟨g8, h⟩ := h
        refine q_iast C kC9 iC9 g8 dX3_addStar_40 ?_
        refine q_nmS (fun σ4 eσ4 => ?_)
        replace h := h σ4 eσ4
        refine q_aload_n C 0 dX3_addStar_41 rfl ?_
        refine q_getr (T := TX3) C kC7 iC7 inX3_addStar_X3 rfl 11 (by decide) (List.mem_of_getElem? (i := 3) rfl) (fun _ h9 => h9) rfl dX3_addStar_42 ?_
        refine q_aload_n C 0 dX3_addStar_45 rfl ?_
        refine q_geti (T := TX3) C kC7 iC7 inX3_addStar_X3 rfl 8 (by decide) (List.mem_of_getElem? (i := 1) rfl) (fun _ h9 => h9) rfl dX3_addStar_46 ?_
        refine q_iload_n C 2 dX3_addStar_49 rfl ?_
        obtain ⟨g7, h⟩ := h
        refine q_iast C kC10 iC10 g7 dX3_addStar_50 ?_
        refine q_nmS (fun σ5 eσ5 => ?_)
        replace h := h σ5 eσ5
        refine q_aload_n C 0 dX3_addStar_51 rfl ?_
        refine q_dup C dX3_addStar_52 rfl ?_
        refine q_geti (T := TX3) C kC7 iC7 inX3_addStar_X3 rfl 8 (by decide) (List.mem_of_getElem? (i := 1) rfl) (fun _ h9 => h9) rfl dX3_addStar_53 ?_
        refine q_iconst (v := (1 : Int32)) C dX3_addStar_56 (by decide) ?_
        refine q_iadd C dX3_addStar_57 ?_
        refine q_puti (T := TX3) C kC7 iC7 inX3_addStar_X3 rfl tyX3 tyX3_ok nmX3 8 (by decide) (List.mem_of_getElem? (i := 1) rfl) (fun _ h9 => h9) rfl (dgM _) rfl (ni_n _) (ni_f _) dX3_addStar_58 ?_
        refine q_nmS (fun σ6 eσ6 => ?_)
        replace h := h σ6 eσ6
        exact q_vret C hQ dX3_addStar_61 h
theorem c_X3_addStar (Y : CY)  (p1 : Int32) (p2 : Int32) (σ : St) (Post : St → Prop) (h : w_X3_addStar p1 p2 σ Post) : Kv SC Y yX3_addStar wsX3_addStar rmX3_addStar [.ref (qa Y 7), .int p1, .int p2] σ Post :=
  Kv_of (cc := cX3_addStar) (nL := 3) (ret := none) (by decide +kernel) rfl (Nat.le_of_ble_eq_true rfl) (fun Z C hQ => b_X3_addStar C hQ  p1 p2 σ h)
abbrev rmX3_setWorm : Room := { frames := 0, cells := 0, slots := 0, locals := 0 }
theorem nkX3_setWorm : NmOk yX3_setWorm 2 := by decide +kernel
theorem inX3_setWorm_X3 : ∀ w ∈ u_ws RX3 TX3 12, w ∈ wsX3_setWorm := fun _ h => List.mem_cons_of_mem _ (List.mem_append_right _ h)
def w_X3_setWorm (j1 : Nat) (p1 : Int32) (p2 : Int32) (σ : St) (Post : St → Prop) : Prop := (p1 < 0 → Post σ) ∧ (¬ p1 < 0 → ((nI 9) ≤ p1 → Post σ) ∧ (¬ (nI 9) ≤ p1 → (vp_in p1 9) ∧ (∀ σ3 : St, σ3 = up σ (j1 + 1) p1.toNatClampNeg p2 → ∀ σ4 : St, σ4 = up σ3 j1 4 ((p1 + (1 : Int32))) → Post σ4)))
set_option maxHeartbeats 4000000 in
set_option maxRecDepth 100000 in
theorem b_X3_setWorm {S : Sd} {Y : CY} {Z : CZ} (C : cx S 3 Y Z cX3_setWorm RX3 wsX3_setWorm none rmX3_setWorm) {Post : St → Prop} (hQ : Qv S Y Z Post) {j1 : Nat} (k_j1 : S.1 j1 = .inr (.inl (3, flM j1))) (i_j1 : j1 < S.2) (k_j1_1 : S.1 (j1 + 1) = .inl (0, 9)) (i_j1_1 : j1 + 1 < S.2) (k_j1_2 : S.1 (j1 + 2) = .inl (0, 6)) (i_j1_2 : j1 + 2 < S.2) (k_j1_3 : S.1 (j1 + 3) = .inl (0, 6)) (i_j1_3 : j1 + 3 < S.2) (p1 : Int32) (p2 : Int32) (σ : St) (h : w_X3_setWorm j1 p1 p2 σ Post) : WW S 3 Y Z σ 0 [(0, .ref (qa Y j1)), (1, .int p1), (2, .int p2)] [] := by
  unfold w_X3_setWorm at h
  refine q_iload_n C 1 dX3_setWorm_0 rfl ?_
  refine q_if_lt C 27 dX3_setWorm_1 (by decide) (fun c1 => ?_) (fun c1 => ?_)
  · replace h := h.1 c1
    exact q_vret C hQ dX3_setWorm_27 h
  · replace h := h.2 c1
    refine q_iload_n C 1 dX3_setWorm_4 rfl ?_
    refine q_aload_n C 0 dX3_setWorm_5 rfl ?_
    refine q_getr (T := TX3) C k_j1 i_j1 inX3_setWorm_X3 rfl 9 (by decide) (List.mem_of_getElem? (i := 1) rfl) (fun _ h9 => h9) rfl dX3_setWorm_6 ?_
    refine q_alen C k_j1_1 i_j1_1 dX3_setWorm_9 ?_
    refine q_icmp_ge C 27 dX3_setWorm_10 (by decide) (fun c2 => ?_) (fun c2 => ?_)
    · replace h := h.1 c2
      exact q_vret C hQ dX3_setWorm_27 h
    · replace h := h.2 c2
      refine q_aload_n C 0 dX3_setWorm_13 rfl ?_
      refine q_getr (T := TX3) C k_j1 i_j1 inX3_setWorm_X3 rfl 9 (by decide) (List.mem_of_getElem? (i := 1) rfl) (fun _ h9 => h9) rfl dX3_setWorm_14 ?_
      refine q_iload_n C 1 dX3_setWorm_17 rfl ?_
      refine q_iload_n C 2 dX3_setWorm_18 rfl ?_
      obtain ⟨g5, h⟩ := h
      refine q_iast C k_j1_1 i_j1_1 g5 dX3_setWorm_19 ?_
      refine q_nmS (fun σ3 eσ3 => ?_)
      replace h := h σ3 eσ3
      refine q_aload_n C 0 dX3_setWorm_20 rfl ?_
      refine q_iload_n C 1 dX3_setWorm_21 rfl ?_
      refine q_iconst (v := (1 : Int32)) C dX3_setWorm_22 (by decide) ?_
      refine q_iadd C dX3_setWorm_23 ?_
      refine q_puti (T := TX3) C k_j1 i_j1 inX3_setWorm_X3 rfl tyX3 tyX3_ok nmX3 4 (by decide) (List.mem_of_getElem? (i := 2) rfl) (fun _ h9 => h9) rfl (dgM _) rfl (ni_n _) (ni_f _) dX3_setWorm_24 ?_
      refine q_nmS (fun σ4 eσ4 => ?_)
      replace h := h σ4 eσ4
      exact q_vret C hQ dX3_setWorm_27 h
theorem c_X3_setWorm {S : Sd} (Y : CY) {j1 : Nat} (k_j1 : S.1 j1 = .inr (.inl (3, flM j1))) (i_j1 : j1 < S.2) (k_j1_1 : S.1 (j1 + 1) = .inl (0, 9)) (i_j1_1 : j1 + 1 < S.2) (k_j1_2 : S.1 (j1 + 2) = .inl (0, 6)) (i_j1_2 : j1 + 2 < S.2) (k_j1_3 : S.1 (j1 + 3) = .inl (0, 6)) (i_j1_3 : j1 + 3 < S.2) (p1 : Int32) (p2 : Int32) (σ : St) (Post : St → Prop) (h : w_X3_setWorm j1 p1 p2 σ Post) : Kv S Y yX3_setWorm wsX3_setWorm rmX3_setWorm [.ref (qa Y j1), .int p1, .int p2] σ Post :=
  Kv_of (cc := cX3_setWorm) (nL := 3) (ret := none) (by decide +kernel) rfl (Nat.le_of_ble_eq_true rfl) (fun Z C hQ => b_X3_setWorm C hQ k_j1 i_j1 k_j1_1 i_j1_1 k_j1_2 i_j1_2 k_j1_3 i_j1_3 p1 p2 σ h)
abbrev rmX3_clear : Room := { frames := 1, cells := 0, slots := 0, locals := 22 }
theorem nkX3_clear : NmOk yX3_clear 0 := by decide +kernel
theorem rmOk_X3_clear__X3_setWorm : RmOk rmX3_setWorm rmX3_clear 3 := ⟨rfl, rfl, by decide, by decide⟩
theorem inX3_clear_X3 : ∀ w ∈ u_ws RX3 TX3 12, w ∈ wsX3_clear := fun _ h => List.mem_cons_of_mem _ (List.mem_append_right _ h)
def w_X3_clear (j1 : Nat) (σ : St) (Post : St → Prop) : Prop := ∀ σ1 : St, σ1 = up σ j1 0 (0 : Int32) → ∀ σ2 : St, σ2 = up σ1 j1 1 (0 : Int32) → ∀ σ3 : St, σ3 = up σ2 j1 2 (0 : Int32) → ∀ σ4 : St, σ4 = up σ3 j1 3 (0 : Int32) → w_X3_setWorm j1 (0 : Int32) (0 : Int32) σ4 (fun σ5 => ∀ σ6 : St, σ6 = up σ5 j1 5 (-1 : Int32) → ∀ σ7 : St, σ7 = up σ6 j1 6 (0 : Int32) → ∀ σ8 : St, σ8 = up σ7 j1 7 (1 : Int32) → ∀ σ9 : St, σ9 = up σ8 j1 8 (0 : Int32) → Post σ9)
set_option maxHeartbeats 4000000 in
set_option maxRecDepth 100000 in
theorem b_X3_clear {S : Sd} {Y : CY} {Z : CZ} (C : cx S 1 Y Z cX3_clear RX3 wsX3_clear none rmX3_clear) {Post : St → Prop} (hQ : Qv S Y Z Post) {j1 : Nat} (k_j1 : S.1 j1 = .inr (.inl (3, flM j1))) (i_j1 : j1 < S.2) (k_j1_1 : S.1 (j1 + 1) = .inl (0, 9)) (i_j1_1 : j1 + 1 < S.2) (k_j1_2 : S.1 (j1 + 2) = .inl (0, 6)) (i_j1_2 : j1 + 2 < S.2) (k_j1_3 : S.1 (j1 + 3) = .inl (0, 6)) (i_j1_3 : j1 + 3 < S.2) (σ : St) (h : w_X3_clear j1 σ Post) : WW S 1 Y Z σ 0 [(0, .ref (qa Y j1))] [] := by
  unfold w_X3_clear at h
  refine q_aload_n C 0 dX3_clear_0 rfl ?_
  refine q_iconst (v := (0 : Int32)) C dX3_clear_1 (by decide) ?_
  refine q_puti (T := TX3) C k_j1 i_j1 inX3_clear_X3 rfl tyX3 tyX3_ok nmX3 0 (by decide) (List.mem_of_getElem? (i := 1) rfl) (fun _ h9 => h9) rfl (dgM _) rfl (zb_n (by decide)) (zb_f (by decide)) dX3_clear_2 ?_
  refine q_nmS (fun σ1 eσ1 => ?_)
  replace h := h σ1 eσ1
  refine q_aload_n C 0 dX3_clear_5 rfl ?_
  refine q_iconst (v := (0 : Int32)) C dX3_clear_6 (by decide) ?_
  refine q_puti (T := TX3) C k_j1 i_j1 inX3_clear_X3 rfl tyX3 tyX3_ok nmX3 1 (by decide) (List.mem_of_getElem? (i := 2) rfl) (fun _ h9 => h9) rfl (dgM _) rfl (ni_n _) (ni_f _) dX3_clear_7 ?_
  refine q_nmS (fun σ2 eσ2 => ?_)
  replace h := h σ2 eσ2
  refine q_aload_n C 0 dX3_clear_10 rfl ?_
  refine q_iconst (v := (0 : Int32)) C dX3_clear_11 (by decide) ?_
  refine q_puti (T := TX3) C k_j1 i_j1 inX3_clear_X3 rfl tyX3 tyX3_ok nmX3 2 (by decide) (List.mem_of_getElem? (i := 3) rfl) (fun _ h9 => h9) rfl (dgM _) rfl (ni_n _) (ni_f _) dX3_clear_12 ?_
  refine q_nmS (fun σ3 eσ3 => ?_)
  replace h := h σ3 eσ3
  refine q_aload_n C 0 dX3_clear_15 rfl ?_
  refine q_iconst (v := (0 : Int32)) C dX3_clear_16 (by decide) ?_
  refine q_puti (T := TX3) C k_j1 i_j1 inX3_clear_X3 rfl tyX3 tyX3_ok nmX3 3 (by decide) (List.mem_of_getElem? (i := 4) rfl) (fun _ h9 => h9) rfl (dgM _) rfl (ni_n _) (ni_f _) dX3_clear_17 ?_
  refine q_nmS (fun σ4 eσ4 => ?_)
  replace h := h σ4 eσ4
  refine q_aload_n C 0 dX3_clear_20 rfl ?_
  refine q_iconst (v := (0 : Int32)) C dX3_clear_21 (by decide) ?_
  refine q_iconst (v := (0 : Int32)) C dX3_clear_22 (by decide) ?_
  refine q_callVv (As := [.int (0 : Int32), .int (0 : Int32)]) (st := []) C (c_X3_setWorm Y k_j1 i_j1 k_j1_1 i_j1_1 k_j1_2 i_j1_2 k_j1_3 i_j1_3 (0 : Int32) (0 : Int32) σ4 _ h) gX3_clear_X3_setWorm rfl ⟨rfl, nkX3_setWorm⟩ rmOk_X3_clear__X3_setWorm k_j1 i_j1 rfl rfl (Nat.le_of_ble_eq_true rfl) dX3_clear_23 rfl (fun σ5 h => ?_)
  refine q_aload_n C 0 dX3_clear_26 rfl ?_
  refine q_iconst (v := (-1 : Int32)) C dX3_clear_27 (by decide) ?_
  refine q_puti (T := TX3) C k_j1 i_j1 inX3_clear_X3 rfl tyX3 tyX3_ok nmX3 5 (by decide) (List.mem_of_getElem? (i := 5) rfl) (fun _ h9 => h9) rfl (dgM _) rfl (ni_n _) (ni_f _) dX3_clear_28 ?_
  refine q_nmS (fun σ6 eσ6 => ?_)
  replace h := h σ6 eσ6
  refine q_aload_n C 0 dX3_clear_31 rfl ?_
  refine q_iconst (v := (0 : Int32)) C dX3_clear_32 (by decide) ?_
  refine q_puti (T := TX3) C k_j1 i_j1 inX3_clear_X3 rfl tyX3 tyX3_ok nmX3 6 (by decide) (List.mem_of_getElem? (i := 6) rfl) (fun _ h9 => h9) rfl (dgM _) rfl (ni_n _) (ni_f _) dX3_clear_33 ?_
  refine q_nmS (fun σ7 eσ7 => ?_)
  replace h := h σ7 eσ7
  refine q_aload_n C 0 dX3_clear_36 rfl ?_
  refine q_iconst (v := (1 : Int32)) C dX3_clear_37 (by decide) ?_
  refine q_puti (T := TX3) C k_j1 i_j1 inX3_clear_X3 rfl tyX3 tyX3_ok nmX3 7 (by decide) (List.mem_of_getElem? (i := 7) rfl) (fun _ h9 => h9) rfl (dgM _) rfl (ni_n _) (ni_f _) dX3_clear_38 ?_
  refine q_nmS (fun σ8 eσ8 => ?_)
  replace h := h σ8 eσ8
  refine q_aload_n C 0 dX3_clear_41 rfl ?_
  refine q_iconst (v := (0 : Int32)) C dX3_clear_42 (by decide) ?_
  refine q_puti (T := TX3) C k_j1 i_j1 inX3_clear_X3 rfl tyX3 tyX3_ok nmX3 8 (by decide) (List.mem_of_getElem? (i := 8) rfl) (fun _ h9 => h9) rfl (dgM _) rfl (ni_n _) (ni_f _) dX3_clear_43 ?_
  refine q_nmS (fun σ9 eσ9 => ?_)
  replace h := h σ9 eσ9
  exact q_vret C hQ dX3_clear_46 h
theorem c_X3_clear {S : Sd} (Y : CY) {j1 : Nat} (k_j1 : S.1 j1 = .inr (.inl (3, flM j1))) (i_j1 : j1 < S.2) (k_j1_1 : S.1 (j1 + 1) = .inl (0, 9)) (i_j1_1 : j1 + 1 < S.2) (k_j1_2 : S.1 (j1 + 2) = .inl (0, 6)) (i_j1_2 : j1 + 2 < S.2) (k_j1_3 : S.1 (j1 + 3) = .inl (0, 6)) (i_j1_3 : j1 + 3 < S.2) (σ : St) (Post : St → Prop) (h : w_X3_clear j1 σ Post) : Kv S Y yX3_clear wsX3_clear rmX3_clear [.ref (qa Y j1)] σ Post :=
  Kv_of (cc := cX3_clear) (nL := 1) (ret := none) (by decide +kernel) rfl (Nat.le_of_ble_eq_true rfl) (fun Z C hQ => b_X3_clear C hQ k_j1 i_j1 k_j1_1 i_j1_1 k_j1_2 i_j1_2 k_j1_3 i_j1_3 σ h)
abbrev rmX3_wormAt : Room := { frames := 0, cells := 0, slots := 0, locals := 0 }
theorem nkX3_wormAt : NmOk yX3_wormAt 1 := by decide +kernel
theorem inX3_wormAt_X3 : ∀ w ∈ u_ws RX3 TX3 12, w ∈ wsX3_wormAt := fun _ h => List.mem_cons_of_mem _ (List.mem_append_right _ h)
def w_X3_wormAt (j1 : Nat) (p1 : Int32) (σ : St) (Post : Int32 → St → Prop) : Prop := (p1 < 0 → Post (0 : Int32) σ) ∧ (¬ p1 < 0 → ((nI 9) ≤ p1 → Post (0 : Int32) σ) ∧ (¬ (nI 9) ≤ p1 → (vp_in p1 9) ∧ (Post ((σ (j1 + 1) p1.toNatClampNeg)) σ)))
set_option maxHeartbeats 4000000 in
set_option maxRecDepth 100000 in
theorem b_X3_wormAt {Y : CY} {Z : CZ} (C : cx SC 2 Y Z cX3_wormAt RX3 wsX3_wormAt (some .int) rmX3_wormAt) {Post : Int32 → St → Prop} (hQ : Qi SC Y Z Post) {j1 : Nat} (k_j1 : SC.1 j1 = .inr (.inl (3, flM j1))) (i_j1 : j1 < SC.2) (k_j1_1 : SC.1 (j1 + 1) = .inl (0, 9)) (i_j1_1 : j1 + 1 < SC.2) (k_j1_2 : SC.1 (j1 + 2) = .inl (0, 6)) (i_j1_2 : j1 + 2 < SC.2) (k_j1_3 : SC.1 (j1 + 3) = .inl (0, 6)) (i_j1_3 : j1 + 3 < SC.2) (p1 : Int32) (σ : St) (h : w_X3_wormAt j1 p1 σ Post) : WW SC 2 Y Z σ 0 [(0, .ref (qa Y j1)), (1, .int p1)] [] := by
  unfold w_X3_wormAt at h
  refine q_iload_n C 1 dX3_wormAt_0 rfl ?_
  refine q_if_lt C 22 dX3_wormAt_1 (by decide) (fun c1 => ?_) (fun c1 => ?_)
  · replace h := h.1 c1
    refine q_iconst (v := (0 : Int32)) C dX3_wormAt_22 (by decide) ?_
    exact q_iret C hQ dX3_wormAt_23 h
  · replace h := h.2 c1
    refine q_iload_n C 1 dX3_wormAt_4 rfl ?_
    refine q_aload_n C 0 dX3_wormAt_5 rfl ?_
    refine q_getr (T := TX3) C k_j1 i_j1 inX3_wormAt_X3 rfl 9 (by decide) (List.mem_of_getElem? (i := 1) rfl) (fun _ h9 => h9) rfl dX3_wormAt_6 ?_
    refine q_alen C k_j1_1 i_j1_1 dX3_wormAt_9 ?_
    refine q_icmp_ge C 22 dX3_wormAt_10 (by decide) (fun c2 => ?_) (fun c2 => ?_)
    · replace h := h.1 c2
      refine q_iconst (v := (0 : Int32)) C dX3_wormAt_22 (by decide) ?_
      exact q_iret C hQ dX3_wormAt_23 h
    · replace h := h.2 c2
      refine q_aload_n C 0 dX3_wormAt_13 rfl ?_
      refine q_getr (T := TX3) C k_j1 i_j1 inX3_wormAt_X3 rfl 9 (by decide) (List.mem_of_getElem? (i := 1) rfl) (fun _ h9 => h9) rfl dX3_wormAt_14 ?_
      refine q_iload_n C 1 dX3_wormAt_17 rfl ?_
      obtain ⟨g3, h⟩ := h
      refine q_iald C k_j1_1 i_j1_1 g3 dX3_wormAt_18 ?_
      refine q_goto C 23 dX3_wormAt_19 (by decide) ?_
      exact q_iret C hQ dX3_wormAt_23 h
theorem c_X3_wormAt (Y : CY) {j1 : Nat} (k_j1 : SC.1 j1 = .inr (.inl (3, flM j1))) (i_j1 : j1 < SC.2) (k_j1_1 : SC.1 (j1 + 1) = .inl (0, 9)) (i_j1_1 : j1 + 1 < SC.2) (k_j1_2 : SC.1 (j1 + 2) = .inl (0, 6)) (i_j1_2 : j1 + 2 < SC.2) (k_j1_3 : SC.1 (j1 + 3) = .inl (0, 6)) (i_j1_3 : j1 + 3 < SC.2) (p1 : Int32) (σ : St) (Post : Int32 → St → Prop) (h : w_X3_wormAt j1 p1 σ Post) : Ki SC Y yX3_wormAt wsX3_wormAt rmX3_wormAt [.ref (qa Y j1), .int p1] σ Post :=
  Ki_of (cc := cX3_wormAt) (nL := 2) (ret := (some .int)) (by decide +kernel) rfl (Nat.le_of_ble_eq_true rfl) (fun Z C hQ => b_X3_wormAt C hQ k_j1 i_j1 k_j1_1 i_j1_1 k_j1_2 i_j1_2 k_j1_3 i_j1_3 p1 σ h)
abbrev rmX3_hairsOf : Room := { frames := 0, cells := 0, slots := 0, locals := 0 }
theorem nkX3_hairsOf : NmOk yX3_hairsOf 1 := by decide +kernel
theorem inX3_hairsOf_X3 : ∀ w ∈ u_ws RX3 TX3 12, w ∈ wsX3_hairsOf := fun _ h => List.mem_cons_of_mem _ (List.mem_append_right _ h)
def w_X3_hairsOf (j1 : Nat) (p1 : Int32) (σ : St) (Post : Int32 → St → Prop) : Prop := (p1 < 0 → Post (0 : Int32) σ) ∧ (¬ p1 < 0 → ((nI 6) ≤ p1 → Post (0 : Int32) σ) ∧ (¬ (nI 6) ≤ p1 → (vp_in p1 6) ∧ (Post ((σ (j1 + 2) p1.toNatClampNeg)) σ)))
set_option maxHeartbeats 4000000 in
set_option maxRecDepth 100000 in
theorem b_X3_hairsOf {Y : CY} {Z : CZ} (C : cx SC 2 Y Z cX3_hairsOf RX3 wsX3_hairsOf (some .int) rmX3_hairsOf) {Post : Int32 → St → Prop} (hQ : Qi SC Y Z Post) {j1 : Nat} (k_j1 : SC.1 j1 = .inr (.inl (3, flM j1))) (i_j1 : j1 < SC.2) (k_j1_1 : SC.1 (j1 + 1) = .inl (0, 9)) (i_j1_1 : j1 + 1 < SC.2) (k_j1_2 : SC.1 (j1 + 2) = .inl (0, 6)) (i_j1_2 : j1 + 2 < SC.2) (k_j1_3 : SC.1 (j1 + 3) = .inl (0, 6)) (i_j1_3 : j1 + 3 < SC.2) (p1 : Int32) (σ : St) (h : w_X3_hairsOf j1 p1 σ Post) : WW SC 2 Y Z σ 0 [(0, .ref (qa Y j1)), (1, .int p1)] [] := by
  unfold w_X3_hairsOf at h
  refine q_iload_n C 1 dX3_hairsOf_0 rfl ?_
  refine q_if_lt C 22 dX3_hairsOf_1 (by decide) (fun c1 => ?_) (fun c1 => ?_)
  · replace h := h.1 c1
    refine q_iconst (v := (0 : Int32)) C dX3_hairsOf_22 (by decide) ?_
    exact q_iret C hQ dX3_hairsOf_23 h
  · replace h := h.2 c1
    refine q_iload_n C 1 dX3_hairsOf_4 rfl ?_
    refine q_aload_n C 0 dX3_hairsOf_5 rfl ?_
    refine q_getr (T := TX3) C k_j1 i_j1 inX3_hairsOf_X3 rfl 10 (by decide) (List.mem_of_getElem? (i := 1) rfl) (fun _ h9 => h9) rfl dX3_hairsOf_6 ?_
    refine q_alen C k_j1_2 i_j1_2 dX3_hairsOf_9 ?_
    refine q_icmp_ge C 22 dX3_hairsOf_10 (by decide) (fun c2 => ?_) (fun c2 => ?_)
    · replace h := h.1 c2
      refine q_iconst (v := (0 : Int32)) C dX3_hairsOf_22 (by decide) ?_
      exact q_iret C hQ dX3_hairsOf_23 h
    · replace h := h.2 c2
      refine q_aload_n C 0 dX3_hairsOf_13 rfl ?_
      refine q_getr (T := TX3) C k_j1 i_j1 inX3_hairsOf_X3 rfl 10 (by decide) (List.mem_of_getElem? (i := 1) rfl) (fun _ h9 => h9) rfl dX3_hairsOf_14 ?_
      refine q_iload_n C 1 dX3_hairsOf_17 rfl ?_
      obtain ⟨g3, h⟩ := h
      refine q_iald C k_j1_2 i_j1_2 g3 dX3_hairsOf_18 ?_
      refine q_goto C 23 dX3_hairsOf_19 (by decide) ?_
      exact q_iret C hQ dX3_hairsOf_23 h
theorem c_X3_hairsOf (Y : CY) {j1 : Nat} (k_j1 : SC.1 j1 = .inr (.inl (3, flM j1))) (i_j1 : j1 < SC.2) (k_j1_1 : SC.1 (j1 + 1) = .inl (0, 9)) (i_j1_1 : j1 + 1 < SC.2) (k_j1_2 : SC.1 (j1 + 2) = .inl (0, 6)) (i_j1_2 : j1 + 2 < SC.2) (k_j1_3 : SC.1 (j1 + 3) = .inl (0, 6)) (i_j1_3 : j1 + 3 < SC.2) (p1 : Int32) (σ : St) (Post : Int32 → St → Prop) (h : w_X3_hairsOf j1 p1 σ Post) : Ki SC Y yX3_hairsOf wsX3_hairsOf rmX3_hairsOf [.ref (qa Y j1), .int p1] σ Post :=
  Ki_of (cc := cX3_hairsOf) (nL := 2) (ret := (some .int)) (by decide +kernel) rfl (Nat.le_of_ble_eq_true rfl) (fun Z C hQ => b_X3_hairsOf C hQ k_j1 i_j1 k_j1_1 i_j1_1 k_j1_2 i_j1_2 k_j1_3 i_j1_3 p1 σ h)
abbrev rmX3_lightOf : Room := { frames := 0, cells := 0, slots := 0, locals := 0 }
theorem nkX3_lightOf : NmOk yX3_lightOf 1 := by decide +kernel
theorem inX3_lightOf_X3 : ∀ w ∈ u_ws RX3 TX3 12, w ∈ wsX3_lightOf := fun _ h => List.mem_cons_of_mem _ (List.mem_append_right _ h)
def w_X3_lightOf (j1 : Nat) (p1 : Int32) (σ : St) (Post : Int32 → St → Prop) : Prop := (p1 < 0 → Post (0 : Int32) σ) ∧ (¬ p1 < 0 → ((nI 6) ≤ p1 → Post (0 : Int32) σ) ∧ (¬ (nI 6) ≤ p1 → (vp_in p1 6) ∧ (Post ((σ (j1 + 3) p1.toNatClampNeg)) σ)))
set_option maxHeartbeats 4000000 in
set_option maxRecDepth 100000 in
theorem b_X3_lightOf {Y : CY} {Z : CZ} (C : cx SC 2 Y Z cX3_lightOf RX3 wsX3_lightOf (some .int) rmX3_lightOf) {Post : Int32 → St → Prop} (hQ : Qi SC Y Z Post) {j1 : Nat} (k_j1 : SC.1 j1 = .inr (.inl (3, flM j1))) (i_j1 : j1 < SC.2) (k_j1_1 : SC.1 (j1 + 1) = .inl (0, 9)) (i_j1_1 : j1 + 1 < SC.2) (k_j1_2 : SC.1 (j1 + 2) = .inl (0, 6)) (i_j1_2 : j1 + 2 < SC.2) (k_j1_3 : SC.1 (j1 + 3) = .inl (0, 6)) (i_j1_3 : j1 + 3 < SC.2) (p1 : Int32) (σ : St) (h : w_X3_lightOf j1 p1 σ Post) : WW SC 2 Y Z σ 0 [(0, .ref (qa Y j1)), (1, .int p1)] [] := by
  unfold w_X3_lightOf at h
  refine q_iload_n C 1 dX3_lightOf_0 rfl ?_
  refine q_if_lt C 22 dX3_lightOf_1 (by decide) (fun c1 => ?_) (fun c1 => ?_)
  · replace h := h.1 c1
    refine q_iconst (v := (0 : Int32)) C dX3_lightOf_22 (by decide) ?_
    exact q_iret C hQ dX3_lightOf_23 h
  · replace h := h.2 c1
    refine q_iload_n C 1 dX3_lightOf_4 rfl ?_
    refine q_aload_n C 0 dX3_lightOf_5 rfl ?_
    refine q_getr (T := TX3) C k_j1 i_j1 inX3_lightOf_X3 rfl 11 (by decide) (List.mem_of_getElem? (i := 1) rfl) (fun _ h9 => h9) rfl dX3_lightOf_6 ?_
    refine q_alen C k_j1_3 i_j1_3 dX3_lightOf_9 ?_
    refine q_icmp_ge C 22 dX3_lightOf_10 (by decide) (fun c2 => ?_) (fun c2 => ?_)
    · replace h := h.1 c2
      refine q_iconst (v := (0 : Int32)) C dX3_lightOf_22 (by decide) ?_
      exact q_iret C hQ dX3_lightOf_23 h
    · replace h := h.2 c2
      refine q_aload_n C 0 dX3_lightOf_13 rfl ?_
      refine q_getr (T := TX3) C k_j1 i_j1 inX3_lightOf_X3 rfl 11 (by decide) (List.mem_of_getElem? (i := 1) rfl) (fun _ h9 => h9) rfl dX3_lightOf_14 ?_
      refine q_iload_n C 1 dX3_lightOf_17 rfl ?_
      obtain ⟨g3, h⟩ := h
      refine q_iald C k_j1_3 i_j1_3 g3 dX3_lightOf_18 ?_
      refine q_goto C 23 dX3_lightOf_19 (by decide) ?_
      exact q_iret C hQ dX3_lightOf_23 h
theorem c_X3_lightOf (Y : CY) {j1 : Nat} (k_j1 : SC.1 j1 = .inr (.inl (3, flM j1))) (i_j1 : j1 < SC.2) (k_j1_1 : SC.1 (j1 + 1) = .inl (0, 9)) (i_j1_1 : j1 + 1 < SC.2) (k_j1_2 : SC.1 (j1 + 2) = .inl (0, 6)) (i_j1_2 : j1 + 2 < SC.2) (k_j1_3 : SC.1 (j1 + 3) = .inl (0, 6)) (i_j1_3 : j1 + 3 < SC.2) (p1 : Int32) (σ : St) (Post : Int32 → St → Prop) (h : w_X3_lightOf j1 p1 σ Post) : Ki SC Y yX3_lightOf wsX3_lightOf rmX3_lightOf [.ref (qa Y j1), .int p1] σ Post :=
  Ki_of (cc := cX3_lightOf) (nL := 2) (ret := (some .int)) (by decide +kernel) rfl (Nat.le_of_ble_eq_true rfl) (fun Z C hQ => b_X3_lightOf C hQ k_j1 i_j1 k_j1_1 i_j1_1 k_j1_2 i_j1_2 k_j1_3 i_j1_3 p1 σ h)
abbrev rmX3_copyFrom : Room := { frames := 1, cells := 0, slots := 0, locals := 21 }
theorem nkX3_copyFrom : NmOk yX3_copyFrom 1 := by decide +kernel
theorem rmOk_X3_copyFrom__X3_hairsOf : RmOk rmX3_hairsOf rmX3_copyFrom 2 := ⟨rfl, rfl, by decide, by decide⟩
theorem rmOk_X3_copyFrom__X3_lightOf : RmOk rmX3_lightOf rmX3_copyFrom 2 := ⟨rfl, rfl, by decide, by decide⟩
theorem rmOk_X3_copyFrom__X3_wormAt : RmOk rmX3_wormAt rmX3_copyFrom 2 := ⟨rfl, rfl, by decide, by decide⟩
theorem inX3_copyFrom_X3 : ∀ w ∈ u_ws RX3 TX3 12, w ∈ wsX3_copyFrom := fun _ h => List.mem_cons_of_mem _ (List.mem_append_right _ h)
def w_X3_copyFrom_B102 (Post : St → Prop) (K102 : Int32 → St → Prop) (v2 : Int32) (σ : St) : Prop := ((nI 6) ≤ v2 → Post σ) ∧ (¬ (nI 6) ≤ v2 → ((nI 6) ≤ v2 → Post σ) ∧ (¬ (nI 6) ≤ v2 → w_X3_hairsOf 7 v2 σ (fun x20 σ19 => (vp_in v2 6) ∧ (∀ σ21 : St, σ21 = up σ19 5 v2.toNatClampNeg x20 → w_X3_lightOf 7 v2 σ21 (fun x23 σ22 => (vp_in v2 6) ∧ (∀ σ24 : St, σ24 = up σ22 6 v2.toNatClampNeg x23 → ∀ x25 : Int32, x25 = v2 + (1 : Int32) → K102 x25 σ24))))))
def w_X3_copyFrom_L102 (Post : St → Prop) : Nat → Int32 → St → Prop
  | 0 => fun _ _ => False
  | n + 1 => w_X3_copyFrom_B102   Post (w_X3_copyFrom_L102   Post n)
def w_X3_copyFrom_B74 (Post : St → Prop) (K74 : Int32 → St → Prop) (v2 : Int32) (σ : St) : Prop := ((nI 9) ≤ v2 → w_X3_copyFrom_L102 Post FU (0 : Int32) σ) ∧ (¬ (nI 9) ≤ v2 → w_X3_wormAt 7 v2 σ (fun x13 σ12 => (vp_in v2 9) ∧ (∀ σ14 : St, σ14 = up σ12 4 v2.toNatClampNeg x13 → ∀ x15 : Int32, x15 = v2 + (1 : Int32) → K74 x15 σ14)))
def w_X3_copyFrom_L74 (Post : St → Prop) : Nat → Int32 → St → Prop
  | 0 => fun _ _ => False
  | n + 1 => w_X3_copyFrom_B74   Post (w_X3_copyFrom_L74   Post n)
def w_X3_copyFrom (σ : St) (Post : St → Prop) : Prop := ((σ 7 0) = 0 ∨ (σ 7 0) = 1) ∧ (∀ σ1 : St, σ1 = up σ 3 0 ((σ 7 0)) → ∀ σ3 : St, σ3 = up σ1 3 1 ((σ1 7 1)) → ∀ σ4 : St, σ4 = up σ3 3 2 ((σ3 7 2)) → ∀ σ5 : St, σ5 = up σ4 3 3 ((σ4 7 3)) → ∀ σ6 : St, σ6 = up σ5 3 4 ((σ5 7 4)) → ∀ σ7 : St, σ7 = up σ6 3 5 ((σ6 7 5)) → ∀ σ8 : St, σ8 = up σ7 3 6 ((σ7 7 6)) → ∀ σ9 : St, σ9 = up σ8 3 7 ((σ8 7 7)) → ∀ σ10 : St, σ10 = up σ9 3 8 ((σ9 7 8)) → w_X3_copyFrom_L74 Post FU (0 : Int32) σ10)
set_option maxHeartbeats 4000000 in
set_option maxRecDepth 100000 in
theorem b_X3_copyFrom_B102 {Y : CY} {Z : CZ} (C : cx SC 3 Y Z cX3_copyFrom RX3 wsX3_copyFrom none rmX3_copyFrom) {Post : St → Prop} (hQ : Qv SC Y Z Post)  {K102 : Int32 → St → Prop} (hK102 : ∀ (v2 : Int32) (σ : St), K102 v2 σ → WW SC 3 Y Z σ 102 [(0, .ref (qa Y 3)), (1, .ref (qa Y 7)), (2, .int v2)] []) (v2 : Int32) (σ : St) (h : w_X3_copyFrom_B102  Post K102 v2 σ) : WW SC 3 Y Z σ 102 [(0, .ref (qa Y 3)), (1, .ref (qa Y 7)), (2, .int v2)] [] := by
  unfold w_X3_copyFrom_B102 at h
  refine q_iload_n C 2 dX3_copyFrom_102 rfl ?_
  refine q_aload_n C 0 dX3_copyFrom_103 rfl ?_
  refine q_getr (T := TX3) C kC3 iC3 inX3_copyFrom_X3 rfl 10 (by decide) (List.mem_of_getElem? (i := 11) rfl) (fun _ h9 => h9) rfl dX3_copyFrom_104 ?_
  refine q_alen C kC5 iC5 dX3_copyFrom_107 ?_
  refine q_icmp_ge C 148 dX3_copyFrom_108 (by decide) (fun c17 => ?_) (fun c17 => ?_)
  · replace h := h.1 c17
    exact q_vret C hQ dX3_copyFrom_148 h
  · replace h := h.2 c17
    refine q_iload_n C 2 dX3_copyFrom_111 rfl ?_
    refine q_aload_n C 0 dX3_copyFrom_112 rfl ?_
    refine q_getr (T := TX3) C kC3 iC3 inX3_copyFrom_X3 rfl 11 (by decide) (List.mem_of_getElem? (i := 12) rfl) (fun _ h9 => h9) rfl dX3_copyFrom_113 ?_
    refine q_alen C kC6 iC6 dX3_copyFrom_116 ?_
    refine q_icmp_ge C 148 dX3_copyFrom_117 (by decide) (fun c18 => ?_) (fun c18 => ?_)
    · replace h := h.1 c18
      exact q_vret C hQ dX3_copyFrom_148 h
    · replace h := h.2 c18
      refine q_aload_n C 0 dX3_copyFrom_120 rfl ?_
      refine q_getr (T := TX3) C kC3 iC3 inX3_copyFrom_X3 rfl 10 (by decide) (List.mem_of_getElem? (i := 11) rfl) (fun _ h9 => h9) rfl dX3_copyFrom_121 ?_
      refine q_iload_n C 2 dX3_copyFrom_124 rfl ?_
      refine q_aload_n C 1 dX3_copyFrom_125 rfl ?_
      refine q_iload_n C 2 dX3_copyFrom_126 rfl ?_
      refine q_callVi (As := [.int v2]) (st := [.int v2, .ref (qa Y 5)]) C (c_X3_hairsOf Y kC7 iC7 kC8 iC8 kC9 iC9 kC10 iC10 v2 σ _ h) gX3_copyFrom_X3_hairsOf rfl ⟨rfl, nkX3_hairsOf⟩ rmOk_X3_copyFrom__X3_hairsOf kC7 iC7 rfl rfl (Nat.le_of_ble_eq_true rfl) dX3_copyFrom_127 rfl (fun x20 σ19 h => ?_)
      obtain ⟨g27, h⟩ := h
      refine q_iast C kC5 iC5 g27 dX3_copyFrom_130 ?_
      refine q_nmS (fun σ21 eσ21 => ?_)
      replace h := h σ21 eσ21
      refine q_aload_n C 0 dX3_copyFrom_131 rfl ?_
      refine q_getr (T := TX3) C kC3 iC3 inX3_copyFrom_X3 rfl 11 (by decide) (List.mem_of_getElem? (i := 12) rfl) (fun _ h9 => h9) rfl dX3_copyFrom_132 ?_
      refine q_iload_n C 2 dX3_copyFrom_135 rfl ?_
      refine q_aload_n C 1 dX3_copyFrom_136 rfl ?_
      refine q_iload_n C 2 dX3_copyFrom_137 rfl ?_
      refine q_callVi (As := [.int v2]) (st := [.int v2, .ref (qa Y 6)]) C (c_X3_lightOf Y kC7 iC7 kC8 iC8 kC9 iC9 kC10 iC10 v2 σ21 _ h) gX3_copyFrom_X3_lightOf rfl ⟨rfl, nkX3_lightOf⟩ rmOk_X3_copyFrom__X3_lightOf kC7 iC7 rfl rfl (Nat.le_of_ble_eq_true rfl) dX3_copyFrom_138 rfl (fun x23 σ22 h => ?_)
      obtain ⟨g26, h⟩ := h
      refine q_iast C kC6 iC6 g26 dX3_copyFrom_141 ?_
      refine q_nmS (fun σ24 eσ24 => ?_)
      replace h := h σ24 eσ24
      obtain ⟨x25, ex25⟩ : ∃ y : Int32, y = v2 + (1 : Int32) := ⟨_, rfl⟩
      replace h := h x25 ex25
      refine q_iinc C x25 2 [(2, .int x25), (0, .ref (qa Y 3)), (1, .ref (qa Y 7))] dX3_copyFrom_142 rfl (by rw [ex25]; rfl) (by decide) rfl ?_
      refine q_goto C 102 dX3_copyFrom_145 (by decide) ?_
      refine q_sub (lv' := [(0, .ref (qa Y 3)), (1, .ref (qa Y 7)), (2, .int x25)]) [1, 2, 0] rfl ?_
      exact hK102 x25 σ24 h
theorem b_X3_copyFrom_L102 {Y : CY} {Z : CZ} (C : cx SC 3 Y Z cX3_copyFrom RX3 wsX3_copyFrom none rmX3_copyFrom) {Post : St → Prop} (hQ : Qv SC Y Z Post)  : ∀ (n : Nat) (v2 : Int32) (σ : St) (h : w_X3_copyFrom_L102  Post n v2 σ), WW SC 3 Y Z σ 102 [(0, .ref (qa Y 3)), (1, .ref (qa Y 7)), (2, .int v2)] [] := by
  intro n
  induction n with
  | zero => intro v2 σ h; exact h.elim
  | succ n ih => intro v2 σ h; exact b_X3_copyFrom_B102 C hQ  ih v2 σ h
set_option maxHeartbeats 4000000 in
set_option maxRecDepth 100000 in
theorem b_X3_copyFrom_B74 {Y : CY} {Z : CZ} (C : cx SC 3 Y Z cX3_copyFrom RX3 wsX3_copyFrom none rmX3_copyFrom) {Post : St → Prop} (hQ : Qv SC Y Z Post)  {K74 : Int32 → St → Prop} (hK74 : ∀ (v2 : Int32) (σ : St), K74 v2 σ → WW SC 3 Y Z σ 74 [(0, .ref (qa Y 3)), (1, .ref (qa Y 7)), (2, .int v2)] []) (v2 : Int32) (σ : St) (h : w_X3_copyFrom_B74  Post K74 v2 σ) : WW SC 3 Y Z σ 74 [(0, .ref (qa Y 3)), (1, .ref (qa Y 7)), (2, .int v2)] [] := by
  unfold w_X3_copyFrom_B74 at h
  refine q_iload_n C 2 dX3_copyFrom_74 rfl ?_
  refine q_aload_n C 0 dX3_copyFrom_75 rfl ?_
  refine q_getr (T := TX3) C kC3 iC3 inX3_copyFrom_X3 rfl 9 (by decide) (List.mem_of_getElem? (i := 10) rfl) (fun _ h9 => h9) rfl dX3_copyFrom_76 ?_
  refine q_alen C kC4 iC4 dX3_copyFrom_79 ?_
  refine q_icmp_ge C 100 dX3_copyFrom_80 (by decide) (fun c11 => ?_) (fun c11 => ?_)
  · replace h := h.1 c11
    refine q_iconst (v := (0 : Int32)) C dX3_copyFrom_100 (by decide) ?_
    refine q_istore_n C [(2, .int (0 : Int32)), (0, .ref (qa Y 3)), (1, .ref (qa Y 7))] dX3_copyFrom_101 (by decide) rfl ?_
    refine q_sub (lv' := [(0, .ref (qa Y 3)), (1, .ref (qa Y 7)), (2, .int (0 : Int32))]) [1, 2, 0] rfl ?_
    exact b_X3_copyFrom_L102 C hQ FU (0 : Int32) σ h
  · replace h := h.2 c11
    refine q_aload_n C 0 dX3_copyFrom_83 rfl ?_
    refine q_getr (T := TX3) C kC3 iC3 inX3_copyFrom_X3 rfl 9 (by decide) (List.mem_of_getElem? (i := 10) rfl) (fun _ h9 => h9) rfl dX3_copyFrom_84 ?_
    refine q_iload_n C 2 dX3_copyFrom_87 rfl ?_
    refine q_aload_n C 1 dX3_copyFrom_88 rfl ?_
    refine q_iload_n C 2 dX3_copyFrom_89 rfl ?_
    refine q_callVi (As := [.int v2]) (st := [.int v2, .ref (qa Y 4)]) C (c_X3_wormAt Y kC7 iC7 kC8 iC8 kC9 iC9 kC10 iC10 v2 σ _ h) gX3_copyFrom_X3_wormAt rfl ⟨rfl, nkX3_wormAt⟩ rmOk_X3_copyFrom__X3_wormAt kC7 iC7 rfl rfl (Nat.le_of_ble_eq_true rfl) dX3_copyFrom_90 rfl (fun x13 σ12 h => ?_)
    obtain ⟨g16, h⟩ := h
    refine q_iast C kC4 iC4 g16 dX3_copyFrom_93 ?_
    refine q_nmS (fun σ14 eσ14 => ?_)
    replace h := h σ14 eσ14
    obtain ⟨x15, ex15⟩ : ∃ y : Int32, y = v2 + (1 : Int32) := ⟨_, rfl⟩
    replace h := h x15 ex15
    refine q_iinc C x15 2 [(2, .int x15), (0, .ref (qa Y 3)), (1, .ref (qa Y 7))] dX3_copyFrom_94 rfl (by rw [ex15]; rfl) (by decide) rfl ?_
    refine q_goto C 74 dX3_copyFrom_97 (by decide) ?_
    refine q_sub (lv' := [(0, .ref (qa Y 3)), (1, .ref (qa Y 7)), (2, .int x15)]) [1, 2, 0] rfl ?_
    exact hK74 x15 σ14 h
theorem b_X3_copyFrom_L74 {Y : CY} {Z : CZ} (C : cx SC 3 Y Z cX3_copyFrom RX3 wsX3_copyFrom none rmX3_copyFrom) {Post : St → Prop} (hQ : Qv SC Y Z Post)  : ∀ (n : Nat) (v2 : Int32) (σ : St) (h : w_X3_copyFrom_L74  Post n v2 σ), WW SC 3 Y Z σ 74 [(0, .ref (qa Y 3)), (1, .ref (qa Y 7)), (2, .int v2)] [] := by
  intro n
  induction n with
  | zero => intro v2 σ h; exact h.elim
  | succ n ih => intro v2 σ h; exact b_X3_copyFrom_B74 C hQ  ih v2 σ h
set_option maxHeartbeats 4000000 in
set_option maxRecDepth 100000 in
theorem b_X3_copyFrom {Y : CY} {Z : CZ} (C : cx SC 3 Y Z cX3_copyFrom RX3 wsX3_copyFrom none rmX3_copyFrom) {Post : St → Prop} (hQ : Qv SC Y Z Post)  (σ : St) (h : w_X3_copyFrom  σ Post) : WW SC 3 Y Z σ 0 [(0, .ref (qa Y 3)), (1, .ref (qa Y 7))] [] := by
  unfold w_X3_copyFrom at h
  refine q_aload_n C 0 dX3_copyFrom_0 rfl ?_
  refine q_aload_n C 1 dX3_copyFrom_1 rfl ?_
  refine q_geti (T := TX3) C kC7 iC7 inX3_copyFrom_X3 rfl 0 (by decide) (List.mem_of_getElem? (i := 1) rfl) (fun _ h9 => h9) rfl dX3_copyFrom_2 ?_
  obtain ⟨g2, h⟩ := h
  refine q_puti (T := TX3) C kC3 iC3 inX3_copyFrom_X3 rfl tyX3 tyX3_ok nmX3 0 (by decide) (List.mem_of_getElem? (i := 1) rfl) (fun _ h9 => h9) rfl (dgM _) rfl (zb_n g2) (zb_f g2) dX3_copyFrom_5 ?_
  refine q_nmS (fun σ1 eσ1 => ?_)
  replace h := h σ1 eσ1
  refine q_aload_n C 0 dX3_copyFrom_8 rfl ?_
  refine q_aload_n C 1 dX3_copyFrom_9 rfl ?_
  refine q_geti (T := TX3) C kC7 iC7 inX3_copyFrom_X3 rfl 1 (by decide) (List.mem_of_getElem? (i := 2) rfl) (fun _ h9 => h9) rfl dX3_copyFrom_10 ?_
  refine q_puti (T := TX3) C kC3 iC3 inX3_copyFrom_X3 rfl tyX3 tyX3_ok nmX3 1 (by decide) (List.mem_of_getElem? (i := 2) rfl) (fun _ h9 => h9) rfl (dgM _) rfl (ni_n _) (ni_f _) dX3_copyFrom_13 ?_
  refine q_nmS (fun σ3 eσ3 => ?_)
  replace h := h σ3 eσ3
  refine q_aload_n C 0 dX3_copyFrom_16 rfl ?_
  refine q_aload_n C 1 dX3_copyFrom_17 rfl ?_
  refine q_geti (T := TX3) C kC7 iC7 inX3_copyFrom_X3 rfl 2 (by decide) (List.mem_of_getElem? (i := 3) rfl) (fun _ h9 => h9) rfl dX3_copyFrom_18 ?_
  refine q_puti (T := TX3) C kC3 iC3 inX3_copyFrom_X3 rfl tyX3 tyX3_ok nmX3 2 (by decide) (List.mem_of_getElem? (i := 3) rfl) (fun _ h9 => h9) rfl (dgM _) rfl (ni_n _) (ni_f _) dX3_copyFrom_21 ?_
  refine q_nmS (fun σ4 eσ4 => ?_)
  replace h := h σ4 eσ4
  refine q_aload_n C 0 dX3_copyFrom_24 rfl ?_
  refine q_aload_n C 1 dX3_copyFrom_25 rfl ?_
  refine q_geti (T := TX3) C kC7 iC7 inX3_copyFrom_X3 rfl 3 (by decide) (List.mem_of_getElem? (i := 4) rfl) (fun _ h9 => h9) rfl dX3_copyFrom_26 ?_
  refine q_puti (T := TX3) C kC3 iC3 inX3_copyFrom_X3 rfl tyX3 tyX3_ok nmX3 3 (by decide) (List.mem_of_getElem? (i := 4) rfl) (fun _ h9 => h9) rfl (dgM _) rfl (ni_n _) (ni_f _) dX3_copyFrom_29 ?_
  refine q_nmS (fun σ5 eσ5 => ?_)
  replace h := h σ5 eσ5
  refine q_aload_n C 0 dX3_copyFrom_32 rfl ?_
  refine q_aload_n C 1 dX3_copyFrom_33 rfl ?_
  refine q_geti (T := TX3) C kC7 iC7 inX3_copyFrom_X3 rfl 4 (by decide) (List.mem_of_getElem? (i := 5) rfl) (fun _ h9 => h9) rfl dX3_copyFrom_34 ?_
  refine q_puti (T := TX3) C kC3 iC3 inX3_copyFrom_X3 rfl tyX3 tyX3_ok nmX3 4 (by decide) (List.mem_of_getElem? (i := 5) rfl) (fun _ h9 => h9) rfl (dgM _) rfl (ni_n _) (ni_f _) dX3_copyFrom_37 ?_
  refine q_nmS (fun σ6 eσ6 => ?_)
  replace h := h σ6 eσ6
  refine q_aload_n C 0 dX3_copyFrom_40 rfl ?_
  refine q_aload_n C 1 dX3_copyFrom_41 rfl ?_
  refine q_geti (T := TX3) C kC7 iC7 inX3_copyFrom_X3 rfl 5 (by decide) (List.mem_of_getElem? (i := 6) rfl) (fun _ h9 => h9) rfl dX3_copyFrom_42 ?_
  refine q_puti (T := TX3) C kC3 iC3 inX3_copyFrom_X3 rfl tyX3 tyX3_ok nmX3 5 (by decide) (List.mem_of_getElem? (i := 6) rfl) (fun _ h9 => h9) rfl (dgM _) rfl (ni_n _) (ni_f _) dX3_copyFrom_45 ?_
  refine q_nmS (fun σ7 eσ7 => ?_)
  replace h := h σ7 eσ7
  refine q_aload_n C 0 dX3_copyFrom_48 rfl ?_
  refine q_aload_n C 1 dX3_copyFrom_49 rfl ?_
  refine q_geti (T := TX3) C kC7 iC7 inX3_copyFrom_X3 rfl 6 (by decide) (List.mem_of_getElem? (i := 7) rfl) (fun _ h9 => h9) rfl dX3_copyFrom_50 ?_
  refine q_puti (T := TX3) C kC3 iC3 inX3_copyFrom_X3 rfl tyX3 tyX3_ok nmX3 6 (by decide) (List.mem_of_getElem? (i := 7) rfl) (fun _ h9 => h9) rfl (dgM _) rfl (ni_n _) (ni_f _) dX3_copyFrom_53 ?_
  refine q_nmS (fun σ8 eσ8 => ?_)
  replace h := h σ8 eσ8
  refine q_aload_n C 0 dX3_copyFrom_56 rfl ?_
  refine q_aload_n C 1 dX3_copyFrom_57 rfl ?_
  refine q_geti (T := TX3) C kC7 iC7 inX3_copyFrom_X3 rfl 7 (by decide) (List.mem_of_getElem? (i := 8) rfl) (fun _ h9 => h9) rfl dX3_copyFrom_58 ?_
  refine q_puti (T := TX3) C kC3 iC3 inX3_copyFrom_X3 rfl tyX3 tyX3_ok nmX3 7 (by decide) (List.mem_of_getElem? (i := 8) rfl) (fun _ h9 => h9) rfl (dgM _) rfl (ni_n _) (ni_f _) dX3_copyFrom_61 ?_
  refine q_nmS (fun σ9 eσ9 => ?_)
  replace h := h σ9 eσ9
  refine q_aload_n C 0 dX3_copyFrom_64 rfl ?_
  refine q_aload_n C 1 dX3_copyFrom_65 rfl ?_
  refine q_geti (T := TX3) C kC7 iC7 inX3_copyFrom_X3 rfl 8 (by decide) (List.mem_of_getElem? (i := 9) rfl) (fun _ h9 => h9) rfl dX3_copyFrom_66 ?_
  refine q_puti (T := TX3) C kC3 iC3 inX3_copyFrom_X3 rfl tyX3 tyX3_ok nmX3 8 (by decide) (List.mem_of_getElem? (i := 9) rfl) (fun _ h9 => h9) rfl (dgM _) rfl (ni_n _) (ni_f _) dX3_copyFrom_69 ?_
  refine q_nmS (fun σ10 eσ10 => ?_)
  replace h := h σ10 eσ10
  refine q_iconst (v := (0 : Int32)) C dX3_copyFrom_72 (by decide) ?_
  refine q_istore_n C [(2, .int (0 : Int32)), (0, .ref (qa Y 3)), (1, .ref (qa Y 7))] dX3_copyFrom_73 (by decide) rfl ?_
  refine q_sub (lv' := [(0, .ref (qa Y 3)), (1, .ref (qa Y 7)), (2, .int (0 : Int32))]) [1, 2, 0] rfl ?_
  exact b_X3_copyFrom_L74 C hQ FU (0 : Int32) σ10 h
theorem c_X3_copyFrom (Y : CY)  (σ : St) (Post : St → Prop) (h : w_X3_copyFrom  σ Post) : Kv SC Y yX3_copyFrom wsX3_copyFrom rmX3_copyFrom [.ref (qa Y 3), .ref (qa Y 7)] σ Post :=
  Kv_of (cc := cX3_copyFrom) (nL := 3) (ret := none) (by decide +kernel) rfl (Nat.le_of_ble_eq_true rfl) (fun Z C hQ => b_X3_copyFrom C hQ  σ h)
abbrev rmX3_jumpAt : Room := { frames := 0, cells := 0, slots := 0, locals := 0 }
theorem nkX3_jumpAt : NmOk yX3_jumpAt 1 := by decide +kernel
theorem inX3_jumpAt_X3 : ∀ w ∈ u_ws RX3 TX3 12, w ∈ wsX3_jumpAt := fun _ h => List.mem_cons_of_mem _ (List.mem_append_right _ h)
def w_X3_jumpAt (p1 : Int32) (σ : St) (Post : Int32 → St → Prop) : Prop := (¬ p1 = (σ 3 5) → Post (0 : Int32) σ) ∧ (p1 = (σ 3 5) → Post ((σ 3 6)) σ)
set_option maxHeartbeats 4000000 in
set_option maxRecDepth 100000 in
theorem b_X3_jumpAt {Y : CY} {Z : CZ} (C : cx SC 2 Y Z cX3_jumpAt RX3 wsX3_jumpAt (some .int) rmX3_jumpAt) {Post : Int32 → St → Prop} (hQ : Qi SC Y Z Post)  (p1 : Int32) (σ : St) (h : w_X3_jumpAt p1 σ Post) : WW SC 2 Y Z σ 0 [(0, .ref (qa Y 3)), (1, .int p1)] [] := by
  unfold w_X3_jumpAt at h
  refine q_iload_n C 1 dX3_jumpAt_0 rfl ?_
  refine q_aload_n C 0 dX3_jumpAt_1 rfl ?_
  refine q_geti (T := TX3) C kC3 iC3 inX3_jumpAt_X3 rfl 5 (by decide) (List.mem_of_getElem? (i := 1) rfl) (fun _ h9 => h9) rfl dX3_jumpAt_2 ?_
  refine q_icmp_ne C 15 dX3_jumpAt_5 (by decide) (fun c1 => ?_) (fun c1 => ?_)
  · replace h := h.1 c1
    refine q_iconst (v := (0 : Int32)) C dX3_jumpAt_15 (by decide) ?_
    exact q_iret C hQ dX3_jumpAt_16 h
  · replace h := h.2 c1
    refine q_aload_n C 0 dX3_jumpAt_8 rfl ?_
    refine q_geti (T := TX3) C kC3 iC3 inX3_jumpAt_X3 rfl 6 (by decide) (List.mem_of_getElem? (i := 2) rfl) (fun _ h9 => h9) rfl dX3_jumpAt_9 ?_
    refine q_goto C 16 dX3_jumpAt_12 (by decide) ?_
    exact q_iret C hQ dX3_jumpAt_16 h
theorem c_X3_jumpAt (Y : CY)  (p1 : Int32) (σ : St) (Post : Int32 → St → Prop) (h : w_X3_jumpAt p1 σ Post) : Ki SC Y yX3_jumpAt wsX3_jumpAt rmX3_jumpAt [.ref (qa Y 3), .int p1] σ Post :=
  Ki_of (cc := cX3_jumpAt) (nL := 2) (ret := (some .int)) (by decide +kernel) rfl (Nat.le_of_ble_eq_true rfl) (fun Z C hQ => b_X3_jumpAt C hQ  p1 σ h)
abbrev rmX3_eastwardAt : Room := { frames := 1, cells := 0, slots := 0, locals := 21 }
theorem nkX3_eastwardAt : NmOk yX3_eastwardAt 1 := by decide +kernel
theorem rmOk_X3_eastwardAt__X3_jumpAt : RmOk rmX3_jumpAt rmX3_eastwardAt 2 := ⟨rfl, rfl, by decide, by decide⟩
theorem rmOk_X3_eastwardAt__X3_wormAt : RmOk rmX3_wormAt rmX3_eastwardAt 2 := ⟨rfl, rfl, by decide, by decide⟩
theorem inX3_eastwardAt_X3 : ∀ w ∈ u_ws RX3 TX3 12, w ∈ wsX3_eastwardAt := fun _ h => List.mem_cons_of_mem _ (List.mem_append_right _ h)
def w_X3_eastwardAt_J17 (Post : Int32 → St → Prop) (v1 : Int32) (s0 : Int32) (σ : St) : Prop := w_X3_wormAt 3 s0 σ (fun x4 σ3 => w_X3_jumpAt v1 σ3 (fun x6 σ5 => Post ((((σ 3 1) + x4) + x6)) σ5))
def w_X3_eastwardAt (p1 : Int32) (σ : St) (Post : Int32 → St → Prop) : Prop := ((σ 3 4) ≤ 0 → w_X3_eastwardAt_J17 Post p1 (0 : Int32) σ) ∧ (¬ (σ 3 4) ≤ 0 → (¬ (σ 3 4) = 0) ∧ (w_X3_eastwardAt_J17 Post p1 ((p1 - p1 / (σ 3 4) * (σ 3 4))) σ))
set_option maxHeartbeats 4000000 in
set_option maxRecDepth 100000 in
theorem b_X3_eastwardAt_J17 {Y : CY} {Z : CZ} (C : cx SC 3 Y Z cX3_eastwardAt RX3 wsX3_eastwardAt (some .int) rmX3_eastwardAt) {Post : Int32 → St → Prop} (hQ : Qi SC Y Z Post)  (v1 : Int32) (s0 : Int32) (σ : St) (h : w_X3_eastwardAt_J17  Post v1 s0 σ) : WW SC 3 Y Z σ 17 [(0, .ref (qa Y 3)), (1, .int v1)] [.int s0] := by
  unfold w_X3_eastwardAt_J17 at h
  refine q_istore_n C [(2, .int s0), (0, .ref (qa Y 3)), (1, .int v1)] dX3_eastwardAt_17 (by decide) rfl ?_
  refine q_aload_n C 1 dX3_eastwardAt_18 rfl ?_
  refine q_geti (T := TX3) C kC3 iC3 inX3_eastwardAt_X3 rfl 1 (by decide) (List.mem_of_getElem? (i := 2) rfl) (fun _ h9 => h9) rfl dX3_eastwardAt_19 ?_
  refine q_aload_n C 1 dX3_eastwardAt_22 rfl ?_
  refine q_iload_n C 0 dX3_eastwardAt_23 rfl ?_
  refine q_callVi (As := [.int s0]) (st := [.int (σ 3 1)]) C (c_X3_wormAt Y kC3 iC3 kC4 iC4 kC5 iC5 kC6 iC6 s0 σ _ h) gX3_eastwardAt_X3_wormAt rfl ⟨rfl, nkX3_wormAt⟩ rmOk_X3_eastwardAt__X3_wormAt kC3 iC3 rfl rfl (Nat.le_of_ble_eq_true rfl) dX3_eastwardAt_24 rfl (fun x4 σ3 h => ?_)
  refine q_iadd C dX3_eastwardAt_27 ?_
  refine q_aload_n C 1 dX3_eastwardAt_28 rfl ?_
  refine q_iload_n C 2 dX3_eastwardAt_29 rfl ?_
  refine q_callVi (As := [.int v1]) (st := [.int ((σ 3 1) + x4)]) C (c_X3_jumpAt Y v1 σ3 _ h) gX3_eastwardAt_X3_jumpAt rfl ⟨rfl, nkX3_jumpAt⟩ rmOk_X3_eastwardAt__X3_jumpAt kC3 iC3 rfl rfl (Nat.le_of_ble_eq_true rfl) dX3_eastwardAt_30 rfl (fun x6 σ5 h => ?_)
  refine q_iadd C dX3_eastwardAt_33 ?_
  exact q_iret C hQ dX3_eastwardAt_34 h
set_option maxHeartbeats 4000000 in
set_option maxRecDepth 100000 in
theorem b_X3_eastwardAt {Y : CY} {Z : CZ} (C : cx SC 3 Y Z cX3_eastwardAt RX3 wsX3_eastwardAt (some .int) rmX3_eastwardAt) {Post : Int32 → St → Prop} (hQ : Qi SC Y Z Post)  (p1 : Int32) (σ : St) (h : w_X3_eastwardAt p1 σ Post) : WW SC 3 Y Z σ 0 [(0, .ref (qa Y 3)), (1, .int p1)] [] := by
  unfold w_X3_eastwardAt at h
  refine q_aload_n C 0 dX3_eastwardAt_0 rfl ?_
  refine q_geti (T := TX3) C kC3 iC3 inX3_eastwardAt_X3 rfl 4 (by decide) (List.mem_of_getElem? (i := 1) rfl) (fun _ h9 => h9) rfl dX3_eastwardAt_1 ?_
  refine q_if_le C 16 dX3_eastwardAt_4 (by decide) (fun c1 => ?_) (fun c1 => ?_)
  · replace h := h.1 c1
    refine q_iconst (v := (0 : Int32)) C dX3_eastwardAt_16 (by decide) ?_
    exact b_X3_eastwardAt_J17 C hQ p1 (0 : Int32) σ h
  · replace h := h.2 c1
    refine q_iload_n C 1 dX3_eastwardAt_7 rfl ?_
    refine q_aload_n C 0 dX3_eastwardAt_8 rfl ?_
    refine q_geti (T := TX3) C kC3 iC3 inX3_eastwardAt_X3 rfl 4 (by decide) (List.mem_of_getElem? (i := 1) rfl) (fun _ h9 => h9) rfl dX3_eastwardAt_9 ?_
    obtain ⟨g2, h⟩ := h
    refine q_irem C dX3_eastwardAt_12 g2 ?_
    refine q_goto C 17 dX3_eastwardAt_13 (by decide) ?_
    exact b_X3_eastwardAt_J17 C hQ p1 ((p1 - p1 / (σ 3 4) * (σ 3 4))) σ h
theorem c_X3_eastwardAt (Y : CY)  (p1 : Int32) (σ : St) (Post : Int32 → St → Prop) (h : w_X3_eastwardAt p1 σ Post) : Ki SC Y yX3_eastwardAt wsX3_eastwardAt rmX3_eastwardAt [.ref (qa Y 3), .int p1] σ Post :=
  Ki_of (cc := cX3_eastwardAt) (nL := 3) (ret := (some .int)) (by decide +kernel) rfl (Nat.le_of_ble_eq_true rfl) (fun Z C hQ => b_X3_eastwardAt C hQ  p1 σ h)
abbrev rmX3_isBetterStar : Room := { frames := 1, cells := 0, slots := 0, locals := 21 }
theorem nkX3_isBetterStar : NmOk yX3_isBetterStar 2 := by decide +kernel
theorem rmOk_X3_isBetterStar__X3_hairsOf : RmOk rmX3_hairsOf rmX3_isBetterStar 2 := ⟨rfl, rfl, by decide, by decide⟩
theorem rmOk_X3_isBetterStar__X3_lightOf : RmOk rmX3_lightOf rmX3_isBetterStar 2 := ⟨rfl, rfl, by decide, by decide⟩
def w_X3_isBetterStar (p1 : Int32) (p2 : Int32) (σ : St) (Post : Int32 → St → Prop) : Prop := w_X3_hairsOf 3 p1 σ (fun x2 σ1 => w_X3_hairsOf 3 p2 σ1 (fun x4 σ3 => (x2 = x4 → w_X3_lightOf 3 p1 σ3 (fun x7 σ6 => w_X3_lightOf 3 p2 σ6 (fun x9 σ8 => (x7 ≤ x9 → Post (0 : Int32) σ8) ∧ (¬ x7 ≤ x9 → Post (1 : Int32) σ8)))) ∧ (¬ x2 = x4 → w_X3_hairsOf 3 p1 σ3 (fun x12 σ11 => w_X3_hairsOf 3 p2 σ11 (fun x14 σ13 => (x14 ≤ x12 → Post (0 : Int32) σ13) ∧ (¬ x14 ≤ x12 → Post (1 : Int32) σ13))))))
set_option maxHeartbeats 4000000 in
set_option maxRecDepth 100000 in
theorem b_X3_isBetterStar {Y : CY} {Z : CZ} (C : cx SC 3 Y Z cX3_isBetterStar RX3 wsX3_isBetterStar (some .boolean) rmX3_isBetterStar) {Post : Int32 → St → Prop} (hQ : Qi SC Y Z Post)  (p1 : Int32) (p2 : Int32) (σ : St) (h : w_X3_isBetterStar p1 p2 σ Post) : WW SC 3 Y Z σ 0 [(0, .ref (qa Y 3)), (1, .int p1), (2, .int p2)] [] := by
  unfold w_X3_isBetterStar at h
  refine q_aload_n C 0 dX3_isBetterStar_0 rfl ?_
  refine q_iload_n C 1 dX3_isBetterStar_1 rfl ?_
  refine q_callVi (As := [.int p1]) (st := []) C (c_X3_hairsOf Y kC3 iC3 kC4 iC4 kC5 iC5 kC6 iC6 p1 σ _ h) gX3_isBetterStar_X3_hairsOf rfl ⟨rfl, nkX3_hairsOf⟩ rmOk_X3_isBetterStar__X3_hairsOf kC3 iC3 rfl rfl (Nat.le_of_ble_eq_true rfl) dX3_isBetterStar_2 rfl (fun x2 σ1 h => ?_)
  refine q_aload_n C 0 dX3_isBetterStar_5 rfl ?_
  refine q_iload_n C 2 dX3_isBetterStar_6 rfl ?_
  refine q_callVi (As := [.int p2]) (st := [.int x2]) C (c_X3_hairsOf Y kC3 iC3 kC4 iC4 kC5 iC5 kC6 iC6 p2 σ1 _ h) gX3_isBetterStar_X3_hairsOf rfl ⟨rfl, nkX3_hairsOf⟩ rmOk_X3_isBetterStar__X3_hairsOf kC3 iC3 rfl rfl (Nat.le_of_ble_eq_true rfl) dX3_isBetterStar_7 rfl (fun x4 σ3 h => ?_)
  refine q_icmp_eq C 32 dX3_isBetterStar_10 (by decide) (fun c5 => ?_) (fun c5 => ?_)
  · replace h := h.1 c5
    refine q_aload_n C 0 dX3_isBetterStar_32 rfl ?_
    refine q_iload_n C 1 dX3_isBetterStar_33 rfl ?_
    refine q_callVi (As := [.int p1]) (st := []) C (c_X3_lightOf Y kC3 iC3 kC4 iC4 kC5 iC5 kC6 iC6 p1 σ3 _ h) gX3_isBetterStar_X3_lightOf rfl ⟨rfl, nkX3_lightOf⟩ rmOk_X3_isBetterStar__X3_lightOf kC3 iC3 rfl rfl (Nat.le_of_ble_eq_true rfl) dX3_isBetterStar_34 rfl (fun x7 σ6 h => ?_)
    refine q_aload_n C 0 dX3_isBetterStar_37 rfl ?_
    refine q_iload_n C 2 dX3_isBetterStar_38 rfl ?_
    refine q_callVi (As := [.int p2]) (st := [.int x7]) C (c_X3_lightOf Y kC3 iC3 kC4 iC4 kC5 iC5 kC6 iC6 p2 σ6 _ h) gX3_isBetterStar_X3_lightOf rfl ⟨rfl, nkX3_lightOf⟩ rmOk_X3_isBetterStar__X3_lightOf kC3 iC3 rfl rfl (Nat.le_of_ble_eq_true rfl) dX3_isBetterStar_39 rfl (fun x9 σ8 h => ?_)
    refine q_icmp_le C 49 dX3_isBetterStar_42 (by decide) (fun c10 => ?_) (fun c10 => ?_)
    · replace h := h.1 c10
      refine q_iconst (v := (0 : Int32)) C dX3_isBetterStar_49 (by decide) ?_
      exact q_zret C hQ (zb_n (by decide)) dX3_isBetterStar_50 h
    · replace h := h.2 c10
      refine q_iconst (v := (1 : Int32)) C dX3_isBetterStar_45 (by decide) ?_
      refine q_goto C 50 dX3_isBetterStar_46 (by decide) ?_
      exact q_zret C hQ (zb_n (by decide)) dX3_isBetterStar_50 h
  · replace h := h.2 c5
    refine q_aload_n C 0 dX3_isBetterStar_13 rfl ?_
    refine q_iload_n C 1 dX3_isBetterStar_14 rfl ?_
    refine q_callVi (As := [.int p1]) (st := []) C (c_X3_hairsOf Y kC3 iC3 kC4 iC4 kC5 iC5 kC6 iC6 p1 σ3 _ h) gX3_isBetterStar_X3_hairsOf rfl ⟨rfl, nkX3_hairsOf⟩ rmOk_X3_isBetterStar__X3_hairsOf kC3 iC3 rfl rfl (Nat.le_of_ble_eq_true rfl) dX3_isBetterStar_15 rfl (fun x12 σ11 h => ?_)
    refine q_aload_n C 0 dX3_isBetterStar_18 rfl ?_
    refine q_iload_n C 2 dX3_isBetterStar_19 rfl ?_
    refine q_callVi (As := [.int p2]) (st := [.int x12]) C (c_X3_hairsOf Y kC3 iC3 kC4 iC4 kC5 iC5 kC6 iC6 p2 σ11 _ h) gX3_isBetterStar_X3_hairsOf rfl ⟨rfl, nkX3_hairsOf⟩ rmOk_X3_isBetterStar__X3_hairsOf kC3 iC3 rfl rfl (Nat.le_of_ble_eq_true rfl) dX3_isBetterStar_20 rfl (fun x14 σ13 h => ?_)
    refine q_icmp_ge C 30 dX3_isBetterStar_23 (by decide) (fun c15 => ?_) (fun c15 => ?_)
    · replace h := h.1 c15
      refine q_iconst (v := (0 : Int32)) C dX3_isBetterStar_30 (by decide) ?_
      exact q_zret C hQ (zb_n (by decide)) dX3_isBetterStar_31 h
    · replace h := h.2 c15
      refine q_iconst (v := (1 : Int32)) C dX3_isBetterStar_26 (by decide) ?_
      refine q_goto C 31 dX3_isBetterStar_27 (by decide) ?_
      exact q_zret C hQ (zb_n (by decide)) dX3_isBetterStar_31 h
theorem c_X3_isBetterStar (Y : CY)  (p1 : Int32) (p2 : Int32) (σ : St) (Post : Int32 → St → Prop) (h : w_X3_isBetterStar p1 p2 σ Post) : Ki SC Y yX3_isBetterStar wsX3_isBetterStar rmX3_isBetterStar [.ref (qa Y 3), .int p1, .int p2] σ Post :=
  Ki_of (cc := cX3_isBetterStar) (nL := 3) (ret := (some .boolean)) (by decide +kernel) rfl (Nat.le_of_ble_eq_true rfl) (fun Z C hQ => b_X3_isBetterStar C hQ  p1 p2 σ h)
abbrev rmX3_pressesAgainst : Room := { frames := 1, cells := 0, slots := 0, locals := 24 }
theorem nkX3_pressesAgainst : NmOk yX3_pressesAgainst 3 := by decide +kernel
theorem inX3_pressesAgainst_X3 : ∀ w ∈ u_ws RX3 TX3 12, w ∈ wsX3_pressesAgainst := fun _ h => List.mem_cons_of_mem _ (List.mem_append_right _ h)
def w_X3_pressesAgainst (p1 : Int32) (p2 : Int32) (p3 : Int32) (σ : St) (Post : Int32 → St → Prop) : Prop := ((σ 3 7) < (1 : Int32) → Post (0 : Int32) σ) ∧ (¬ (σ 3 7) < (1 : Int32) → ∀ x2 : Int32, x2 = (if 0 ≤ p1 then p1 else 0 - p1) → (p2 < x2 → (¬ (σ 3 7) = 0) ∧ (Post ((-(((p1 * p3) / (10 : Int32)) / (σ 3 7)))) σ)) ∧ (¬ p2 < x2 → Post (0 : Int32) σ))
set_option maxHeartbeats 4000000 in
set_option maxRecDepth 100000 in
theorem b_X3_pressesAgainst {Y : CY} {Z : CZ} (C : cx SC 4 Y Z cX3_pressesAgainst RX3 wsX3_pressesAgainst (some .int) rmX3_pressesAgainst) {Post : Int32 → St → Prop} (hQ : Qi SC Y Z Post)  (p1 : Int32) (p2 : Int32) (p3 : Int32) (σ : St) (h : w_X3_pressesAgainst p1 p2 p3 σ Post) : WW SC 4 Y Z σ 0 [(0, .ref (qa Y 3)), (1, .int p1), (2, .int p2), (3, .int p3)] [] := by
  unfold w_X3_pressesAgainst at h
  refine q_aload_n C 0 dX3_pressesAgainst_0 rfl ?_
  refine q_geti (T := TX3) C kC3 iC3 inX3_pressesAgainst_X3 rfl 7 (by decide) (List.mem_of_getElem? (i := 1) rfl) (fun _ h9 => h9) rfl dX3_pressesAgainst_1 ?_
  refine q_iconst (v := (1 : Int32)) C dX3_pressesAgainst_4 (by decide) ?_
  refine q_icmp_lt C 16 dX3_pressesAgainst_5 (by decide) (fun c1 => ?_) (fun c1 => ?_)
  · replace h := h.1 c1
    refine q_iconst (v := (0 : Int32)) C dX3_pressesAgainst_16 (by decide) ?_
    exact q_iret C hQ dX3_pressesAgainst_17 h
  · replace h := h.2 c1
    refine q_iload_n C 1 dX3_pressesAgainst_8 rfl ?_
    refine q_mabs C (List.mem_of_getElem? (i := 2) rfl) (List.mem_of_getElem? (i := 3) rfl) (List.mem_of_getElem? (i := 4) rfl) (List.mem_of_getElem? (i := 5) rfl) (by decide) (Nat.le_of_ble_eq_true rfl) dX3_pressesAgainst_9 ?_
    refine q_topi (fun x2 ex2 => ?_)
    replace h := h x2 ex2
    refine q_iload_n C 2 dX3_pressesAgainst_12 rfl ?_
    refine q_icmp_gt C 18 dX3_pressesAgainst_13 (by decide) (fun c3 => ?_) (fun c3 => ?_)
    · replace h := h.1 c3
      refine q_iload_n C 1 dX3_pressesAgainst_18 rfl ?_
      refine q_iload_n C 3 dX3_pressesAgainst_19 rfl ?_
      refine q_imul C dX3_pressesAgainst_20 ?_
      refine q_bipush (v := (10 : Int32)) C dX3_pressesAgainst_21 (by decide) ?_
      refine q_idiv C dX3_pressesAgainst_23 (by decide) ?_
      refine q_aload_n C 0 dX3_pressesAgainst_24 rfl ?_
      refine q_geti (T := TX3) C kC3 iC3 inX3_pressesAgainst_X3 rfl 7 (by decide) (List.mem_of_getElem? (i := 1) rfl) (fun _ h9 => h9) rfl dX3_pressesAgainst_25 ?_
      obtain ⟨g4, h⟩ := h
      refine q_idiv C dX3_pressesAgainst_28 g4 ?_
      refine q_ineg C dX3_pressesAgainst_29 ?_
      exact q_iret C hQ dX3_pressesAgainst_30 h
    · replace h := h.2 c3
      refine q_iconst (v := (0 : Int32)) C dX3_pressesAgainst_16 (by decide) ?_
      exact q_iret C hQ dX3_pressesAgainst_17 h
theorem c_X3_pressesAgainst (Y : CY)  (p1 : Int32) (p2 : Int32) (p3 : Int32) (σ : St) (Post : Int32 → St → Prop) (h : w_X3_pressesAgainst p1 p2 p3 σ Post) : Ki SC Y yX3_pressesAgainst wsX3_pressesAgainst rmX3_pressesAgainst [.ref (qa Y 3), .int p1, .int p2, .int p3] σ Post :=
  Ki_of (cc := cX3_pressesAgainst) (nL := 4) (ret := (some .int)) (by decide +kernel) rfl (Nat.le_of_ble_eq_true rfl) (fun Z C hQ => b_X3_pressesAgainst C hQ  p1 p2 p3 σ h)
abbrev rmX3_starToGuideBy : Room := { frames := 2, cells := 0, slots := 0, locals := 43 }
theorem nkX3_starToGuideBy : NmOk yX3_starToGuideBy 1 := by decide +kernel
theorem rmOk_X3_starToGuideBy__X3_isBetterStar : RmOk rmX3_isBetterStar rmX3_starToGuideBy 3 := ⟨rfl, rfl, by decide, by decide⟩
theorem rmOk_X3_starToGuideBy__X3_lightOf : RmOk rmX3_lightOf rmX3_starToGuideBy 2 := ⟨rfl, rfl, by decide, by decide⟩
theorem inX3_starToGuideBy_X3 : ∀ w ∈ u_ws RX3 TX3 12, w ∈ wsX3_starToGuideBy := fun _ h => List.mem_cons_of_mem _ (List.mem_append_right _ h)
def w_X3_starToGuideBy_J37 (K4 : Int32 → Int32 → Int32 → St → Prop) (Post : Int32 → St → Prop) (v1 : Int32) (v2 : Int32) (v3 : Int32) (σ : St) : Prop := ∀ x9 : Int32, x9 = v3 + (1 : Int32) → K4 v1 v2 x9 σ
def w_X3_starToGuideBy_J35 (K4 : Int32 → Int32 → Int32 → St → Prop) (Post : Int32 → St → Prop) (v1 : Int32) (v3 : Int32) (σ : St) : Prop := w_X3_starToGuideBy_J37 K4 Post v1 v3 v3 σ
def w_X3_starToGuideBy_B4 (Post : Int32 → St → Prop) (K4 : Int32 → Int32 → Int32 → St → Prop) (v1 : Int32) (v2 : Int32) (v3 : Int32) (σ : St) : Prop := ((σ 3 8) ≤ v3 → Post v2 σ) ∧ (¬ (σ 3 8) ≤ v3 → w_X3_lightOf 3 v3 σ (fun x3 σ2 => (x3 < v1 → w_X3_starToGuideBy_J37 K4 Post v1 v2 v3 σ2) ∧ (¬ x3 < v1 → (v2 = (-1 : Int32) → w_X3_starToGuideBy_J35 K4 Post v1 v3 σ2) ∧ (¬ v2 = (-1 : Int32) → w_X3_isBetterStar v3 v2 σ2 (fun x7 σ6 => (x7 = 0 → w_X3_starToGuideBy_J37 K4 Post v1 v2 v3 σ6) ∧ (¬ x7 = 0 → w_X3_starToGuideBy_J35 K4 Post v1 v3 σ6))))))
def w_X3_starToGuideBy_L4 (Post : Int32 → St → Prop) : Nat → Int32 → Int32 → Int32 → St → Prop
  | 0 => fun _ _ _ _ => False
  | n + 1 => w_X3_starToGuideBy_B4   Post (w_X3_starToGuideBy_L4   Post n)
def w_X3_starToGuideBy (p1 : Int32) (σ : St) (Post : Int32 → St → Prop) : Prop := w_X3_starToGuideBy_L4 Post FU p1 (-1 : Int32) (0 : Int32) σ
set_option maxHeartbeats 4000000 in
set_option maxRecDepth 100000 in
theorem b_X3_starToGuideBy_J37 {Y : CY} {Z : CZ} (C : cx SC 4 Y Z cX3_starToGuideBy RX3 wsX3_starToGuideBy (some .int) rmX3_starToGuideBy) {Post : Int32 → St → Prop} (hQ : Qi SC Y Z Post)  {K4 : Int32 → Int32 → Int32 → St → Prop} (hK4 : ∀ (v1 : Int32) (v2 : Int32) (v3 : Int32) (σ : St), K4 v1 v2 v3 σ → WW SC 4 Y Z σ 4 [(0, .ref (qa Y 3)), (1, .int v1), (2, .int v2), (3, .int v3)] []) (v1 : Int32) (v2 : Int32) (v3 : Int32) (σ : St) (h : w_X3_starToGuideBy_J37 K4 Post v1 v2 v3 σ) : WW SC 4 Y Z σ 37 [(0, .ref (qa Y 3)), (1, .int v1), (2, .int v2), (3, .int v3)] [] := by
  unfold w_X3_starToGuideBy_J37 at h
  obtain ⟨x9, ex9⟩ : ∃ y : Int32, y = v3 + (1 : Int32) := ⟨_, rfl⟩
  replace h := h x9 ex9
  refine q_iinc C x9 3 [(3, .int x9), (0, .ref (qa Y 3)), (1, .int v1), (2, .int v2)] dX3_starToGuideBy_37 rfl (by rw [ex9]; rfl) (by decide) rfl ?_
  refine q_goto C 4 dX3_starToGuideBy_40 (by decide) ?_
  refine q_sub (lv' := [(0, .ref (qa Y 3)), (1, .int v1), (2, .int v2), (3, .int x9)]) [1, 2, 3, 0] rfl ?_
  exact hK4 v1 v2 x9 σ h
set_option maxHeartbeats 4000000 in
set_option maxRecDepth 100000 in
theorem b_X3_starToGuideBy_J35 {Y : CY} {Z : CZ} (C : cx SC 4 Y Z cX3_starToGuideBy RX3 wsX3_starToGuideBy (some .int) rmX3_starToGuideBy) {Post : Int32 → St → Prop} (hQ : Qi SC Y Z Post)  {K4 : Int32 → Int32 → Int32 → St → Prop} (hK4 : ∀ (v1 : Int32) (v2 : Int32) (v3 : Int32) (σ : St), K4 v1 v2 v3 σ → WW SC 4 Y Z σ 4 [(0, .ref (qa Y 3)), (1, .int v1), (2, .int v2), (3, .int v3)] []) (v1 : Int32) (v3 : Int32) (σ : St) (h : w_X3_starToGuideBy_J35 K4 Post v1 v3 σ) : WW SC 4 Y Z σ 35 [(0, .ref (qa Y 3)), (1, .int v1), (3, .int v3)] [] := by
  unfold w_X3_starToGuideBy_J35 at h
  refine q_iload_n C 2 dX3_starToGuideBy_35 rfl ?_
  refine q_istore_n C [(2, .int v3), (0, .ref (qa Y 3)), (1, .int v1), (3, .int v3)] dX3_starToGuideBy_36 (by decide) rfl ?_
  refine q_sub (lv' := [(0, .ref (qa Y 3)), (1, .int v1), (2, .int v3), (3, .int v3)]) [1, 2, 0, 3] rfl ?_
  exact b_X3_starToGuideBy_J37 C hQ hK4 v1 v3 v3 σ h
set_option maxHeartbeats 4000000 in
set_option maxRecDepth 100000 in
theorem b_X3_starToGuideBy_B4 {Y : CY} {Z : CZ} (C : cx SC 4 Y Z cX3_starToGuideBy RX3 wsX3_starToGuideBy (some .int) rmX3_starToGuideBy) {Post : Int32 → St → Prop} (hQ : Qi SC Y Z Post)  {K4 : Int32 → Int32 → Int32 → St → Prop} (hK4 : ∀ (v1 : Int32) (v2 : Int32) (v3 : Int32) (σ : St), K4 v1 v2 v3 σ → WW SC 4 Y Z σ 4 [(0, .ref (qa Y 3)), (1, .int v1), (2, .int v2), (3, .int v3)] []) (v1 : Int32) (v2 : Int32) (v3 : Int32) (σ : St) (h : w_X3_starToGuideBy_B4  Post K4 v1 v2 v3 σ) : WW SC 4 Y Z σ 4 [(0, .ref (qa Y 3)), (1, .int v1), (2, .int v2), (3, .int v3)] [] := by
  unfold w_X3_starToGuideBy_B4 at h
  refine q_iload_n C 3 dX3_starToGuideBy_4 rfl ?_
  refine q_aload_n C 0 dX3_starToGuideBy_5 rfl ?_
  refine q_geti (T := TX3) C kC3 iC3 inX3_starToGuideBy_X3 rfl 8 (by decide) (List.mem_of_getElem? (i := 1) rfl) (fun _ h9 => h9) rfl dX3_starToGuideBy_6 ?_
  refine q_icmp_ge C 43 dX3_starToGuideBy_9 (by decide) (fun c1 => ?_) (fun c1 => ?_)
  · replace h := h.1 c1
    refine q_iload_n C 2 dX3_starToGuideBy_43 rfl ?_
    exact q_iret C hQ dX3_starToGuideBy_44 h
  · replace h := h.2 c1
    refine q_aload_n C 0 dX3_starToGuideBy_12 rfl ?_
    refine q_iload_n C 3 dX3_starToGuideBy_13 rfl ?_
    refine q_callVi (As := [.int v3]) (st := []) C (c_X3_lightOf Y kC3 iC3 kC4 iC4 kC5 iC5 kC6 iC6 v3 σ _ h) gX3_starToGuideBy_X3_lightOf rfl ⟨rfl, nkX3_lightOf⟩ rmOk_X3_starToGuideBy__X3_lightOf kC3 iC3 rfl rfl (Nat.le_of_ble_eq_true rfl) dX3_starToGuideBy_14 rfl (fun x3 σ2 h => ?_)
    refine q_iload_n C 1 dX3_starToGuideBy_17 rfl ?_
    refine q_icmp_lt C 37 dX3_starToGuideBy_18 (by decide) (fun c4 => ?_) (fun c4 => ?_)
    · replace h := h.1 c4
      exact b_X3_starToGuideBy_J37 C hQ hK4 v1 v2 v3 σ2 h
    · replace h := h.2 c4
      refine q_iload_n C 2 dX3_starToGuideBy_21 rfl ?_
      refine q_iconst (v := (-1 : Int32)) C dX3_starToGuideBy_22 (by decide) ?_
      refine q_icmp_eq C 35 dX3_starToGuideBy_23 (by decide) (fun c5 => ?_) (fun c5 => ?_)
      · replace h := h.1 c5
        refine q_sub (lv' := [(0, .ref (qa Y 3)), (1, .int v1), (3, .int v3)]) [0, 1, 3] rfl ?_
        exact b_X3_starToGuideBy_J35 C hQ hK4 v1 v3 σ2 h
      · replace h := h.2 c5
        refine q_aload_n C 0 dX3_starToGuideBy_26 rfl ?_
        refine q_iload_n C 3 dX3_starToGuideBy_27 rfl ?_
        refine q_iload_n C 2 dX3_starToGuideBy_28 rfl ?_
        refine q_callVi (As := [.int v3, .int v2]) (st := []) C (c_X3_isBetterStar Y v3 v2 σ2 _ h) gX3_starToGuideBy_X3_isBetterStar rfl ⟨rfl, nkX3_isBetterStar⟩ rmOk_X3_starToGuideBy__X3_isBetterStar kC3 iC3 rfl rfl (Nat.le_of_ble_eq_true rfl) dX3_starToGuideBy_29 rfl (fun x7 σ6 h => ?_)
        refine q_if_eq C 37 dX3_starToGuideBy_32 (by decide) (fun c8 => ?_) (fun c8 => ?_)
        · replace h := h.1 c8
          exact b_X3_starToGuideBy_J37 C hQ hK4 v1 v2 v3 σ6 h
        · replace h := h.2 c8
          refine q_sub (lv' := [(0, .ref (qa Y 3)), (1, .int v1), (3, .int v3)]) [0, 1, 3] rfl ?_
          exact b_X3_starToGuideBy_J35 C hQ hK4 v1 v3 σ6 h
theorem b_X3_starToGuideBy_L4 {Y : CY} {Z : CZ} (C : cx SC 4 Y Z cX3_starToGuideBy RX3 wsX3_starToGuideBy (some .int) rmX3_starToGuideBy) {Post : Int32 → St → Prop} (hQ : Qi SC Y Z Post)  : ∀ (n : Nat) (v1 : Int32) (v2 : Int32) (v3 : Int32) (σ : St) (h : w_X3_starToGuideBy_L4  Post n v1 v2 v3 σ), WW SC 4 Y Z σ 4 [(0, .ref (qa Y 3)), (1, .int v1), (2, .int v2), (3, .int v3)] [] := by
  intro n
  induction n with
  | zero => intro v1 v2 v3 σ h; exact h.elim
  | succ n ih => intro v1 v2 v3 σ h; exact b_X3_starToGuideBy_B4 C hQ  ih v1 v2 v3 σ h
set_option maxHeartbeats 4000000 in
set_option maxRecDepth 100000 in
theorem b_X3_starToGuideBy {Y : CY} {Z : CZ} (C : cx SC 4 Y Z cX3_starToGuideBy RX3 wsX3_starToGuideBy (some .int) rmX3_starToGuideBy) {Post : Int32 → St → Prop} (hQ : Qi SC Y Z Post)  (p1 : Int32) (σ : St) (h : w_X3_starToGuideBy p1 σ Post) : WW SC 4 Y Z σ 0 [(0, .ref (qa Y 3)), (1, .int p1)] [] := by
  unfold w_X3_starToGuideBy at h
  refine q_iconst (v := (-1 : Int32)) C dX3_starToGuideBy_0 (by decide) ?_
  refine q_istore_n C [(2, .int (-1 : Int32)), (0, .ref (qa Y 3)), (1, .int p1)] dX3_starToGuideBy_1 (by decide) rfl ?_
  refine q_iconst (v := (0 : Int32)) C dX3_starToGuideBy_2 (by decide) ?_
  refine q_istore_n C [(3, .int (0 : Int32)), (2, .int (-1 : Int32)), (0, .ref (qa Y 3)), (1, .int p1)] dX3_starToGuideBy_3 (by decide) rfl ?_
  refine q_sub (lv' := [(0, .ref (qa Y 3)), (1, .int p1), (2, .int (-1 : Int32)), (3, .int (0 : Int32))]) [2, 3, 1, 0] rfl ?_
  exact b_X3_starToGuideBy_L4 C hQ FU p1 (-1 : Int32) (0 : Int32) σ h
theorem c_X3_starToGuideBy (Y : CY)  (p1 : Int32) (σ : St) (Post : Int32 → St → Prop) (h : w_X3_starToGuideBy p1 σ Post) : Ki SC Y yX3_starToGuideBy wsX3_starToGuideBy rmX3_starToGuideBy [.ref (qa Y 3), .int p1] σ Post :=
  Ki_of (cc := cX3_starToGuideBy) (nL := 4) (ret := (some .int)) (by decide +kernel) rfl (Nat.le_of_ble_eq_true rfl) (fun Z C hQ => b_X3_starToGuideBy C hQ  p1 σ h)
abbrev rmX4_gather : Room := { frames := 1, cells := 0, slots := 0, locals := 24 }
theorem nkX4_gather : NmOk yX4_gather 0 := by decide +kernel
theorem inX4_gather_X4 : ∀ w ∈ u_ws RX4 TX4 12, w ∈ wsX4_gather := fun _ h => List.mem_cons_of_mem _ (List.mem_append_right _ h)
def w_X4_gather_J114 (i1 : Nat) (Post : St → Prop) (s0 : Int32) (σ : St) : Prop := ∀ σ13 : St, σ13 = up σ i1 11 s0 → ∀ σ14 : St, σ14 = up σ13 i1 7 (((σ13 i1 7) + (1 : Int32))) → Post σ14
def w_X4_gather_J88 (i1 : Nat) (Post : St → Prop) (v1 : Int32) (s0 : Int32) (σ : St) : Prop := ∀ σ10 : St, σ10 = up σ i1 10 s0 → (v1 = 0 → ∀ x12 : Int32, x12 = (if (σ10 i1 11) < (σ10 i1 2) then (σ10 i1 2) else (σ10 i1 11)) → w_X4_gather_J114 i1 Post x12 σ10) ∧ (¬ v1 = 0 → w_X4_gather_J114 i1 Post ((σ10 i1 2)) σ10)
def w_X4_gather_J62 (i1 : Nat) (Post : St → Prop) (v1 : Int32) (s0 : Int32) (σ : St) : Prop := ∀ σ7 : St, σ7 = up σ i1 9 s0 → (v1 = 0 → ∀ x9 : Int32, x9 = (if (σ7 i1 2) < (σ7 i1 10) then (σ7 i1 2) else (σ7 i1 10)) → w_X4_gather_J88 i1 Post v1 x9 σ7) ∧ (¬ v1 = 0 → w_X4_gather_J88 i1 Post v1 ((σ7 i1 2)) σ7)
def w_X4_gather_J36 (i1 : Nat) (Post : St → Prop) (v1 : Int32) (s0 : Int32) (σ : St) : Prop := ∀ σ4 : St, σ4 = up σ i1 8 s0 → (v1 = 0 → ∀ x6 : Int32, x6 = (if (σ4 i1 9) < (σ4 i1 1) then (σ4 i1 1) else (σ4 i1 9)) → w_X4_gather_J62 i1 Post v1 x6 σ4) ∧ (¬ v1 = 0 → w_X4_gather_J62 i1 Post v1 ((σ4 i1 1)) σ4)
def w_X4_gather_J12 (i1 : Nat) (Post : St → Prop) (s0 : Int32) (σ : St) : Prop := (s0 = 0 → ∀ x3 : Int32, x3 = (if (σ i1 1) < (σ i1 8) then (σ i1 1) else (σ i1 8)) → w_X4_gather_J36 i1 Post s0 x3 σ) ∧ (¬ s0 = 0 → w_X4_gather_J36 i1 Post s0 ((σ i1 1)) σ)
def w_X4_gather (i1 : Nat) (σ : St) (Post : St → Prop) : Prop := (¬ (σ i1 7) = 0 → w_X4_gather_J12 i1 Post (0 : Int32) σ) ∧ ((σ i1 7) = 0 → w_X4_gather_J12 i1 Post (1 : Int32) σ)
set_option maxHeartbeats 4000000 in
set_option maxRecDepth 100000 in
theorem b_X4_gather_J114 {Y : CY} {Z : CZ} (C : cx SC 2 Y Z cX4_gather RX4 wsX4_gather none rmX4_gather) {Post : St → Prop} (hQ : Qv SC Y Z Post) {i1 : Nat} (k_i1 : SC.1 i1 = .inr (.inl (4, flN))) (i_i1 : i1 < SC.2) (s0 : Int32) (σ : St) (h : w_X4_gather_J114 i1  Post s0 σ) : WW SC 2 Y Z σ 114 [(0, .ref (qa Y i1))] [.int s0, .ref (qa Y i1)] := by
  unfold w_X4_gather_J114 at h
  refine q_puti (T := TX4) C k_i1 i_i1 inX4_gather_X4 rfl tyX4 tyX4_ok nmX4 11 (by decide) (List.mem_of_getElem? (i := 14) rfl) (fun _ h9 => h9) rfl dgN rfl (ni_n _) (ni_f _) dX4_gather_114 ?_
  refine q_nmS (fun σ13 eσ13 => ?_)
  replace h := h σ13 eσ13
  refine q_aload_n C 0 dX4_gather_117 rfl ?_
  refine q_dup C dX4_gather_118 rfl ?_
  refine q_geti (T := TX4) C k_i1 i_i1 inX4_gather_X4 rfl 7 (by decide) (List.mem_of_getElem? (i := 1) rfl) (fun _ h9 => h9) rfl dX4_gather_119 ?_
  refine q_iconst (v := (1 : Int32)) C dX4_gather_122 (by decide) ?_
  refine q_iadd C dX4_gather_123 ?_
  refine q_puti (T := TX4) C k_i1 i_i1 inX4_gather_X4 rfl tyX4 tyX4_ok nmX4 7 (by decide) (List.mem_of_getElem? (i := 1) rfl) (fun _ h9 => h9) rfl dgN rfl (ni_n _) (ni_f _) dX4_gather_124 ?_
  refine q_nmS (fun σ14 eσ14 => ?_)
  replace h := h σ14 eσ14
  exact q_vret C hQ dX4_gather_127 h
set_option maxHeartbeats 4000000 in
set_option maxRecDepth 100000 in
theorem b_X4_gather_J88 {Y : CY} {Z : CZ} (C : cx SC 2 Y Z cX4_gather RX4 wsX4_gather none rmX4_gather) {Post : St → Prop} (hQ : Qv SC Y Z Post) {i1 : Nat} (k_i1 : SC.1 i1 = .inr (.inl (4, flN))) (i_i1 : i1 < SC.2) (v1 : Int32) (s0 : Int32) (σ : St) (h : w_X4_gather_J88 i1  Post v1 s0 σ) : WW SC 2 Y Z σ 88 [(0, .ref (qa Y i1)), (1, .int v1)] [.int s0, .ref (qa Y i1)] := by
  unfold w_X4_gather_J88 at h
  refine q_puti (T := TX4) C k_i1 i_i1 inX4_gather_X4 rfl tyX4 tyX4_ok nmX4 10 (by decide) (List.mem_of_getElem? (i := 13) rfl) (fun _ h9 => h9) rfl dgN rfl (ni_n _) (ni_f _) dX4_gather_88 ?_
  refine q_nmS (fun σ10 eσ10 => ?_)
  replace h := h σ10 eσ10
  refine q_aload_n C 0 dX4_gather_91 rfl ?_
  refine q_iload_n C 1 dX4_gather_92 rfl ?_
  refine q_if_eq C 103 dX4_gather_93 (by decide) (fun c11 => ?_) (fun c11 => ?_)
  · replace h := h.1 c11
    refine q_aload_n C 0 dX4_gather_103 rfl ?_
    refine q_geti (T := TX4) C k_i1 i_i1 inX4_gather_X4 rfl 11 (by decide) (List.mem_of_getElem? (i := 14) rfl) (fun _ h9 => h9) rfl dX4_gather_104 ?_
    refine q_aload_n C 0 dX4_gather_107 rfl ?_
    refine q_geti (T := TX4) C k_i1 i_i1 inX4_gather_X4 rfl 2 (by decide) (List.mem_of_getElem? (i := 12) rfl) (fun _ h9 => h9) rfl dX4_gather_108 ?_
    refine q_mmax C (List.mem_of_getElem? (i := 9) rfl) (List.mem_of_getElem? (i := 10) rfl) (List.mem_of_getElem? (i := 6) rfl) (List.mem_of_getElem? (i := 11) rfl) (by decide) (Nat.le_of_ble_eq_true rfl) dX4_gather_111 ?_
    refine q_topi (fun x12 ex12 => ?_)
    replace h := h x12 ex12
    refine q_sub (lv' := [(0, .ref (qa Y i1))]) [0] rfl ?_
    exact b_X4_gather_J114 C hQ k_i1 i_i1 x12 σ10 h
  · replace h := h.2 c11
    refine q_aload_n C 0 dX4_gather_96 rfl ?_
    refine q_geti (T := TX4) C k_i1 i_i1 inX4_gather_X4 rfl 2 (by decide) (List.mem_of_getElem? (i := 12) rfl) (fun _ h9 => h9) rfl dX4_gather_97 ?_
    refine q_goto C 114 dX4_gather_100 (by decide) ?_
    refine q_sub (lv' := [(0, .ref (qa Y i1))]) [0] rfl ?_
    exact b_X4_gather_J114 C hQ k_i1 i_i1 ((σ10 i1 2)) σ10 h
set_option maxHeartbeats 4000000 in
set_option maxRecDepth 100000 in
theorem b_X4_gather_J62 {Y : CY} {Z : CZ} (C : cx SC 2 Y Z cX4_gather RX4 wsX4_gather none rmX4_gather) {Post : St → Prop} (hQ : Qv SC Y Z Post) {i1 : Nat} (k_i1 : SC.1 i1 = .inr (.inl (4, flN))) (i_i1 : i1 < SC.2) (v1 : Int32) (s0 : Int32) (σ : St) (h : w_X4_gather_J62 i1  Post v1 s0 σ) : WW SC 2 Y Z σ 62 [(0, .ref (qa Y i1)), (1, .int v1)] [.int s0, .ref (qa Y i1)] := by
  unfold w_X4_gather_J62 at h
  refine q_puti (T := TX4) C k_i1 i_i1 inX4_gather_X4 rfl tyX4 tyX4_ok nmX4 9 (by decide) (List.mem_of_getElem? (i := 8) rfl) (fun _ h9 => h9) rfl dgN rfl (ni_n _) (ni_f _) dX4_gather_62 ?_
  refine q_nmS (fun σ7 eσ7 => ?_)
  replace h := h σ7 eσ7
  refine q_aload_n C 0 dX4_gather_65 rfl ?_
  refine q_iload_n C 1 dX4_gather_66 rfl ?_
  refine q_if_eq C 77 dX4_gather_67 (by decide) (fun c8 => ?_) (fun c8 => ?_)
  · replace h := h.1 c8
    refine q_aload_n C 0 dX4_gather_77 rfl ?_
    refine q_geti (T := TX4) C k_i1 i_i1 inX4_gather_X4 rfl 10 (by decide) (List.mem_of_getElem? (i := 13) rfl) (fun _ h9 => h9) rfl dX4_gather_78 ?_
    refine q_aload_n C 0 dX4_gather_81 rfl ?_
    refine q_geti (T := TX4) C k_i1 i_i1 inX4_gather_X4 rfl 2 (by decide) (List.mem_of_getElem? (i := 12) rfl) (fun _ h9 => h9) rfl dX4_gather_82 ?_
    refine q_mmin C (List.mem_of_getElem? (i := 4) rfl) (List.mem_of_getElem? (i := 5) rfl) (List.mem_of_getElem? (i := 6) rfl) (List.mem_of_getElem? (i := 7) rfl) (by decide) (Nat.le_of_ble_eq_true rfl) dX4_gather_85 ?_
    refine q_topi (fun x9 ex9 => ?_)
    replace h := h x9 ex9
    exact b_X4_gather_J88 C hQ k_i1 i_i1 v1 x9 σ7 h
  · replace h := h.2 c8
    refine q_aload_n C 0 dX4_gather_70 rfl ?_
    refine q_geti (T := TX4) C k_i1 i_i1 inX4_gather_X4 rfl 2 (by decide) (List.mem_of_getElem? (i := 12) rfl) (fun _ h9 => h9) rfl dX4_gather_71 ?_
    refine q_goto C 88 dX4_gather_74 (by decide) ?_
    exact b_X4_gather_J88 C hQ k_i1 i_i1 v1 ((σ7 i1 2)) σ7 h
set_option maxHeartbeats 4000000 in
set_option maxRecDepth 100000 in
theorem b_X4_gather_J36 {Y : CY} {Z : CZ} (C : cx SC 2 Y Z cX4_gather RX4 wsX4_gather none rmX4_gather) {Post : St → Prop} (hQ : Qv SC Y Z Post) {i1 : Nat} (k_i1 : SC.1 i1 = .inr (.inl (4, flN))) (i_i1 : i1 < SC.2) (v1 : Int32) (s0 : Int32) (σ : St) (h : w_X4_gather_J36 i1  Post v1 s0 σ) : WW SC 2 Y Z σ 36 [(0, .ref (qa Y i1)), (1, .int v1)] [.int s0, .ref (qa Y i1)] := by
  unfold w_X4_gather_J36 at h
  refine q_puti (T := TX4) C k_i1 i_i1 inX4_gather_X4 rfl tyX4 tyX4_ok nmX4 8 (by decide) (List.mem_of_getElem? (i := 3) rfl) (fun _ h9 => h9) rfl dgN rfl (ni_n _) (ni_f _) dX4_gather_36 ?_
  refine q_nmS (fun σ4 eσ4 => ?_)
  replace h := h σ4 eσ4
  refine q_aload_n C 0 dX4_gather_39 rfl ?_
  refine q_iload_n C 1 dX4_gather_40 rfl ?_
  refine q_if_eq C 51 dX4_gather_41 (by decide) (fun c5 => ?_) (fun c5 => ?_)
  · replace h := h.1 c5
    refine q_aload_n C 0 dX4_gather_51 rfl ?_
    refine q_geti (T := TX4) C k_i1 i_i1 inX4_gather_X4 rfl 9 (by decide) (List.mem_of_getElem? (i := 8) rfl) (fun _ h9 => h9) rfl dX4_gather_52 ?_
    refine q_aload_n C 0 dX4_gather_55 rfl ?_
    refine q_geti (T := TX4) C k_i1 i_i1 inX4_gather_X4 rfl 1 (by decide) (List.mem_of_getElem? (i := 2) rfl) (fun _ h9 => h9) rfl dX4_gather_56 ?_
    refine q_mmax C (List.mem_of_getElem? (i := 9) rfl) (List.mem_of_getElem? (i := 10) rfl) (List.mem_of_getElem? (i := 6) rfl) (List.mem_of_getElem? (i := 11) rfl) (by decide) (Nat.le_of_ble_eq_true rfl) dX4_gather_59 ?_
    refine q_topi (fun x6 ex6 => ?_)
    replace h := h x6 ex6
    exact b_X4_gather_J62 C hQ k_i1 i_i1 v1 x6 σ4 h
  · replace h := h.2 c5
    refine q_aload_n C 0 dX4_gather_44 rfl ?_
    refine q_geti (T := TX4) C k_i1 i_i1 inX4_gather_X4 rfl 1 (by decide) (List.mem_of_getElem? (i := 2) rfl) (fun _ h9 => h9) rfl dX4_gather_45 ?_
    refine q_goto C 62 dX4_gather_48 (by decide) ?_
    exact b_X4_gather_J62 C hQ k_i1 i_i1 v1 ((σ4 i1 1)) σ4 h
set_option maxHeartbeats 4000000 in
set_option maxRecDepth 100000 in
theorem b_X4_gather_J12 {Y : CY} {Z : CZ} (C : cx SC 2 Y Z cX4_gather RX4 wsX4_gather none rmX4_gather) {Post : St → Prop} (hQ : Qv SC Y Z Post) {i1 : Nat} (k_i1 : SC.1 i1 = .inr (.inl (4, flN))) (i_i1 : i1 < SC.2) (s0 : Int32) (σ : St) (h : w_X4_gather_J12 i1  Post s0 σ) : WW SC 2 Y Z σ 12 [(0, .ref (qa Y i1))] [.int s0] := by
  unfold w_X4_gather_J12 at h
  refine q_istore_n C [(1, .int s0), (0, .ref (qa Y i1))] dX4_gather_12 (by decide) rfl ?_
  refine q_aload_n C 1 dX4_gather_13 rfl ?_
  refine q_iload_n C 0 dX4_gather_14 rfl ?_
  refine q_if_eq C 25 dX4_gather_15 (by decide) (fun c2 => ?_) (fun c2 => ?_)
  · replace h := h.1 c2
    refine q_aload_n C 1 dX4_gather_25 rfl ?_
    refine q_geti (T := TX4) C k_i1 i_i1 inX4_gather_X4 rfl 8 (by decide) (List.mem_of_getElem? (i := 3) rfl) (fun _ h9 => h9) rfl dX4_gather_26 ?_
    refine q_aload_n C 1 dX4_gather_29 rfl ?_
    refine q_geti (T := TX4) C k_i1 i_i1 inX4_gather_X4 rfl 1 (by decide) (List.mem_of_getElem? (i := 2) rfl) (fun _ h9 => h9) rfl dX4_gather_30 ?_
    refine q_mmin C (List.mem_of_getElem? (i := 4) rfl) (List.mem_of_getElem? (i := 5) rfl) (List.mem_of_getElem? (i := 6) rfl) (List.mem_of_getElem? (i := 7) rfl) (by decide) (Nat.le_of_ble_eq_true rfl) dX4_gather_33 ?_
    refine q_topi (fun x3 ex3 => ?_)
    replace h := h x3 ex3
    refine q_sub (lv' := [(0, .ref (qa Y i1)), (1, .int s0)]) [1, 0] rfl ?_
    exact b_X4_gather_J36 C hQ k_i1 i_i1 s0 x3 σ h
  · replace h := h.2 c2
    refine q_aload_n C 1 dX4_gather_18 rfl ?_
    refine q_geti (T := TX4) C k_i1 i_i1 inX4_gather_X4 rfl 1 (by decide) (List.mem_of_getElem? (i := 2) rfl) (fun _ h9 => h9) rfl dX4_gather_19 ?_
    refine q_goto C 36 dX4_gather_22 (by decide) ?_
    refine q_sub (lv' := [(0, .ref (qa Y i1)), (1, .int s0)]) [1, 0] rfl ?_
    exact b_X4_gather_J36 C hQ k_i1 i_i1 s0 ((σ i1 1)) σ h
set_option maxHeartbeats 4000000 in
set_option maxRecDepth 100000 in
theorem b_X4_gather {Y : CY} {Z : CZ} (C : cx SC 2 Y Z cX4_gather RX4 wsX4_gather none rmX4_gather) {Post : St → Prop} (hQ : Qv SC Y Z Post) {i1 : Nat} (k_i1 : SC.1 i1 = .inr (.inl (4, flN))) (i_i1 : i1 < SC.2) (σ : St) (h : w_X4_gather i1 σ Post) : WW SC 2 Y Z σ 0 [(0, .ref (qa Y i1))] [] := by
  unfold w_X4_gather at h
  refine q_aload_n C 0 dX4_gather_0 rfl ?_
  refine q_geti (T := TX4) C k_i1 i_i1 inX4_gather_X4 rfl 7 (by decide) (List.mem_of_getElem? (i := 1) rfl) (fun _ h9 => h9) rfl dX4_gather_1 ?_
  refine q_if_ne C 11 dX4_gather_4 (by decide) (fun c1 => ?_) (fun c1 => ?_)
  · replace h := h.1 c1
    refine q_iconst (v := (0 : Int32)) C dX4_gather_11 (by decide) ?_
    exact b_X4_gather_J12 C hQ k_i1 i_i1 (0 : Int32) σ h
  · replace h := h.2 c1
    refine q_iconst (v := (1 : Int32)) C dX4_gather_7 (by decide) ?_
    refine q_goto C 12 dX4_gather_8 (by decide) ?_
    exact b_X4_gather_J12 C hQ k_i1 i_i1 (1 : Int32) σ h
theorem c_X4_gather (Y : CY) {i1 : Nat} (k_i1 : SC.1 i1 = .inr (.inl (4, flN))) (i_i1 : i1 < SC.2) (σ : St) (Post : St → Prop) (h : w_X4_gather i1 σ Post) : Kv SC Y yX4_gather wsX4_gather rmX4_gather [.ref (qa Y i1)] σ Post :=
  Kv_of (cc := cX4_gather) (nL := 2) (ret := none) (by decide +kernel) rfl (Nat.le_of_ble_eq_true rfl) (fun Z C hQ => b_X4_gather C hQ k_i1 i_i1 σ h)
abbrev rmX4_passOne : Room := { frames := 2, cells := 0, slots := 0, locals := 45 }
theorem nkX4_passOne : NmOk yX4_passOne 1 := by decide +kernel
theorem rmOk_X4_passOne__X3_eastwardAt : RmOk rmX3_eastwardAt rmX4_passOne 3 := ⟨rfl, rfl, by decide, by decide⟩
theorem rmOk_X4_passOne__X4_gather : RmOk rmX4_gather rmX4_passOne 2 := ⟨rfl, rfl, by decide, by decide⟩
theorem inX4_passOne_X3 : ∀ w ∈ u_ws RX3 TX3 12, w ∈ wsX4_passOne := fun _ h => List.mem_cons_of_mem _ (List.mem_append_right _ h)
theorem inX4_passOne_X4 : ∀ w ∈ u_ws RX4 TX4 12, w ∈ wsX4_passOne := fun _ h => List.mem_cons_of_mem _ (List.mem_append_left _ (List.mem_append_right _ h))
def w_X4_passOne_J104 (i1 : Nat) (Post : St → Prop) (s0 : Int32) (σ : St) : Prop := (s0 = 0 ∨ s0 = 1) ∧ (∀ σ12 : St, σ12 = up σ i1 3 s0 → (¬ (σ12 i1 3) = 0 → Post σ12) ∧ ((σ12 i1 3) = 0 → (¬ (σ12 i1 4) = 0 → Post σ12) ∧ ((σ12 i1 4) = 0 → w_X4_gather i1 σ12 (fun σ16 => Post σ16))))
def w_X4_passOne_J99 (i1 : Nat) (Post : St → Prop) (σ : St) : Prop := w_X4_passOne_J104 i1 Post (1 : Int32) σ
def w_X4_passOne (i1 : Nat) (σ : St) (Post : St → Prop) : Prop := w_X3_eastwardAt ((σ i1 0)) σ (fun x2 σ1 => ∀ σ3 : St, σ3 = up σ1 i1 1 (((σ i1 1) + (((σ i1 5) * (σ 3 7)) + x2))) → ∀ σ4 : St, σ4 = up σ3 i1 2 (((σ3 i1 2) + (((σ3 i1 6) * (σ3 3 7)) + (σ3 3 2)))) → ∀ σ5 : St, σ5 = up σ4 i1 5 (0 : Int32) → ∀ σ6 : St, σ6 = up σ5 i1 6 (0 : Int32) → ∀ σ7 : St, σ7 = up σ6 i1 0 (((σ6 i1 0) + (1 : Int32))) → ∀ x8 : Int32, x8 = (if 0 ≤ (σ7 i1 1) then (σ7 i1 1) else 0 - (σ7 i1 1)) → ((σ7 3 3) < x8 → w_X4_passOne_J99 i1 Post σ7) ∧ (¬ (σ7 3 3) < x8 → ∀ x10 : Int32, x10 = (if 0 ≤ (σ7 i1 2) then (σ7 i1 2) else 0 - (σ7 i1 2)) → (x10 ≤ (σ7 3 3) → w_X4_passOne_J104 i1 Post (0 : Int32) σ7) ∧ (¬ x10 ≤ (σ7 3 3) → w_X4_passOne_J99 i1 Post σ7)))
set_option maxHeartbeats 4000000 in
set_option maxRecDepth 100000 in
theorem b_X4_passOne_J104 {Y : CY} {Z : CZ} (C : cx SC 2 Y Z cX4_passOne RX4 wsX4_passOne none rmX4_passOne) {Post : St → Prop} (hQ : Qv SC Y Z Post) {i1 : Nat} (k_i1 : SC.1 i1 = .inr (.inl (4, flN))) (i_i1 : i1 < SC.2) (s0 : Int32) (σ : St) (h : w_X4_passOne_J104 i1  Post s0 σ) : WW SC 2 Y Z σ 104 [(0, .ref (qa Y i1))] [.int s0, .ref (qa Y i1)] := by
  unfold w_X4_passOne_J104 at h
  obtain ⟨g13, h⟩ := h
  refine q_puti (T := TX4) C k_i1 i_i1 inX4_passOne_X4 rfl tyX4 tyX4_ok nmX4 3 (by decide) (List.mem_of_getElem? (i := 13) rfl) (fun _ h9 => h9) rfl dgN rfl (zb_n g13) (zb_f g13) dX4_passOne_104 ?_
  refine q_nmS (fun σ12 eσ12 => ?_)
  replace h := h σ12 eσ12
  refine q_aload_n C 0 dX4_passOne_107 rfl ?_
  refine q_geti (T := TX4) C k_i1 i_i1 inX4_passOne_X4 rfl 3 (by decide) (List.mem_of_getElem? (i := 13) rfl) (fun _ h9 => h9) rfl dX4_passOne_108 ?_
  refine q_if_ne C 125 dX4_passOne_111 (by decide) (fun c14 => ?_) (fun c14 => ?_)
  · replace h := h.1 c14
    exact q_vret C hQ dX4_passOne_125 h
  · replace h := h.2 c14
    refine q_aload_n C 0 dX4_passOne_114 rfl ?_
    refine q_geti (T := TX4) C k_i1 i_i1 inX4_passOne_X4 rfl 4 (by decide) (List.mem_of_getElem? (i := 14) rfl) (fun _ h9 => h9) rfl dX4_passOne_115 ?_
    refine q_if_ne C 125 dX4_passOne_118 (by decide) (fun c15 => ?_) (fun c15 => ?_)
    · replace h := h.1 c15
      exact q_vret C hQ dX4_passOne_125 h
    · replace h := h.2 c15
      refine q_aload_n C 0 dX4_passOne_121 rfl ?_
      refine q_callVv (As := []) (st := []) C (c_X4_gather Y k_i1 i_i1 σ12 _ h) gX4_passOne_X4_gather rfl ⟨rfl, nkX4_gather⟩ rmOk_X4_passOne__X4_gather k_i1 i_i1 rfl rfl (Nat.le_of_ble_eq_true rfl) dX4_passOne_122 rfl (fun σ16 h => ?_)
      exact q_vret C hQ dX4_passOne_125 h
set_option maxHeartbeats 4000000 in
set_option maxRecDepth 100000 in
theorem b_X4_passOne_J99 {Y : CY} {Z : CZ} (C : cx SC 2 Y Z cX4_passOne RX4 wsX4_passOne none rmX4_passOne) {Post : St → Prop} (hQ : Qv SC Y Z Post) {i1 : Nat} (k_i1 : SC.1 i1 = .inr (.inl (4, flN))) (i_i1 : i1 < SC.2) (σ : St) (h : w_X4_passOne_J99 i1  Post σ) : WW SC 2 Y Z σ 99 [(0, .ref (qa Y i1))] [.ref (qa Y i1)] := by
  unfold w_X4_passOne_J99 at h
  refine q_iconst (v := (1 : Int32)) C dX4_passOne_99 (by decide) ?_
  refine q_goto C 104 dX4_passOne_100 (by decide) ?_
  exact b_X4_passOne_J104 C hQ k_i1 i_i1 (1 : Int32) σ h
set_option maxHeartbeats 4000000 in
set_option maxRecDepth 100000 in
theorem b_X4_passOne {Y : CY} {Z : CZ} (C : cx SC 2 Y Z cX4_passOne RX4 wsX4_passOne none rmX4_passOne) {Post : St → Prop} (hQ : Qv SC Y Z Post) {i1 : Nat} (k_i1 : SC.1 i1 = .inr (.inl (4, flN))) (i_i1 : i1 < SC.2) (σ : St) (h : w_X4_passOne i1 σ Post) : WW SC 2 Y Z σ 0 [(0, .ref (qa Y i1)), (1, .ref (qa Y 3))] [] := by
  unfold w_X4_passOne at h
  refine q_aload_n C 0 dX4_passOne_0 rfl ?_
  refine q_dup C dX4_passOne_1 rfl ?_
  refine q_geti (T := TX4) C k_i1 i_i1 inX4_passOne_X4 rfl 1 (by decide) (List.mem_of_getElem? (i := 1) rfl) (fun _ h9 => h9) rfl dX4_passOne_2 ?_
  refine q_aload_n C 0 dX4_passOne_5 rfl ?_
  refine q_geti (T := TX4) C k_i1 i_i1 inX4_passOne_X4 rfl 5 (by decide) (List.mem_of_getElem? (i := 2) rfl) (fun _ h9 => h9) rfl dX4_passOne_6 ?_
  refine q_aload_n C 1 dX4_passOne_9 rfl ?_
  refine q_geti (T := TX3) C kC3 iC3 inX4_passOne_X3 rfl 7 (by decide) (List.mem_of_getElem? (i := 3) rfl) (fun _ h9 => h9) rfl dX4_passOne_10 ?_
  refine q_imul C dX4_passOne_13 ?_
  refine q_aload_n C 1 dX4_passOne_14 rfl ?_
  refine q_aload_n C 0 dX4_passOne_15 rfl ?_
  refine q_geti (T := TX4) C k_i1 i_i1 inX4_passOne_X4 rfl 0 (by decide) (List.mem_of_getElem? (i := 4) rfl) (fun _ h9 => h9) rfl dX4_passOne_16 ?_
  refine q_callVi (As := [.int (σ i1 0)]) (st := [.int ((σ i1 5) * (σ 3 7)), .int (σ i1 1), .ref (qa Y i1)]) C (c_X3_eastwardAt Y ((σ i1 0)) σ _ h) gX4_passOne_X3_eastwardAt rfl ⟨rfl, nkX3_eastwardAt⟩ rmOk_X4_passOne__X3_eastwardAt kC3 iC3 rfl rfl (Nat.le_of_ble_eq_true rfl) dX4_passOne_19 rfl (fun x2 σ1 h => ?_)
  refine q_iadd C dX4_passOne_22 ?_
  refine q_iadd C dX4_passOne_23 ?_
  refine q_puti (T := TX4) C k_i1 i_i1 inX4_passOne_X4 rfl tyX4 tyX4_ok nmX4 1 (by decide) (List.mem_of_getElem? (i := 1) rfl) (fun _ h9 => h9) rfl dgN rfl (ni_n _) (ni_f _) dX4_passOne_24 ?_
  refine q_nmS (fun σ3 eσ3 => ?_)
  replace h := h σ3 eσ3
  refine q_aload_n C 0 dX4_passOne_27 rfl ?_
  refine q_dup C dX4_passOne_28 rfl ?_
  refine q_geti (T := TX4) C k_i1 i_i1 inX4_passOne_X4 rfl 2 (by decide) (List.mem_of_getElem? (i := 5) rfl) (fun _ h9 => h9) rfl dX4_passOne_29 ?_
  refine q_aload_n C 0 dX4_passOne_32 rfl ?_
  refine q_geti (T := TX4) C k_i1 i_i1 inX4_passOne_X4 rfl 6 (by decide) (List.mem_of_getElem? (i := 6) rfl) (fun _ h9 => h9) rfl dX4_passOne_33 ?_
  refine q_aload_n C 1 dX4_passOne_36 rfl ?_
  refine q_geti (T := TX3) C kC3 iC3 inX4_passOne_X3 rfl 7 (by decide) (List.mem_of_getElem? (i := 3) rfl) (fun _ h9 => h9) rfl dX4_passOne_37 ?_
  refine q_imul C dX4_passOne_40 ?_
  refine q_aload_n C 1 dX4_passOne_41 rfl ?_
  refine q_geti (T := TX3) C kC3 iC3 inX4_passOne_X3 rfl 2 (by decide) (List.mem_of_getElem? (i := 7) rfl) (fun _ h9 => h9) rfl dX4_passOne_42 ?_
  refine q_iadd C dX4_passOne_45 ?_
  refine q_iadd C dX4_passOne_46 ?_
  refine q_puti (T := TX4) C k_i1 i_i1 inX4_passOne_X4 rfl tyX4 tyX4_ok nmX4 2 (by decide) (List.mem_of_getElem? (i := 5) rfl) (fun _ h9 => h9) rfl dgN rfl (ni_n _) (ni_f _) dX4_passOne_47 ?_
  refine q_nmS (fun σ4 eσ4 => ?_)
  replace h := h σ4 eσ4
  refine q_aload_n C 0 dX4_passOne_50 rfl ?_
  refine q_iconst (v := (0 : Int32)) C dX4_passOne_51 (by decide) ?_
  refine q_puti (T := TX4) C k_i1 i_i1 inX4_passOne_X4 rfl tyX4 tyX4_ok nmX4 5 (by decide) (List.mem_of_getElem? (i := 2) rfl) (fun _ h9 => h9) rfl dgN rfl (ni_n _) (ni_f _) dX4_passOne_52 ?_
  refine q_nmS (fun σ5 eσ5 => ?_)
  replace h := h σ5 eσ5
  refine q_aload_n C 0 dX4_passOne_55 rfl ?_
  refine q_iconst (v := (0 : Int32)) C dX4_passOne_56 (by decide) ?_
  refine q_puti (T := TX4) C k_i1 i_i1 inX4_passOne_X4 rfl tyX4 tyX4_ok nmX4 6 (by decide) (List.mem_of_getElem? (i := 6) rfl) (fun _ h9 => h9) rfl dgN rfl (ni_n _) (ni_f _) dX4_passOne_57 ?_
  refine q_nmS (fun σ6 eσ6 => ?_)
  replace h := h σ6 eσ6
  refine q_aload_n C 0 dX4_passOne_60 rfl ?_
  refine q_dup C dX4_passOne_61 rfl ?_
  refine q_geti (T := TX4) C k_i1 i_i1 inX4_passOne_X4 rfl 0 (by decide) (List.mem_of_getElem? (i := 4) rfl) (fun _ h9 => h9) rfl dX4_passOne_62 ?_
  refine q_iconst (v := (1 : Int32)) C dX4_passOne_65 (by decide) ?_
  refine q_iadd C dX4_passOne_66 ?_
  refine q_puti (T := TX4) C k_i1 i_i1 inX4_passOne_X4 rfl tyX4 tyX4_ok nmX4 0 (by decide) (List.mem_of_getElem? (i := 4) rfl) (fun _ h9 => h9) rfl dgN rfl (ni_n _) (ni_f _) dX4_passOne_67 ?_
  refine q_nmS (fun σ7 eσ7 => ?_)
  replace h := h σ7 eσ7
  refine q_aload_n C 0 dX4_passOne_70 rfl ?_
  refine q_aload_n C 0 dX4_passOne_71 rfl ?_
  refine q_geti (T := TX4) C k_i1 i_i1 inX4_passOne_X4 rfl 1 (by decide) (List.mem_of_getElem? (i := 1) rfl) (fun _ h9 => h9) rfl dX4_passOne_72 ?_
  refine q_mabs C (List.mem_of_getElem? (i := 8) rfl) (List.mem_of_getElem? (i := 9) rfl) (List.mem_of_getElem? (i := 10) rfl) (List.mem_of_getElem? (i := 11) rfl) (by decide) (Nat.le_of_ble_eq_true rfl) dX4_passOne_75 ?_
  refine q_topi (fun x8 ex8 => ?_)
  replace h := h x8 ex8
  refine q_aload_n C 1 dX4_passOne_78 rfl ?_
  refine q_geti (T := TX3) C kC3 iC3 inX4_passOne_X3 rfl 3 (by decide) (List.mem_of_getElem? (i := 12) rfl) (fun _ h9 => h9) rfl dX4_passOne_79 ?_
  refine q_icmp_gt C 99 dX4_passOne_82 (by decide) (fun c9 => ?_) (fun c9 => ?_)
  · replace h := h.1 c9
    refine q_sub (lv' := [(0, .ref (qa Y i1))]) [0] rfl ?_
    exact b_X4_passOne_J99 C hQ k_i1 i_i1 σ7 h
  · replace h := h.2 c9
    refine q_aload_n C 0 dX4_passOne_85 rfl ?_
    refine q_geti (T := TX4) C k_i1 i_i1 inX4_passOne_X4 rfl 2 (by decide) (List.mem_of_getElem? (i := 5) rfl) (fun _ h9 => h9) rfl dX4_passOne_86 ?_
    refine q_mabs C (List.mem_of_getElem? (i := 8) rfl) (List.mem_of_getElem? (i := 9) rfl) (List.mem_of_getElem? (i := 10) rfl) (List.mem_of_getElem? (i := 11) rfl) (by decide) (Nat.le_of_ble_eq_true rfl) dX4_passOne_89 ?_
    refine q_topi (fun x10 ex10 => ?_)
    replace h := h x10 ex10
    refine q_aload_n C 1 dX4_passOne_92 rfl ?_
    refine q_geti (T := TX3) C kC3 iC3 inX4_passOne_X3 rfl 3 (by decide) (List.mem_of_getElem? (i := 12) rfl) (fun _ h9 => h9) rfl dX4_passOne_93 ?_
    refine q_icmp_le C 103 dX4_passOne_96 (by decide) (fun c11 => ?_) (fun c11 => ?_)
    · replace h := h.1 c11
      refine q_iconst (v := (0 : Int32)) C dX4_passOne_103 (by decide) ?_
      refine q_sub (lv' := [(0, .ref (qa Y i1))]) [0] rfl ?_
      exact b_X4_passOne_J104 C hQ k_i1 i_i1 (0 : Int32) σ7 h
    · replace h := h.2 c11
      refine q_sub (lv' := [(0, .ref (qa Y i1))]) [0] rfl ?_
      exact b_X4_passOne_J99 C hQ k_i1 i_i1 σ7 h
theorem c_X4_passOne (Y : CY) {i1 : Nat} (k_i1 : SC.1 i1 = .inr (.inl (4, flN))) (i_i1 : i1 < SC.2) (σ : St) (Post : St → Prop) (h : w_X4_passOne i1 σ Post) : Kv SC Y yX4_passOne wsX4_passOne rmX4_passOne [.ref (qa Y i1), .ref (qa Y 3)] σ Post :=
  Kv_of (cc := cX4_passOne) (nL := 2) (ret := none) (by decide +kernel) rfl (Nat.le_of_ble_eq_true rfl) (fun Z C hQ => b_X4_passOne C hQ k_i1 i_i1 σ h)
abbrev rmX4_passByRule : Room := { frames := 3, cells := 0, slots := 0, locals := 66 }
theorem nkX4_passByRule : NmOk yX4_passByRule 3 := by decide +kernel
theorem rmOk_X4_passByRule__X3_pressesAgainst : RmOk rmX3_pressesAgainst rmX4_passByRule 4 := ⟨rfl, rfl, by decide, by decide⟩
theorem rmOk_X4_passByRule__X4_passOne : RmOk rmX4_passOne rmX4_passByRule 2 := ⟨rfl, rfl, by decide, by decide⟩
theorem inX4_passByRule_X4 : ∀ w ∈ u_ws RX4 TX4 12, w ∈ wsX4_passByRule := fun _ h => List.mem_cons_of_mem _ (List.mem_append_left _ (List.mem_append_right _ h))
def w_X4_passByRule_J47 (i1 : Nat) (Post : Int32 → St → Prop) (s0 : Int32) (σ : St) : Prop := w_X4_passOne i1 σ (fun σ9 => (s0 = 0 ∨ s0 = 1) ∧ Post s0 σ9)
def w_X4_passByRule_J42 (i1 : Nat) (Post : Int32 → St → Prop) (σ : St) : Prop := w_X4_passByRule_J47 i1 Post (1 : Int32) σ
def w_X4_passByRule (i1 : Nat) (p2 : Int32) (p3 : Int32) (σ : St) (Post : Int32 → St → Prop) : Prop := w_X3_pressesAgainst ((σ i1 1)) p2 p3 σ (fun x2 σ1 => ∀ σ3 : St, σ3 = up σ1 i1 5 x2 → w_X3_pressesAgainst ((σ3 i1 2)) p2 p3 σ3 (fun x5 σ4 => ∀ σ6 : St, σ6 = up σ4 i1 6 x5 → (¬ (σ6 i1 5) = 0 → w_X4_passByRule_J42 i1 Post σ6) ∧ ((σ6 i1 5) = 0 → ((σ6 i1 6) = 0 → w_X4_passByRule_J47 i1 Post (0 : Int32) σ6) ∧ (¬ (σ6 i1 6) = 0 → w_X4_passByRule_J42 i1 Post σ6))))
set_option maxHeartbeats 4000000 in
set_option maxRecDepth 100000 in
theorem b_X4_passByRule_J47 {Y : CY} {Z : CZ} (C : cx SC 5 Y Z cX4_passByRule RX4 wsX4_passByRule (some .boolean) rmX4_passByRule) {Post : Int32 → St → Prop} (hQ : Qi SC Y Z Post) {i1 : Nat} (k_i1 : SC.1 i1 = .inr (.inl (4, flN))) (i_i1 : i1 < SC.2) (s0 : Int32) (σ : St) (h : w_X4_passByRule_J47 i1  Post s0 σ) : WW SC 5 Y Z σ 47 [(0, .ref (qa Y i1)), (1, .ref (qa Y 3))] [.int s0] := by
  unfold w_X4_passByRule_J47 at h
  refine q_istore C [(4, .int s0), (0, .ref (qa Y i1)), (1, .ref (qa Y 3))] dX4_passByRule_47 (by decide) rfl ?_
  refine q_aload_n C 1 dX4_passByRule_49 rfl ?_
  refine q_aload_n C 2 dX4_passByRule_50 rfl ?_
  refine q_callVv (As := [.ref (qa Y 3)]) (st := []) C (c_X4_passOne Y k_i1 i_i1 σ _ h) gX4_passByRule_X4_passOne rfl ⟨rfl, nkX4_passOne⟩ rmOk_X4_passByRule__X4_passOne k_i1 i_i1 rfl rfl (Nat.le_of_ble_eq_true rfl) dX4_passByRule_51 rfl (fun σ9 h => ?_)
  refine q_iload C 0 dX4_passByRule_54 rfl ?_
  exact q_zret C hQ (zb_n h.1) dX4_passByRule_56 h.2
set_option maxHeartbeats 4000000 in
set_option maxRecDepth 100000 in
theorem b_X4_passByRule_J42 {Y : CY} {Z : CZ} (C : cx SC 5 Y Z cX4_passByRule RX4 wsX4_passByRule (some .boolean) rmX4_passByRule) {Post : Int32 → St → Prop} (hQ : Qi SC Y Z Post) {i1 : Nat} (k_i1 : SC.1 i1 = .inr (.inl (4, flN))) (i_i1 : i1 < SC.2) (σ : St) (h : w_X4_passByRule_J42 i1  Post σ) : WW SC 5 Y Z σ 42 [(0, .ref (qa Y i1)), (1, .ref (qa Y 3))] [] := by
  unfold w_X4_passByRule_J42 at h
  refine q_iconst (v := (1 : Int32)) C dX4_passByRule_42 (by decide) ?_
  refine q_goto C 47 dX4_passByRule_43 (by decide) ?_
  exact b_X4_passByRule_J47 C hQ k_i1 i_i1 (1 : Int32) σ h
set_option maxHeartbeats 4000000 in
set_option maxRecDepth 100000 in
theorem b_X4_passByRule {Y : CY} {Z : CZ} (C : cx SC 5 Y Z cX4_passByRule RX4 wsX4_passByRule (some .boolean) rmX4_passByRule) {Post : Int32 → St → Prop} (hQ : Qi SC Y Z Post) {i1 : Nat} (k_i1 : SC.1 i1 = .inr (.inl (4, flN))) (i_i1 : i1 < SC.2) (p2 : Int32) (p3 : Int32) (σ : St) (h : w_X4_passByRule i1 p2 p3 σ Post) : WW SC 5 Y Z σ 0 [(0, .ref (qa Y i1)), (1, .ref (qa Y 3)), (2, .int p2), (3, .int p3)] [] := by
  unfold w_X4_passByRule at h
  refine q_aload_n C 0 dX4_passByRule_0 rfl ?_
  refine q_aload_n C 1 dX4_passByRule_1 rfl ?_
  refine q_aload_n C 0 dX4_passByRule_2 rfl ?_
  refine q_geti (T := TX4) C k_i1 i_i1 inX4_passByRule_X4 rfl 1 (by decide) (List.mem_of_getElem? (i := 1) rfl) (fun _ h9 => h9) rfl dX4_passByRule_3 ?_
  refine q_iload_n C 2 dX4_passByRule_6 rfl ?_
  refine q_iload_n C 3 dX4_passByRule_7 rfl ?_
  refine q_callVi (As := [.int (σ i1 1), .int p2, .int p3]) (st := [.ref (qa Y i1)]) C (c_X3_pressesAgainst Y ((σ i1 1)) p2 p3 σ _ h) gX4_passByRule_X3_pressesAgainst rfl ⟨rfl, nkX3_pressesAgainst⟩ rmOk_X4_passByRule__X3_pressesAgainst kC3 iC3 rfl rfl (Nat.le_of_ble_eq_true rfl) dX4_passByRule_8 rfl (fun x2 σ1 h => ?_)
  refine q_puti (T := TX4) C k_i1 i_i1 inX4_passByRule_X4 rfl tyX4 tyX4_ok nmX4 5 (by decide) (List.mem_of_getElem? (i := 2) rfl) (fun _ h9 => h9) rfl dgN rfl (ni_n _) (ni_f _) dX4_passByRule_11 ?_
  refine q_nmS (fun σ3 eσ3 => ?_)
  replace h := h σ3 eσ3
  refine q_aload_n C 0 dX4_passByRule_14 rfl ?_
  refine q_aload_n C 1 dX4_passByRule_15 rfl ?_
  refine q_aload_n C 0 dX4_passByRule_16 rfl ?_
  refine q_geti (T := TX4) C k_i1 i_i1 inX4_passByRule_X4 rfl 2 (by decide) (List.mem_of_getElem? (i := 3) rfl) (fun _ h9 => h9) rfl dX4_passByRule_17 ?_
  refine q_iload_n C 2 dX4_passByRule_20 rfl ?_
  refine q_iload_n C 3 dX4_passByRule_21 rfl ?_
  refine q_callVi (As := [.int (σ3 i1 2), .int p2, .int p3]) (st := [.ref (qa Y i1)]) C (c_X3_pressesAgainst Y ((σ3 i1 2)) p2 p3 σ3 _ h) gX4_passByRule_X3_pressesAgainst rfl ⟨rfl, nkX3_pressesAgainst⟩ rmOk_X4_passByRule__X3_pressesAgainst kC3 iC3 rfl rfl (Nat.le_of_ble_eq_true rfl) dX4_passByRule_22 rfl (fun x5 σ4 h => ?_)
  refine q_puti (T := TX4) C k_i1 i_i1 inX4_passByRule_X4 rfl tyX4 tyX4_ok nmX4 6 (by decide) (List.mem_of_getElem? (i := 4) rfl) (fun _ h9 => h9) rfl dgN rfl (ni_n _) (ni_f _) dX4_passByRule_25 ?_
  refine q_nmS (fun σ6 eσ6 => ?_)
  replace h := h σ6 eσ6
  refine q_aload_n C 0 dX4_passByRule_28 rfl ?_
  refine q_geti (T := TX4) C k_i1 i_i1 inX4_passByRule_X4 rfl 5 (by decide) (List.mem_of_getElem? (i := 2) rfl) (fun _ h9 => h9) rfl dX4_passByRule_29 ?_
  refine q_if_ne C 42 dX4_passByRule_32 (by decide) (fun c7 => ?_) (fun c7 => ?_)
  · replace h := h.1 c7
    refine q_sub (lv' := [(0, .ref (qa Y i1)), (1, .ref (qa Y 3))]) [0, 1] rfl ?_
    exact b_X4_passByRule_J42 C hQ k_i1 i_i1 σ6 h
  · replace h := h.2 c7
    refine q_aload_n C 0 dX4_passByRule_35 rfl ?_
    refine q_geti (T := TX4) C k_i1 i_i1 inX4_passByRule_X4 rfl 6 (by decide) (List.mem_of_getElem? (i := 4) rfl) (fun _ h9 => h9) rfl dX4_passByRule_36 ?_
    refine q_if_eq C 46 dX4_passByRule_39 (by decide) (fun c8 => ?_) (fun c8 => ?_)
    · replace h := h.1 c8
      refine q_iconst (v := (0 : Int32)) C dX4_passByRule_46 (by decide) ?_
      refine q_sub (lv' := [(0, .ref (qa Y i1)), (1, .ref (qa Y 3))]) [0, 1] rfl ?_
      exact b_X4_passByRule_J47 C hQ k_i1 i_i1 (0 : Int32) σ6 h
    · replace h := h.2 c8
      refine q_sub (lv' := [(0, .ref (qa Y i1)), (1, .ref (qa Y 3))]) [0, 1] rfl ?_
      exact b_X4_passByRule_J42 C hQ k_i1 i_i1 σ6 h
theorem c_X4_passByRule (Y : CY) {i1 : Nat} (k_i1 : SC.1 i1 = .inr (.inl (4, flN))) (i_i1 : i1 < SC.2) (p2 : Int32) (p3 : Int32) (σ : St) (Post : Int32 → St → Prop) (h : w_X4_passByRule i1 p2 p3 σ Post) : Ki SC Y yX4_passByRule wsX4_passByRule rmX4_passByRule [.ref (qa Y i1), .ref (qa Y 3), .int p2, .int p3] σ Post :=
  Ki_of (cc := cX4_passByRule) (nL := 5) (ret := (some .boolean)) (by decide +kernel) rfl (Nat.le_of_ble_eq_true rfl) (fun Z C hQ => b_X4_passByRule C hQ k_i1 i_i1 p2 p3 σ h)
abbrev rmX4_passMany : Room := { frames := 3, cells := 0, slots := 0, locals := 66 }
theorem nkX4_passMany : NmOk yX4_passMany 2 := by decide +kernel
theorem rmOk_X4_passMany__X4_passOne : RmOk rmX4_passOne rmX4_passMany 2 := ⟨rfl, rfl, by decide, by decide⟩
theorem inX4_passMany_X4 : ∀ w ∈ u_ws RX4 TX4 12, w ∈ wsX4_passMany := fun _ h => List.mem_cons_of_mem _ (List.mem_append_left _ (List.mem_append_right _ h))
def w_X4_passMany_B2 (i1 : Nat) (Post : St → Prop) (K2 : Int32 → Int32 → St → Prop) (v2 : Int32) (v3 : Int32) (σ : St) : Prop := (v2 ≤ v3 → Post σ) ∧ (¬ v2 ≤ v3 → (¬ (σ i1 3) = 0 → Post σ) ∧ ((σ i1 3) = 0 → w_X4_passOne i1 σ (fun σ3 => ∀ x4 : Int32, x4 = v3 + (1 : Int32) → K2 v2 x4 σ3)))
def w_X4_passMany_L2 (i1 : Nat) (Post : St → Prop) : Nat → Int32 → Int32 → St → Prop
  | 0 => fun _ _ _ => False
  | n + 1 => w_X4_passMany_B2 i1  Post (w_X4_passMany_L2 i1  Post n)
def w_X4_passMany (i1 : Nat) (p2 : Int32) (σ : St) (Post : St → Prop) : Prop := w_X4_passMany_L2 i1 Post FU p2 (0 : Int32) σ
set_option maxHeartbeats 4000000 in
set_option maxRecDepth 100000 in
theorem b_X4_passMany_B2 {Y : CY} {Z : CZ} (C : cx SC 4 Y Z cX4_passMany RX4 wsX4_passMany none rmX4_passMany) {Post : St → Prop} (hQ : Qv SC Y Z Post) {i1 : Nat} (k_i1 : SC.1 i1 = .inr (.inl (4, flN))) (i_i1 : i1 < SC.2) {K2 : Int32 → Int32 → St → Prop} (hK2 : ∀ (v2 : Int32) (v3 : Int32) (σ : St), K2 v2 v3 σ → WW SC 4 Y Z σ 2 [(0, .ref (qa Y i1)), (1, .ref (qa Y 3)), (2, .int v2), (3, .int v3)] []) (v2 : Int32) (v3 : Int32) (σ : St) (h : w_X4_passMany_B2 i1  Post K2 v2 v3 σ) : WW SC 4 Y Z σ 2 [(0, .ref (qa Y i1)), (1, .ref (qa Y 3)), (2, .int v2), (3, .int v3)] [] := by
  unfold w_X4_passMany_B2 at h
  refine q_iload_n C 3 dX4_passMany_2 rfl ?_
  refine q_iload_n C 2 dX4_passMany_3 rfl ?_
  refine q_icmp_ge C 25 dX4_passMany_4 (by decide) (fun c1 => ?_) (fun c1 => ?_)
  · replace h := h.1 c1
    exact q_vret C hQ dX4_passMany_25 h
  · replace h := h.2 c1
    refine q_aload_n C 0 dX4_passMany_7 rfl ?_
    refine q_geti (T := TX4) C k_i1 i_i1 inX4_passMany_X4 rfl 3 (by decide) (List.mem_of_getElem? (i := 1) rfl) (fun _ h9 => h9) rfl dX4_passMany_8 ?_
    refine q_if_ne C 25 dX4_passMany_11 (by decide) (fun c2 => ?_) (fun c2 => ?_)
    · replace h := h.1 c2
      exact q_vret C hQ dX4_passMany_25 h
    · replace h := h.2 c2
      refine q_aload_n C 0 dX4_passMany_14 rfl ?_
      refine q_aload_n C 1 dX4_passMany_15 rfl ?_
      refine q_callVv (As := [.ref (qa Y 3)]) (st := []) C (c_X4_passOne Y k_i1 i_i1 σ _ h) gX4_passMany_X4_passOne rfl ⟨rfl, nkX4_passOne⟩ rmOk_X4_passMany__X4_passOne k_i1 i_i1 rfl rfl (Nat.le_of_ble_eq_true rfl) dX4_passMany_16 rfl (fun σ3 h => ?_)
      obtain ⟨x4, ex4⟩ : ∃ y : Int32, y = v3 + (1 : Int32) := ⟨_, rfl⟩
      replace h := h x4 ex4
      refine q_iinc C x4 3 [(3, .int x4), (0, .ref (qa Y i1)), (1, .ref (qa Y 3)), (2, .int v2)] dX4_passMany_19 rfl (by rw [ex4]; rfl) (by decide) rfl ?_
      refine q_goto C 2 dX4_passMany_22 (by decide) ?_
      refine q_sub (lv' := [(0, .ref (qa Y i1)), (1, .ref (qa Y 3)), (2, .int v2), (3, .int x4)]) [1, 2, 3, 0] rfl ?_
      exact hK2 v2 x4 σ3 h
theorem b_X4_passMany_L2 {Y : CY} {Z : CZ} (C : cx SC 4 Y Z cX4_passMany RX4 wsX4_passMany none rmX4_passMany) {Post : St → Prop} (hQ : Qv SC Y Z Post) {i1 : Nat} (k_i1 : SC.1 i1 = .inr (.inl (4, flN))) (i_i1 : i1 < SC.2) : ∀ (n : Nat) (v2 : Int32) (v3 : Int32) (σ : St) (h : w_X4_passMany_L2 i1  Post n v2 v3 σ), WW SC 4 Y Z σ 2 [(0, .ref (qa Y i1)), (1, .ref (qa Y 3)), (2, .int v2), (3, .int v3)] [] := by
  intro n
  induction n with
  | zero => intro v2 v3 σ h; exact h.elim
  | succ n ih => intro v2 v3 σ h; exact b_X4_passMany_B2 C hQ k_i1 i_i1 ih v2 v3 σ h
set_option maxHeartbeats 4000000 in
set_option maxRecDepth 100000 in
theorem b_X4_passMany {Y : CY} {Z : CZ} (C : cx SC 4 Y Z cX4_passMany RX4 wsX4_passMany none rmX4_passMany) {Post : St → Prop} (hQ : Qv SC Y Z Post) {i1 : Nat} (k_i1 : SC.1 i1 = .inr (.inl (4, flN))) (i_i1 : i1 < SC.2) (p2 : Int32) (σ : St) (h : w_X4_passMany i1 p2 σ Post) : WW SC 4 Y Z σ 0 [(0, .ref (qa Y i1)), (1, .ref (qa Y 3)), (2, .int p2)] [] := by
  unfold w_X4_passMany at h
  refine q_iconst (v := (0 : Int32)) C dX4_passMany_0 (by decide) ?_
  refine q_istore_n C [(3, .int (0 : Int32)), (0, .ref (qa Y i1)), (1, .ref (qa Y 3)), (2, .int p2)] dX4_passMany_1 (by decide) rfl ?_
  refine q_sub (lv' := [(0, .ref (qa Y i1)), (1, .ref (qa Y 3)), (2, .int p2), (3, .int (0 : Int32))]) [1, 2, 3, 0] rfl ?_
  exact b_X4_passMany_L2 C hQ k_i1 i_i1 FU p2 (0 : Int32) σ h
theorem c_X4_passMany (Y : CY) {i1 : Nat} (k_i1 : SC.1 i1 = .inr (.inl (4, flN))) (i_i1 : i1 < SC.2) (p2 : Int32) (σ : St) (Post : St → Prop) (h : w_X4_passMany i1 p2 σ Post) : Kv SC Y yX4_passMany wsX4_passMany rmX4_passMany [.ref (qa Y i1), .ref (qa Y 3), .int p2] σ Post :=
  Kv_of (cc := cX4_passMany) (nL := 4) (ret := none) (by decide +kernel) rfl (Nat.le_of_ble_eq_true rfl) (fun Z C hQ => b_X4_passMany C hQ k_i1 i_i1 p2 σ h)
abbrev rmX4_tailLength : Room := { frames := 1, cells := 0, slots := 0, locals := 24 }
theorem nkX4_tailLength : NmOk yX4_tailLength 0 := by decide +kernel
theorem inX4_tailLength_X4 : ∀ w ∈ u_ws RX4 TX4 12, w ∈ wsX4_tailLength := fun _ h => List.mem_cons_of_mem _ (List.mem_append_right _ h)
def w_X4_tailLength (i1 : Nat) (σ : St) (Post : Int32 → St → Prop) : Prop := (¬ (σ i1 7) = 0 → ∀ x2 : Int32, x2 = (if ((σ i1 9) - (σ i1 8)) < ((σ i1 11) - (σ i1 10)) then ((σ i1 11) - (σ i1 10)) else ((σ i1 9) - (σ i1 8))) → Post x2 σ) ∧ ((σ i1 7) = 0 → Post (0 : Int32) σ)
set_option maxHeartbeats 4000000 in
set_option maxRecDepth 100000 in
theorem b_X4_tailLength {Y : CY} {Z : CZ} (C : cx SC 1 Y Z cX4_tailLength RX4 wsX4_tailLength (some .int) rmX4_tailLength) {Post : Int32 → St → Prop} (hQ : Qi SC Y Z Post) {i1 : Nat} (k_i1 : SC.1 i1 = .inr (.inl (4, flN))) (i_i1 : i1 < SC.2) (σ : St) (h : w_X4_tailLength i1 σ Post) : WW SC 1 Y Z σ 0 [(0, .ref (qa Y i1))] [] := by
  unfold w_X4_tailLength at h
  refine q_aload_n C 0 dX4_tailLength_0 rfl ?_
  refine q_geti (T := TX4) C k_i1 i_i1 inX4_tailLength_X4 rfl 7 (by decide) (List.mem_of_getElem? (i := 1) rfl) (fun _ h9 => h9) rfl dX4_tailLength_1 ?_
  refine q_if_ne C 11 dX4_tailLength_4 (by decide) (fun c1 => ?_) (fun c1 => ?_)
  · replace h := h.1 c1
    refine q_aload_n C 0 dX4_tailLength_11 rfl ?_
    refine q_geti (T := TX4) C k_i1 i_i1 inX4_tailLength_X4 rfl 9 (by decide) (List.mem_of_getElem? (i := 2) rfl) (fun _ h9 => h9) rfl dX4_tailLength_12 ?_
    refine q_aload_n C 0 dX4_tailLength_15 rfl ?_
    refine q_geti (T := TX4) C k_i1 i_i1 inX4_tailLength_X4 rfl 8 (by decide) (List.mem_of_getElem? (i := 3) rfl) (fun _ h9 => h9) rfl dX4_tailLength_16 ?_
    refine q_isub C dX4_tailLength_19 ?_
    refine q_aload_n C 0 dX4_tailLength_20 rfl ?_
    refine q_geti (T := TX4) C k_i1 i_i1 inX4_tailLength_X4 rfl 11 (by decide) (List.mem_of_getElem? (i := 4) rfl) (fun _ h9 => h9) rfl dX4_tailLength_21 ?_
    refine q_aload_n C 0 dX4_tailLength_24 rfl ?_
    refine q_geti (T := TX4) C k_i1 i_i1 inX4_tailLength_X4 rfl 10 (by decide) (List.mem_of_getElem? (i := 5) rfl) (fun _ h9 => h9) rfl dX4_tailLength_25 ?_
    refine q_isub C dX4_tailLength_28 ?_
    refine q_mmax C (List.mem_of_getElem? (i := 6) rfl) (List.mem_of_getElem? (i := 7) rfl) (List.mem_of_getElem? (i := 8) rfl) (List.mem_of_getElem? (i := 9) rfl) (by decide) (Nat.le_of_ble_eq_true rfl) dX4_tailLength_29 ?_
    refine q_topi (fun x2 ex2 => ?_)
    replace h := h x2 ex2
    exact q_iret C hQ dX4_tailLength_32 h
  · replace h := h.2 c1
    refine q_iconst (v := (0 : Int32)) C dX4_tailLength_7 (by decide) ?_
    refine q_goto C 32 dX4_tailLength_8 (by decide) ?_
    exact q_iret C hQ dX4_tailLength_32 h
theorem c_X4_tailLength (Y : CY) {i1 : Nat} (k_i1 : SC.1 i1 = .inr (.inl (4, flN))) (i_i1 : i1 < SC.2) (σ : St) (Post : Int32 → St → Prop) (h : w_X4_tailLength i1 σ Post) : Ki SC Y yX4_tailLength wsX4_tailLength rmX4_tailLength [.ref (qa Y i1)] σ Post :=
  Ki_of (cc := cX4_tailLength) (nL := 1) (ret := (some .int)) (by decide +kernel) rfl (Nat.le_of_ble_eq_true rfl) (fun Z C hQ => b_X4_tailLength C hQ k_i1 i_i1 σ h)
abbrev rmX4_takeFreshPlate : Room := { frames := 0, cells := 0, slots := 0, locals := 0 }
theorem nkX4_takeFreshPlate : NmOk yX4_takeFreshPlate 0 := by decide +kernel
theorem inX4_takeFreshPlate_X4 : ∀ w ∈ u_ws RX4 TX4 12, w ∈ wsX4_takeFreshPlate := fun _ h => List.mem_cons_of_mem _ (List.mem_append_right _ h)
def w_X4_takeFreshPlate (i1 : Nat) (σ : St) (Post : St → Prop) : Prop := ∀ σ1 : St, σ1 = up σ i1 1 (0 : Int32) → ∀ σ2 : St, σ2 = up σ1 i1 2 (0 : Int32) → ∀ σ3 : St, σ3 = up σ2 i1 3 (0 : Int32) → ∀ σ4 : St, σ4 = up σ3 i1 4 (0 : Int32) → ∀ σ5 : St, σ5 = up σ4 i1 5 (0 : Int32) → ∀ σ6 : St, σ6 = up σ5 i1 6 (0 : Int32) → ∀ σ7 : St, σ7 = up σ6 i1 7 (0 : Int32) → Post σ7
set_option maxHeartbeats 4000000 in
set_option maxRecDepth 100000 in
theorem b_X4_takeFreshPlate {Y : CY} {Z : CZ} (C : cx SC 1 Y Z cX4_takeFreshPlate RX4 wsX4_takeFreshPlate none rmX4_takeFreshPlate) {Post : St → Prop} (hQ : Qv SC Y Z Post) {i1 : Nat} (k_i1 : SC.1 i1 = .inr (.inl (4, flN))) (i_i1 : i1 < SC.2) (σ : St) (h : w_X4_takeFreshPlate i1 σ Post) : WW SC 1 Y Z σ 0 [(0, .ref (qa Y i1))] [] := by
  unfold w_X4_takeFreshPlate at h
  refine q_aload_n C 0 dX4_takeFreshPlate_0 rfl ?_
  refine q_iconst (v := (0 : Int32)) C dX4_takeFreshPlate_1 (by decide) ?_
  refine q_puti (T := TX4) C k_i1 i_i1 inX4_takeFreshPlate_X4 rfl tyX4 tyX4_ok nmX4 1 (by decide) (List.mem_of_getElem? (i := 1) rfl) (fun _ h9 => h9) rfl dgN rfl (ni_n _) (ni_f _) dX4_takeFreshPlate_2 ?_
  refine q_nmS (fun σ1 eσ1 => ?_)
  replace h := h σ1 eσ1
  refine q_aload_n C 0 dX4_takeFreshPlate_5 rfl ?_
  refine q_iconst (v := (0 : Int32)) C dX4_takeFreshPlate_6 (by decide) ?_
  refine q_puti (T := TX4) C k_i1 i_i1 inX4_takeFreshPlate_X4 rfl tyX4 tyX4_ok nmX4 2 (by decide) (List.mem_of_getElem? (i := 2) rfl) (fun _ h9 => h9) rfl dgN rfl (ni_n _) (ni_f _) dX4_takeFreshPlate_7 ?_
  refine q_nmS (fun σ2 eσ2 => ?_)
  replace h := h σ2 eσ2
  refine q_aload_n C 0 dX4_takeFreshPlate_10 rfl ?_
  refine q_iconst (v := (0 : Int32)) C dX4_takeFreshPlate_11 (by decide) ?_
  refine q_puti (T := TX4) C k_i1 i_i1 inX4_takeFreshPlate_X4 rfl tyX4 tyX4_ok nmX4 3 (by decide) (List.mem_of_getElem? (i := 3) rfl) (fun _ h9 => h9) rfl dgN rfl (zb_n (by decide)) (zb_f (by decide)) dX4_takeFreshPlate_12 ?_
  refine q_nmS (fun σ3 eσ3 => ?_)
  replace h := h σ3 eσ3
  refine q_aload_n C 0 dX4_takeFreshPlate_15 rfl ?_
  refine q_iconst (v := (0 : Int32)) C dX4_takeFreshPlate_16 (by decide) ?_
  refine q_puti (T := TX4) C k_i1 i_i1 inX4_takeFreshPlate_X4 rfl tyX4 tyX4_ok nmX4 4 (by decide) (List.mem_of_getElem? (i := 4) rfl) (fun _ h9 => h9) rfl dgN rfl (zb_n (by decide)) (zb_f (by decide)) dX4_takeFreshPlate_17 ?_
  refine q_nmS (fun σ4 eσ4 => ?_)
  replace h := h σ4 eσ4
  refine q_aload_n C 0 dX4_takeFreshPlate_20 rfl ?_
  refine q_iconst (v := (0 : Int32)) C dX4_takeFreshPlate_21 (by decide) ?_
  refine q_puti (T := TX4) C k_i1 i_i1 inX4_takeFreshPlate_X4 rfl tyX4 tyX4_ok nmX4 5 (by decide) (List.mem_of_getElem? (i := 5) rfl) (fun _ h9 => h9) rfl dgN rfl (ni_n _) (ni_f _) dX4_takeFreshPlate_22 ?_
  refine q_nmS (fun σ5 eσ5 => ?_)
  replace h := h σ5 eσ5
  refine q_aload_n C 0 dX4_takeFreshPlate_25 rfl ?_
  refine q_iconst (v := (0 : Int32)) C dX4_takeFreshPlate_26 (by decide) ?_
  refine q_puti (T := TX4) C k_i1 i_i1 inX4_takeFreshPlate_X4 rfl tyX4 tyX4_ok nmX4 6 (by decide) (List.mem_of_getElem? (i := 6) rfl) (fun _ h9 => h9) rfl dgN rfl (ni_n _) (ni_f _) dX4_takeFreshPlate_27 ?_
  refine q_nmS (fun σ6 eσ6 => ?_)
  replace h := h σ6 eσ6
  refine q_aload_n C 0 dX4_takeFreshPlate_30 rfl ?_
  refine q_iconst (v := (0 : Int32)) C dX4_takeFreshPlate_31 (by decide) ?_
  refine q_puti (T := TX4) C k_i1 i_i1 inX4_takeFreshPlate_X4 rfl tyX4 tyX4_ok nmX4 7 (by decide) (List.mem_of_getElem? (i := 7) rfl) (fun _ h9 => h9) rfl dgN rfl (ni_n _) (ni_f _) dX4_takeFreshPlate_32 ?_
  refine q_nmS (fun σ7 eσ7 => ?_)
  replace h := h σ7 eσ7
  exact q_vret C hQ dX4_takeFreshPlate_35 h
theorem c_X4_takeFreshPlate (Y : CY) {i1 : Nat} (k_i1 : SC.1 i1 = .inr (.inl (4, flN))) (i_i1 : i1 < SC.2) (σ : St) (Post : St → Prop) (h : w_X4_takeFreshPlate i1 σ Post) : Kv SC Y yX4_takeFreshPlate wsX4_takeFreshPlate rmX4_takeFreshPlate [.ref (qa Y i1)] σ Post :=
  Kv_of (cc := cX4_takeFreshPlate) (nL := 1) (ret := none) (by decide +kernel) rfl (Nat.le_of_ble_eq_true rfl) (fun Z C hQ => b_X4_takeFreshPlate C hQ k_i1 i_i1 σ h)
abbrev rmX5_putPair : Room := { frames := 0, cells := 0, slots := 0, locals := 0 }
theorem nkX5_putPair : NmOk yX5_putPair 5 := by decide +kernel
def w_X5_putPair (a1 : Nat) (L1 : Nat) (a2 : Nat) (L2 : Nat) (p3 : Int32) (p4 : Int32) (p5 : Int32) (σ : St) (Post : Int32 → St → Prop) : Prop := (p3 < 0 → Post (0 : Int32) σ) ∧ (¬ p3 < 0 → ((nI L1) ≤ p3 → Post (0 : Int32) σ) ∧ (¬ (nI L1) ≤ p3 → (p3 < (nI L2) → (vp_in p3 L1) ∧ (∀ σ4 : St, σ4 = up σ a1 p3.toNatClampNeg p4 → (vp_in p3 L2) ∧ (∀ σ5 : St, σ5 = up σ4 a2 p3.toNatClampNeg p5 → Post (1 : Int32) σ5))) ∧ (¬ p3 < (nI L2) → Post (0 : Int32) σ)))
set_option maxHeartbeats 4000000 in
set_option maxRecDepth 100000 in
theorem b_X5_putPair {Y : CY} {Z : CZ} (C : cx SC 5 Y Z cX5_putPair RX5 wsX5_putPair (some .boolean) rmX5_putPair) {Post : Int32 → St → Prop} (hQ : Qi SC Y Z Post) {a1 L1 : Nat} (k_a1 : SC.1 a1 = .inl (0, L1)) (i_a1 : a1 < SC.2) {a2 L2 : Nat} (k_a2 : SC.1 a2 = .inl (0, L2)) (i_a2 : a2 < SC.2) (p3 : Int32) (p4 : Int32) (p5 : Int32) (σ : St) (h : w_X5_putPair a1 L1 a2 L2 p3 p4 p5 σ Post) : WW SC 5 Y Z σ 0 [(0, .ref (qa Y a1)), (1, .ref (qa Y a2)), (2, .int p3), (3, .int p4), (4, .int p5)] [] := by
  unfold w_X5_putPair at h
  refine q_iload_n C 2 dX5_putPair_0 rfl ?_
  refine q_if_lt C 16 dX5_putPair_1 (by decide) (fun c1 => ?_) (fun c1 => ?_)
  · replace h := h.1 c1
    refine q_iconst (v := (0 : Int32)) C dX5_putPair_16 (by decide) ?_
    exact q_zret C hQ (zb_n (by decide)) dX5_putPair_17 h
  · replace h := h.2 c1
    refine q_iload_n C 2 dX5_putPair_4 rfl ?_
    refine q_aload_n C 0 dX5_putPair_5 rfl ?_
    refine q_alen C k_a1 i_a1 dX5_putPair_6 ?_
    refine q_icmp_ge C 16 dX5_putPair_7 (by decide) (fun c2 => ?_) (fun c2 => ?_)
    · replace h := h.1 c2
      refine q_iconst (v := (0 : Int32)) C dX5_putPair_16 (by decide) ?_
      exact q_zret C hQ (zb_n (by decide)) dX5_putPair_17 h
    · replace h := h.2 c2
      refine q_iload_n C 2 dX5_putPair_10 rfl ?_
      refine q_aload_n C 1 dX5_putPair_11 rfl ?_
      refine q_alen C k_a2 i_a2 dX5_putPair_12 ?_
      refine q_icmp_lt C 18 dX5_putPair_13 (by decide) (fun c3 => ?_) (fun c3 => ?_)
      · replace h := h.1 c3
        refine q_aload_n C 0 dX5_putPair_18 rfl ?_
        refine q_iload_n C 2 dX5_putPair_19 rfl ?_
        refine q_iload_n C 3 dX5_putPair_20 rfl ?_
        obtain ⟨g7, h⟩ := h
        refine q_iast C k_a1 i_a1 g7 dX5_putPair_21 ?_
        refine q_nmS (fun σ4 eσ4 => ?_)
        replace h := h σ4 eσ4
        refine q_aload_n C 1 dX5_putPair_22 rfl ?_
        refine q_iload_n C 2 dX5_putPair_23 rfl ?_
        refine q_iload C 4 dX5_putPair_24 rfl ?_
        obtain ⟨g6, h⟩ := h
        refine q_iast C k_a2 i_a2 g6 dX5_putPair_26 ?_
        refine q_nmS (fun σ5 eσ5 => ?_)
        replace h := h σ5 eσ5
        refine q_iconst (v := (1 : Int32)) C dX5_putPair_27 (by decide) ?_
        exact q_zret C hQ (zb_n (by decide)) dX5_putPair_28 h
      · replace h := h.2 c3
        refine q_iconst (v := (0 : Int32)) C dX5_putPair_16 (by decide) ?_
        exact q_zret C hQ (zb_n (by decide)) dX5_putPair_17 h
theorem c_X5_putPair (Y : CY) {a1 L1 : Nat} (k_a1 : SC.1 a1 = .inl (0, L1)) (i_a1 : a1 < SC.2) {a2 L2 : Nat} (k_a2 : SC.1 a2 = .inl (0, L2)) (i_a2 : a2 < SC.2) (p3 : Int32) (p4 : Int32) (p5 : Int32) (σ : St) (Post : Int32 → St → Prop) (h : w_X5_putPair a1 L1 a2 L2 p3 p4 p5 σ Post) : Ki SC Y yX5_putPair wsX5_putPair rmX5_putPair [.ref (qa Y a1), .ref (qa Y a2), .int p3, .int p4, .int p5] σ Post :=
  Ki_of (cc := cX5_putPair) (nL := 5) (ret := (some .boolean)) (by decide +kernel) rfl (Nat.le_of_ble_eq_true rfl) (fun Z C hQ => b_X5_putPair C hQ k_a1 i_a1 k_a2 i_a2 p3 p4 p5 σ h)
abbrev rmX5_addSeen : Room := { frames := 1, cells := 0, slots := 0, locals := 24 }
theorem nkX5_addSeen : NmOk yX5_addSeen 2 := by decide +kernel
theorem rmOk_X5_addSeen__X5_putPair : RmOk rmX5_putPair rmX5_addSeen 5 := ⟨rfl, rfl, by decide, by decide⟩
theorem inX5_addSeen_X5 : ∀ w ∈ u_ws RX5 TX5 9, w ∈ wsX5_addSeen := fun _ h => List.mem_cons_of_mem _ (List.mem_append_right _ h)
def w_X5_addSeen_J32 (Post : Int32 → St → Prop) (v3 : Int32) (s0 : Int32) (s1 : Int32) (σ : St) : Prop := ∀ σ4 : St, σ4 = up σ 36 0 ((s1 + s0)) → (v3 = 0 ∨ v3 = 1) ∧ Post v3 σ4
def w_X5_addSeen (p1 : Int32) (p2 : Int32) (σ : St) (Post : Int32 → St → Prop) : Prop := w_X5_putPair 37 10 38 10 ((σ 36 0)) p1 p2 σ (fun x2 σ1 => (x2 = 0 → w_X5_addSeen_J32 Post x2 (0 : Int32) ((σ1 36 0)) σ1) ∧ (¬ x2 = 0 → w_X5_addSeen_J32 Post x2 (1 : Int32) ((σ1 36 0)) σ1))
set_option maxHeartbeats 4000000 in
set_option maxRecDepth 100000 in
theorem b_X5_addSeen_J32 {Y : CY} {Z : CZ} (C : cx SC 4 Y Z cX5_addSeen RX5 wsX5_addSeen (some .boolean) rmX5_addSeen) {Post : Int32 → St → Prop} (hQ : Qi SC Y Z Post)  (v3 : Int32) (s0 : Int32) (s1 : Int32) (σ : St) (h : w_X5_addSeen_J32  Post v3 s0 s1 σ) : WW SC 4 Y Z σ 32 [(3, .int v3)] [.int s0, .int s1, .ref (qa Y 36)] := by
  unfold w_X5_addSeen_J32 at h
  refine q_iadd C dX5_addSeen_32 ?_
  refine q_puti (T := TX5) C kC36 iC36 inX5_addSeen_X5 rfl tyX5 tyX5_ok nmX5 0 (by decide) (List.mem_of_getElem? (i := 3) rfl) (fun _ h9 => h9) rfl dgC36 rfl (ni_n _) (ni_f _) dX5_addSeen_33 ?_
  refine q_nmS (fun σ4 eσ4 => ?_)
  replace h := h σ4 eσ4
  refine q_iload_n C 0 dX5_addSeen_36 rfl ?_
  exact q_zret C hQ (zb_n h.1) dX5_addSeen_37 h.2
set_option maxHeartbeats 4000000 in
set_option maxRecDepth 100000 in
theorem b_X5_addSeen {Y : CY} {Z : CZ} (C : cx SC 4 Y Z cX5_addSeen RX5 wsX5_addSeen (some .boolean) rmX5_addSeen) {Post : Int32 → St → Prop} (hQ : Qi SC Y Z Post)  (p1 : Int32) (p2 : Int32) (σ : St) (h : w_X5_addSeen p1 p2 σ Post) : WW SC 4 Y Z σ 0 [(0, .ref (qa Y 36)), (1, .int p1), (2, .int p2)] [] := by
  unfold w_X5_addSeen at h
  refine q_aload_n C 0 dX5_addSeen_0 rfl ?_
  refine q_getr (T := TX5) C kC36 iC36 inX5_addSeen_X5 rfl 3 (by decide) (List.mem_of_getElem? (i := 1) rfl) (fun _ h9 => h9) rfl dX5_addSeen_1 ?_
  refine q_aload_n C 0 dX5_addSeen_4 rfl ?_
  refine q_getr (T := TX5) C kC36 iC36 inX5_addSeen_X5 rfl 4 (by decide) (List.mem_of_getElem? (i := 2) rfl) (fun _ h9 => h9) rfl dX5_addSeen_5 ?_
  refine q_aload_n C 0 dX5_addSeen_8 rfl ?_
  refine q_geti (T := TX5) C kC36 iC36 inX5_addSeen_X5 rfl 0 (by decide) (List.mem_of_getElem? (i := 3) rfl) (fun _ h9 => h9) rfl dX5_addSeen_9 ?_
  refine q_iload_n C 1 dX5_addSeen_12 rfl ?_
  refine q_iload_n C 2 dX5_addSeen_13 rfl ?_
  refine q_callSi (As := [.ref (qa Y 37), .ref (qa Y 38), .int (σ 36 0), .int p1, .int p2]) (st := []) C (c_X5_putPair Y kC37 iC37 kC38 iC38 ((σ 36 0)) p1 p2 σ _ h) gX5_addSeen_X5_putPair rfl nkX5_putPair rmOk_X5_addSeen__X5_putPair rfl (Nat.le_of_ble_eq_true rfl) dX5_addSeen_14 rfl (fun x2 σ1 h => ?_)
  refine q_istore_n C [(3, .int x2), (0, .ref (qa Y 36)), (1, .int p1), (2, .int p2)] dX5_addSeen_17 (by decide) rfl ?_
  refine q_aload_n C 1 dX5_addSeen_18 rfl ?_
  refine q_dup C dX5_addSeen_19 rfl ?_
  refine q_geti (T := TX5) C kC36 iC36 inX5_addSeen_X5 rfl 0 (by decide) (List.mem_of_getElem? (i := 3) rfl) (fun _ h9 => h9) rfl dX5_addSeen_20 ?_
  refine q_iload_n C 0 dX5_addSeen_23 rfl ?_
  refine q_if_eq C 31 dX5_addSeen_24 (by decide) (fun c3 => ?_) (fun c3 => ?_)
  · replace h := h.1 c3
    refine q_iconst (v := (0 : Int32)) C dX5_addSeen_31 (by decide) ?_
    refine q_sub (lv' := [(3, .int x2)]) [0] rfl ?_
    exact b_X5_addSeen_J32 C hQ x2 (0 : Int32) ((σ1 36 0)) σ1 h
  · replace h := h.2 c3
    refine q_iconst (v := (1 : Int32)) C dX5_addSeen_27 (by decide) ?_
    refine q_goto C 32 dX5_addSeen_28 (by decide) ?_
    refine q_sub (lv' := [(3, .int x2)]) [0] rfl ?_
    exact b_X5_addSeen_J32 C hQ x2 (1 : Int32) ((σ1 36 0)) σ1 h
theorem c_X5_addSeen (Y : CY)  (p1 : Int32) (p2 : Int32) (σ : St) (Post : Int32 → St → Prop) (h : w_X5_addSeen p1 p2 σ Post) : Ki SC Y yX5_addSeen wsX5_addSeen rmX5_addSeen [.ref (qa Y 36), .int p1, .int p2] σ Post :=
  Ki_of (cc := cX5_addSeen) (nL := 4) (ret := (some .boolean)) (by decide +kernel) rfl (Nat.le_of_ble_eq_true rfl) (fun Z C hQ => b_X5_addSeen C hQ  p1 p2 σ h)
abbrev rmX5_addTail : Room := { frames := 1, cells := 0, slots := 0, locals := 24 }
theorem nkX5_addTail : NmOk yX5_addTail 2 := by decide +kernel
theorem rmOk_X5_addTail__X5_putPair : RmOk rmX5_putPair rmX5_addTail 5 := ⟨rfl, rfl, by decide, by decide⟩
theorem inX5_addTail_X5 : ∀ w ∈ u_ws RX5 TX5 9, w ∈ wsX5_addTail := fun _ h => List.mem_cons_of_mem _ (List.mem_append_right _ h)
def w_X5_addTail_J32 (Post : Int32 → St → Prop) (v3 : Int32) (s0 : Int32) (s1 : Int32) (σ : St) : Prop := ∀ σ4 : St, σ4 = up σ 36 1 ((s1 + s0)) → (v3 = 0 ∨ v3 = 1) ∧ Post v3 σ4
def w_X5_addTail (p1 : Int32) (p2 : Int32) (σ : St) (Post : Int32 → St → Prop) : Prop := w_X5_putPair 39 6 40 6 ((σ 36 1)) p1 p2 σ (fun x2 σ1 => (x2 = 0 → w_X5_addTail_J32 Post x2 (0 : Int32) ((σ1 36 1)) σ1) ∧ (¬ x2 = 0 → w_X5_addTail_J32 Post x2 (1 : Int32) ((σ1 36 1)) σ1))
set_option maxHeartbeats 4000000 in
set_option maxRecDepth 100000 in
theorem b_X5_addTail_J32 {Y : CY} {Z : CZ} (C : cx SC 4 Y Z cX5_addTail RX5 wsX5_addTail (some .boolean) rmX5_addTail) {Post : Int32 → St → Prop} (hQ : Qi SC Y Z Post)  (v3 : Int32) (s0 : Int32) (s1 : Int32) (σ : St) (h : w_X5_addTail_J32  Post v3 s0 s1 σ) : WW SC 4 Y Z σ 32 [(3, .int v3)] [.int s0, .int s1, .ref (qa Y 36)] := by
  unfold w_X5_addTail_J32 at h
  refine q_iadd C dX5_addTail_32 ?_
  refine q_puti (T := TX5) C kC36 iC36 inX5_addTail_X5 rfl tyX5 tyX5_ok nmX5 1 (by decide) (List.mem_of_getElem? (i := 3) rfl) (fun _ h9 => h9) rfl dgC36 rfl (ni_n _) (ni_f _) dX5_addTail_33 ?_
  refine q_nmS (fun σ4 eσ4 => ?_)
  replace h := h σ4 eσ4
  refine q_iload_n C 0 dX5_addTail_36 rfl ?_
  exact q_zret C hQ (zb_n h.1) dX5_addTail_37 h.2
set_option maxHeartbeats 4000000 in
set_option maxRecDepth 100000 in
theorem b_X5_addTail {Y : CY} {Z : CZ} (C : cx SC 4 Y Z cX5_addTail RX5 wsX5_addTail (some .boolean) rmX5_addTail) {Post : Int32 → St → Prop} (hQ : Qi SC Y Z Post)  (p1 : Int32) (p2 : Int32) (σ : St) (h : w_X5_addTail p1 p2 σ Post) : WW SC 4 Y Z σ 0 [(0, .ref (qa Y 36)), (1, .int p1), (2, .int p2)] [] := by
  unfold w_X5_addTail at h
  refine q_aload_n C 0 dX5_addTail_0 rfl ?_
  refine q_getr (T := TX5) C kC36 iC36 inX5_addTail_X5 rfl 5 (by decide) (List.mem_of_getElem? (i := 1) rfl) (fun _ h9 => h9) rfl dX5_addTail_1 ?_
  refine q_aload_n C 0 dX5_addTail_4 rfl ?_
  refine q_getr (T := TX5) C kC36 iC36 inX5_addTail_X5 rfl 6 (by decide) (List.mem_of_getElem? (i := 2) rfl) (fun _ h9 => h9) rfl dX5_addTail_5 ?_
  refine q_aload_n C 0 dX5_addTail_8 rfl ?_
  refine q_geti (T := TX5) C kC36 iC36 inX5_addTail_X5 rfl 1 (by decide) (List.mem_of_getElem? (i := 3) rfl) (fun _ h9 => h9) rfl dX5_addTail_9 ?_
  refine q_iload_n C 1 dX5_addTail_12 rfl ?_
  refine q_iload_n C 2 dX5_addTail_13 rfl ?_
  refine q_callSi (As := [.ref (qa Y 39), .ref (qa Y 40), .int (σ 36 1), .int p1, .int p2]) (st := []) C (c_X5_putPair Y kC39 iC39 kC40 iC40 ((σ 36 1)) p1 p2 σ _ h) gX5_addTail_X5_putPair rfl nkX5_putPair rmOk_X5_addTail__X5_putPair rfl (Nat.le_of_ble_eq_true rfl) dX5_addTail_14 rfl (fun x2 σ1 h => ?_)
  refine q_istore_n C [(3, .int x2), (0, .ref (qa Y 36)), (1, .int p1), (2, .int p2)] dX5_addTail_17 (by decide) rfl ?_
  refine q_aload_n C 1 dX5_addTail_18 rfl ?_
  refine q_dup C dX5_addTail_19 rfl ?_
  refine q_geti (T := TX5) C kC36 iC36 inX5_addTail_X5 rfl 1 (by decide) (List.mem_of_getElem? (i := 3) rfl) (fun _ h9 => h9) rfl dX5_addTail_20 ?_
  refine q_iload_n C 0 dX5_addTail_23 rfl ?_
  refine q_if_eq C 31 dX5_addTail_24 (by decide) (fun c3 => ?_) (fun c3 => ?_)
  · replace h := h.1 c3
    refine q_iconst (v := (0 : Int32)) C dX5_addTail_31 (by decide) ?_
    refine q_sub (lv' := [(3, .int x2)]) [0] rfl ?_
    exact b_X5_addTail_J32 C hQ x2 (0 : Int32) ((σ1 36 1)) σ1 h
  · replace h := h.2 c3
    refine q_iconst (v := (1 : Int32)) C dX5_addTail_27 (by decide) ?_
    refine q_goto C 32 dX5_addTail_28 (by decide) ?_
    refine q_sub (lv' := [(3, .int x2)]) [0] rfl ?_
    exact b_X5_addTail_J32 C hQ x2 (1 : Int32) ((σ1 36 1)) σ1 h
theorem c_X5_addTail (Y : CY)  (p1 : Int32) (p2 : Int32) (σ : St) (Post : Int32 → St → Prop) (h : w_X5_addTail p1 p2 σ Post) : Ki SC Y yX5_addTail wsX5_addTail rmX5_addTail [.ref (qa Y 36), .int p1, .int p2] σ Post :=
  Ki_of (cc := cX5_addTail) (nL := 4) (ret := (some .boolean)) (by decide +kernel) rfl (Nat.le_of_ble_eq_true rfl) (fun Z C hQ => b_X5_addTail C hQ  p1 p2 σ h)
abbrev rmX5_addToBook : Room := { frames := 1, cells := 0, slots := 0, locals := 24 }
theorem nkX5_addToBook : NmOk yX5_addToBook 2 := by decide +kernel
theorem rmOk_X5_addToBook__X5_putPair : RmOk rmX5_putPair rmX5_addToBook 5 := ⟨rfl, rfl, by decide, by decide⟩
theorem inX5_addToBook_X5 : ∀ w ∈ u_ws RX5 TX5 9, w ∈ wsX5_addToBook := fun _ h => List.mem_cons_of_mem _ (List.mem_append_right _ h)
def w_X5_addToBook_J32 (Post : Int32 → St → Prop) (v3 : Int32) (s0 : Int32) (s1 : Int32) (σ : St) : Prop := ∀ σ4 : St, σ4 = up σ 36 2 ((s1 + s0)) → (v3 = 0 ∨ v3 = 1) ∧ Post v3 σ4
def w_X5_addToBook (p1 : Int32) (p2 : Int32) (σ : St) (Post : Int32 → St → Prop) : Prop := w_X5_putPair 41 15 42 15 ((σ 36 2)) p1 p2 σ (fun x2 σ1 => (x2 = 0 → w_X5_addToBook_J32 Post x2 (0 : Int32) ((σ1 36 2)) σ1) ∧ (¬ x2 = 0 → w_X5_addToBook_J32 Post x2 (1 : Int32) ((σ1 36 2)) σ1))
set_option maxHeartbeats 4000000 in
set_option maxRecDepth 100000 in
theorem b_X5_addToBook_J32 {Y : CY} {Z : CZ} (C : cx SC 4 Y Z cX5_addToBook RX5 wsX5_addToBook (some .boolean) rmX5_addToBook) {Post : Int32 → St → Prop} (hQ : Qi SC Y Z Post)  (v3 : Int32) (s0 : Int32) (s1 : Int32) (σ : St) (h : w_X5_addToBook_J32  Post v3 s0 s1 σ) : WW SC 4 Y Z σ 32 [(3, .int v3)] [.int s0, .int s1, .ref (qa Y 36)] := by
  unfold w_X5_addToBook_J32 at h
  refine q_iadd C dX5_addToBook_32 ?_
  refine q_puti (T := TX5) C kC36 iC36 inX5_addToBook_X5 rfl tyX5 tyX5_ok nmX5 2 (by decide) (List.mem_of_getElem? (i := 3) rfl) (fun _ h9 => h9) rfl dgC36 rfl (ni_n _) (ni_f _) dX5_addToBook_33 ?_
  refine q_nmS (fun σ4 eσ4 => ?_)
  replace h := h σ4 eσ4
  refine q_iload_n C 0 dX5_addToBook_36 rfl ?_
  exact q_zret C hQ (zb_n h.1) dX5_addToBook_37 h.2
set_option maxHeartbeats 4000000 in
set_option maxRecDepth 100000 in
theorem b_X5_addToBook {Y : CY} {Z : CZ} (C : cx SC 4 Y Z cX5_addToBook RX5 wsX5_addToBook (some .boolean) rmX5_addToBook) {Post : Int32 → St → Prop} (hQ : Qi SC Y Z Post)  (p1 : Int32) (p2 : Int32) (σ : St) (h : w_X5_addToBook p1 p2 σ Post) : WW SC 4 Y Z σ 0 [(0, .ref (qa Y 36)), (1, .int p1), (2, .int p2)] [] := by
  unfold w_X5_addToBook at h
  refine q_aload_n C 0 dX5_addToBook_0 rfl ?_
  refine q_getr (T := TX5) C kC36 iC36 inX5_addToBook_X5 rfl 7 (by decide) (List.mem_of_getElem? (i := 1) rfl) (fun _ h9 => h9) rfl dX5_addToBook_1 ?_
  refine q_aload_n C 0 dX5_addToBook_4 rfl ?_
  refine q_getr (T := TX5) C kC36 iC36 inX5_addToBook_X5 rfl 8 (by decide) (List.mem_of_getElem? (i := 2) rfl) (fun _ h9 => h9) rfl dX5_addToBook_5 ?_
  refine q_aload_n C 0 dX5_addToBook_8 rfl ?_
  refine q_geti (T := TX5) C kC36 iC36 inX5_addToBook_X5 rfl 2 (by decide) (List.mem_of_getElem? (i := 3) rfl) (fun _ h9 => h9) rfl dX5_addToBook_9 ?_
  refine q_iload_n C 1 dX5_addToBook_12 rfl ?_
  refine q_iload_n C 2 dX5_addToBook_13 rfl ?_
  refine q_callSi (As := [.ref (qa Y 41), .ref (qa Y 42), .int (σ 36 2), .int p1, .int p2]) (st := []) C (c_X5_putPair Y kC41 iC41 kC42 iC42 ((σ 36 2)) p1 p2 σ _ h) gX5_addToBook_X5_putPair rfl nkX5_putPair rmOk_X5_addToBook__X5_putPair rfl (Nat.le_of_ble_eq_true rfl) dX5_addToBook_14 rfl (fun x2 σ1 h => ?_)
  refine q_istore_n C [(3, .int x2), (0, .ref (qa Y 36)), (1, .int p1), (2, .int p2)] dX5_addToBook_17 (by decide) rfl ?_
  refine q_aload_n C 1 dX5_addToBook_18 rfl ?_
  refine q_dup C dX5_addToBook_19 rfl ?_
  refine q_geti (T := TX5) C kC36 iC36 inX5_addToBook_X5 rfl 2 (by decide) (List.mem_of_getElem? (i := 3) rfl) (fun _ h9 => h9) rfl dX5_addToBook_20 ?_
  refine q_iload_n C 0 dX5_addToBook_23 rfl ?_
  refine q_if_eq C 31 dX5_addToBook_24 (by decide) (fun c3 => ?_) (fun c3 => ?_)
  · replace h := h.1 c3
    refine q_iconst (v := (0 : Int32)) C dX5_addToBook_31 (by decide) ?_
    refine q_sub (lv' := [(3, .int x2)]) [0] rfl ?_
    exact b_X5_addToBook_J32 C hQ x2 (0 : Int32) ((σ1 36 2)) σ1 h
  · replace h := h.2 c3
    refine q_iconst (v := (1 : Int32)) C dX5_addToBook_27 (by decide) ?_
    refine q_goto C 32 dX5_addToBook_28 (by decide) ?_
    refine q_sub (lv' := [(3, .int x2)]) [0] rfl ?_
    exact b_X5_addToBook_J32 C hQ x2 (1 : Int32) ((σ1 36 2)) σ1 h
theorem c_X5_addToBook (Y : CY)  (p1 : Int32) (p2 : Int32) (σ : St) (Post : Int32 → St → Prop) (h : w_X5_addToBook p1 p2 σ Post) : Ki SC Y yX5_addToBook wsX5_addToBook rmX5_addToBook [.ref (qa Y 36), .int p1, .int p2] σ Post :=
  Ki_of (cc := cX5_addToBook) (nL := 4) (ret := (some .boolean)) (by decide +kernel) rfl (Nat.le_of_ble_eq_true rfl) (fun Z C hQ => b_X5_addToBook C hQ  p1 p2 σ h)
abbrev rmX5_clear : Room := { frames := 0, cells := 0, slots := 0, locals := 0 }
theorem nkX5_clear : NmOk yX5_clear 0 := by decide +kernel
theorem inX5_clear_X5 : ∀ w ∈ u_ws RX5 TX5 9, w ∈ wsX5_clear := fun _ h => List.mem_cons_of_mem _ (List.mem_append_right _ h)
def w_X5_clear (σ : St) (Post : St → Prop) : Prop := ∀ σ1 : St, σ1 = up σ 36 0 (0 : Int32) → ∀ σ2 : St, σ2 = up σ1 36 1 (0 : Int32) → ∀ σ3 : St, σ3 = up σ2 36 2 (0 : Int32) → Post σ3
set_option maxHeartbeats 4000000 in
set_option maxRecDepth 100000 in
theorem b_X5_clear {Y : CY} {Z : CZ} (C : cx SC 1 Y Z cX5_clear RX5 wsX5_clear none rmX5_clear) {Post : St → Prop} (hQ : Qv SC Y Z Post)  (σ : St) (h : w_X5_clear  σ Post) : WW SC 1 Y Z σ 0 [(0, .ref (qa Y 36))] [] := by
  unfold w_X5_clear at h
  refine q_aload_n C 0 dX5_clear_0 rfl ?_
  refine q_iconst (v := (0 : Int32)) C dX5_clear_1 (by decide) ?_
  refine q_puti (T := TX5) C kC36 iC36 inX5_clear_X5 rfl tyX5 tyX5_ok nmX5 0 (by decide) (List.mem_of_getElem? (i := 1) rfl) (fun _ h9 => h9) rfl dgC36 rfl (ni_n _) (ni_f _) dX5_clear_2 ?_
  refine q_nmS (fun σ1 eσ1 => ?_)
  replace h := h σ1 eσ1
  refine q_aload_n C 0 dX5_clear_5 rfl ?_
  refine q_iconst (v := (0 : Int32)) C dX5_clear_6 (by decide) ?_
  refine q_puti (T := TX5) C kC36 iC36 inX5_clear_X5 rfl tyX5 tyX5_ok nmX5 1 (by decide) (List.mem_of_getElem? (i := 2) rfl) (fun _ h9 => h9) rfl dgC36 rfl (ni_n _) (ni_f _) dX5_clear_7 ?_
  refine q_nmS (fun σ2 eσ2 => ?_)
  replace h := h σ2 eσ2
  refine q_aload_n C 0 dX5_clear_10 rfl ?_
  refine q_iconst (v := (0 : Int32)) C dX5_clear_11 (by decide) ?_
  refine q_puti (T := TX5) C kC36 iC36 inX5_clear_X5 rfl tyX5 tyX5_ok nmX5 2 (by decide) (List.mem_of_getElem? (i := 3) rfl) (fun _ h9 => h9) rfl dgC36 rfl (ni_n _) (ni_f _) dX5_clear_12 ?_
  refine q_nmS (fun σ3 eσ3 => ?_)
  replace h := h σ3 eσ3
  exact q_vret C hQ dX5_clear_15 h
theorem c_X5_clear (Y : CY)  (σ : St) (Post : St → Prop) (h : w_X5_clear  σ Post) : Kv SC Y yX5_clear wsX5_clear rmX5_clear [.ref (qa Y 36)] σ Post :=
  Kv_of (cc := cX5_clear) (nL := 1) (ret := none) (by decide +kernel) rfl (Nat.le_of_ble_eq_true rfl) (fun Z C hQ => b_X5_clear C hQ  σ h)
abbrev rmX5_entryAt : Room := { frames := 0, cells := 0, slots := 0, locals := 0 }
theorem nkX5_entryAt : NmOk yX5_entryAt 2 := by decide +kernel
def w_X5_entryAt (a1 : Nat) (L1 : Nat) (p2 : Int32) (σ : St) (Post : Int32 → St → Prop) : Prop := (p2 < 0 → Post (0 : Int32) σ) ∧ (¬ p2 < 0 → ((nI L1) ≤ p2 → Post (0 : Int32) σ) ∧ (¬ (nI L1) ≤ p2 → (vp_in p2 L1) ∧ (Post ((σ a1 p2.toNatClampNeg)) σ)))
set_option maxHeartbeats 4000000 in
set_option maxRecDepth 100000 in
theorem b_X5_entryAt {Y : CY} {Z : CZ} (C : cx SC 2 Y Z cX5_entryAt RX5 wsX5_entryAt (some .int) rmX5_entryAt) {Post : Int32 → St → Prop} (hQ : Qi SC Y Z Post) {a1 L1 : Nat} (k_a1 : SC.1 a1 = .inl (0, L1)) (i_a1 : a1 < SC.2) (p2 : Int32) (σ : St) (h : w_X5_entryAt a1 L1 p2 σ Post) : WW SC 2 Y Z σ 0 [(0, .ref (qa Y a1)), (1, .int p2)] [] := by
  unfold w_X5_entryAt at h
  refine q_iload_n C 1 dX5_entryAt_0 rfl ?_
  refine q_if_lt C 16 dX5_entryAt_1 (by decide) (fun c1 => ?_) (fun c1 => ?_)
  · replace h := h.1 c1
    refine q_iconst (v := (0 : Int32)) C dX5_entryAt_16 (by decide) ?_
    exact q_iret C hQ dX5_entryAt_17 h
  · replace h := h.2 c1
    refine q_iload_n C 1 dX5_entryAt_4 rfl ?_
    refine q_aload_n C 0 dX5_entryAt_5 rfl ?_
    refine q_alen C k_a1 i_a1 dX5_entryAt_6 ?_
    refine q_icmp_ge C 16 dX5_entryAt_7 (by decide) (fun c2 => ?_) (fun c2 => ?_)
    · replace h := h.1 c2
      refine q_iconst (v := (0 : Int32)) C dX5_entryAt_16 (by decide) ?_
      exact q_iret C hQ dX5_entryAt_17 h
    · replace h := h.2 c2
      refine q_aload_n C 0 dX5_entryAt_10 rfl ?_
      refine q_iload_n C 1 dX5_entryAt_11 rfl ?_
      obtain ⟨g3, h⟩ := h
      refine q_iald C k_a1 i_a1 g3 dX5_entryAt_12 ?_
      refine q_goto C 17 dX5_entryAt_13 (by decide) ?_
      exact q_iret C hQ dX5_entryAt_17 h
theorem c_X5_entryAt (Y : CY) {a1 L1 : Nat} (k_a1 : SC.1 a1 = .inl (0, L1)) (i_a1 : a1 < SC.2) (p2 : Int32) (σ : St) (Post : Int32 → St → Prop) (h : w_X5_entryAt a1 L1 p2 σ Post) : Ki SC Y yX5_entryAt wsX5_entryAt rmX5_entryAt [.ref (qa Y a1), .int p2] σ Post :=
  Ki_of (cc := cX5_entryAt) (nL := 2) (ret := (some .int)) (by decide +kernel) rfl (Nat.le_of_ble_eq_true rfl) (fun Z C hQ => b_X5_entryAt C hQ k_a1 i_a1 p2 σ h)
abbrev rmX5_firstWrong : Room := { frames := 1, cells := 0, slots := 0, locals := 21 }
theorem nkX5_firstWrong : NmOk yX5_firstWrong 2 := by decide +kernel
theorem rmOk_X5_firstWrong__X5_entryAt : RmOk rmX5_entryAt rmX5_firstWrong 2 := ⟨rfl, rfl, by decide, by decide⟩
theorem inX5_firstWrong_X5 : ∀ w ∈ u_ws RX5 TX5 9, w ∈ wsX5_firstWrong := fun _ h => List.mem_cons_of_mem _ (List.mem_append_right _ h)
def w_X5_firstWrong_B2 (Post : Int32 → St → Prop) (K2 : Int32 → Int32 → Int32 → St → Prop) (v1 : Int32) (v2 : Int32) (v3 : Int32) (σ : St) : Prop := ((σ 36 2) ≤ v3 → Post (-1 : Int32) σ) ∧ (¬ (σ 36 2) ≤ v3 → w_X5_entryAt 41 15 v3 σ (fun x3 σ2 => (¬ x3 = v1 → Post v3 σ2) ∧ (x3 = v1 → w_X5_entryAt 42 15 v3 σ2 (fun x6 σ5 => (x6 = v2 → ∀ x8 : Int32, x8 = v3 + (1 : Int32) → K2 v1 v2 x8 σ5) ∧ (¬ x6 = v2 → Post v3 σ5)))))
def w_X5_firstWrong_L2 (Post : Int32 → St → Prop) : Nat → Int32 → Int32 → Int32 → St → Prop
  | 0 => fun _ _ _ _ => False
  | n + 1 => w_X5_firstWrong_B2   Post (w_X5_firstWrong_L2   Post n)
def w_X5_firstWrong (p1 : Int32) (p2 : Int32) (σ : St) (Post : Int32 → St → Prop) : Prop := w_X5_firstWrong_L2 Post FU p1 p2 (0 : Int32) σ
set_option maxHeartbeats 4000000 in
set_option maxRecDepth 100000 in
theorem b_X5_firstWrong_B2 {Y : CY} {Z : CZ} (C : cx SC 4 Y Z cX5_firstWrong RX5 wsX5_firstWrong (some .int) rmX5_firstWrong) {Post : Int32 → St → Prop} (hQ : Qi SC Y Z Post)  {K2 : Int32 → Int32 → Int32 → St → Prop} (hK2 : ∀ (v1 : Int32) (v2 : Int32) (v3 : Int32) (σ : St), K2 v1 v2 v3 σ → WW SC 4 Y Z σ 2 [(0, .ref (qa Y 36)), (1, .int v1), (2, .int v2), (3, .int v3)] []) (v1 : Int32) (v2 : Int32) (v3 : Int32) (σ : St) (h : w_X5_firstWrong_B2  Post K2 v1 v2 v3 σ) : WW SC 4 Y Z σ 2 [(0, .ref (qa Y 36)), (1, .int v1), (2, .int v2), (3, .int v3)] [] := by
  unfold w_X5_firstWrong_B2 at h
  refine q_iload_n C 3 dX5_firstWrong_2 rfl ?_
  refine q_aload_n C 0 dX5_firstWrong_3 rfl ?_
  refine q_geti (T := TX5) C kC36 iC36 inX5_firstWrong_X5 rfl 2 (by decide) (List.mem_of_getElem? (i := 1) rfl) (fun _ h9 => h9) rfl dX5_firstWrong_4 ?_
  refine q_icmp_ge C 42 dX5_firstWrong_7 (by decide) (fun c1 => ?_) (fun c1 => ?_)
  · replace h := h.1 c1
    refine q_iconst (v := (-1 : Int32)) C dX5_firstWrong_42 (by decide) ?_
    exact q_iret C hQ dX5_firstWrong_43 h
  · replace h := h.2 c1
    refine q_aload_n C 0 dX5_firstWrong_10 rfl ?_
    refine q_getr (T := TX5) C kC36 iC36 inX5_firstWrong_X5 rfl 7 (by decide) (List.mem_of_getElem? (i := 2) rfl) (fun _ h9 => h9) rfl dX5_firstWrong_11 ?_
    refine q_iload_n C 3 dX5_firstWrong_14 rfl ?_
    refine q_callSi (As := [.ref (qa Y 41), .int v3]) (st := []) C (c_X5_entryAt Y kC41 iC41 v3 σ _ h) gX5_firstWrong_X5_entryAt rfl nkX5_entryAt rmOk_X5_firstWrong__X5_entryAt rfl (Nat.le_of_ble_eq_true rfl) dX5_firstWrong_15 rfl (fun x3 σ2 h => ?_)
    refine q_iload_n C 1 dX5_firstWrong_18 rfl ?_
    refine q_icmp_ne C 34 dX5_firstWrong_19 (by decide) (fun c4 => ?_) (fun c4 => ?_)
    · replace h := h.1 c4
      refine q_iload_n C 3 dX5_firstWrong_34 rfl ?_
      exact q_iret C hQ dX5_firstWrong_35 h
    · replace h := h.2 c4
      refine q_aload_n C 0 dX5_firstWrong_22 rfl ?_
      refine q_getr (T := TX5) C kC36 iC36 inX5_firstWrong_X5 rfl 8 (by decide) (List.mem_of_getElem? (i := 3) rfl) (fun _ h9 => h9) rfl dX5_firstWrong_23 ?_
      refine q_iload_n C 3 dX5_firstWrong_26 rfl ?_
      refine q_callSi (As := [.ref (qa Y 42), .int v3]) (st := []) C (c_X5_entryAt Y kC42 iC42 v3 σ2 _ h) gX5_firstWrong_X5_entryAt rfl nkX5_entryAt rmOk_X5_firstWrong__X5_entryAt rfl (Nat.le_of_ble_eq_true rfl) dX5_firstWrong_27 rfl (fun x6 σ5 h => ?_)
      refine q_iload_n C 2 dX5_firstWrong_30 rfl ?_
      refine q_icmp_eq C 36 dX5_firstWrong_31 (by decide) (fun c7 => ?_) (fun c7 => ?_)
      · replace h := h.1 c7
        obtain ⟨x8, ex8⟩ : ∃ y : Int32, y = v3 + (1 : Int32) := ⟨_, rfl⟩
        replace h := h x8 ex8
        refine q_iinc C x8 3 [(3, .int x8), (0, .ref (qa Y 36)), (1, .int v1), (2, .int v2)] dX5_firstWrong_36 rfl (by rw [ex8]; rfl) (by decide) rfl ?_
        refine q_goto C 2 dX5_firstWrong_39 (by decide) ?_
        refine q_sub (lv' := [(0, .ref (qa Y 36)), (1, .int v1), (2, .int v2), (3, .int x8)]) [1, 2, 3, 0] rfl ?_
        exact hK2 v1 v2 x8 σ5 h
      · replace h := h.2 c7
        refine q_iload_n C 3 dX5_firstWrong_34 rfl ?_
        exact q_iret C hQ dX5_firstWrong_35 h
theorem b_X5_firstWrong_L2 {Y : CY} {Z : CZ} (C : cx SC 4 Y Z cX5_firstWrong RX5 wsX5_firstWrong (some .int) rmX5_firstWrong) {Post : Int32 → St → Prop} (hQ : Qi SC Y Z Post)  : ∀ (n : Nat) (v1 : Int32) (v2 : Int32) (v3 : Int32) (σ : St) (h : w_X5_firstWrong_L2  Post n v1 v2 v3 σ), WW SC 4 Y Z σ 2 [(0, .ref (qa Y 36)), (1, .int v1), (2, .int v2), (3, .int v3)] [] := by
  intro n
  induction n with
  | zero => intro v1 v2 v3 σ h; exact h.elim
  | succ n ih => intro v1 v2 v3 σ h; exact b_X5_firstWrong_B2 C hQ  ih v1 v2 v3 σ h
set_option maxHeartbeats 4000000 in
set_option maxRecDepth 100000 in
theorem b_X5_firstWrong {Y : CY} {Z : CZ} (C : cx SC 4 Y Z cX5_firstWrong RX5 wsX5_firstWrong (some .int) rmX5_firstWrong) {Post : Int32 → St → Prop} (hQ : Qi SC Y Z Post)  (p1 : Int32) (p2 : Int32) (σ : St) (h : w_X5_firstWrong p1 p2 σ Post) : WW SC 4 Y Z σ 0 [(0, .ref (qa Y 36)), (1, .int p1), (2, .int p2)] [] := by
  unfold w_X5_firstWrong at h
  refine q_iconst (v := (0 : Int32)) C dX5_firstWrong_0 (by decide) ?_
  refine q_istore_n C [(3, .int (0 : Int32)), (0, .ref (qa Y 36)), (1, .int p1), (2, .int p2)] dX5_firstWrong_1 (by decide) rfl ?_
  refine q_sub (lv' := [(0, .ref (qa Y 36)), (1, .int p1), (2, .int p2), (3, .int (0 : Int32))]) [1, 2, 3, 0] rfl ?_
  exact b_X5_firstWrong_L2 C hQ FU p1 p2 (0 : Int32) σ h
theorem c_X5_firstWrong (Y : CY)  (p1 : Int32) (p2 : Int32) (σ : St) (Post : Int32 → St → Prop) (h : w_X5_firstWrong p1 p2 σ Post) : Ki SC Y yX5_firstWrong wsX5_firstWrong rmX5_firstWrong [.ref (qa Y 36), .int p1, .int p2] σ Post :=
  Ki_of (cc := cX5_firstWrong) (nL := 4) (ret := (some .int)) (by decide +kernel) rfl (Nat.le_of_ble_eq_true rfl) (fun Z C hQ => b_X5_firstWrong C hQ  p1 p2 σ h)
abbrev rmX5_placeOf : Room := { frames := 0, cells := 0, slots := 0, locals := 0 }
theorem nkX5_placeOf : NmOk yX5_placeOf 2 := by decide +kernel
def w_X5_placeOf (p1 : Int32) (p2 : Int32) (σ : St) (Post : Int32 → St → Prop) : Prop := (p2 ≤ 0 → Post (0 : Int32) σ) ∧ (¬ p2 ≤ 0 → (¬ p2 = 0) ∧ (Post ((p1 - p1 / p2 * p2)) σ))
set_option maxHeartbeats 4000000 in
set_option maxRecDepth 100000 in
theorem b_X5_placeOf {Y : CY} {Z : CZ} (C : cx SC 2 Y Z cX5_placeOf RX5 wsX5_placeOf (some .int) rmX5_placeOf) {Post : Int32 → St → Prop} (hQ : Qi SC Y Z Post)  (p1 : Int32) (p2 : Int32) (σ : St) (h : w_X5_placeOf p1 p2 σ Post) : WW SC 2 Y Z σ 0 [(0, .int p1), (1, .int p2)] [] := by
  unfold w_X5_placeOf at h
  refine q_iload_n C 1 dX5_placeOf_0 rfl ?_
  refine q_if_le C 10 dX5_placeOf_1 (by decide) (fun c1 => ?_) (fun c1 => ?_)
  · replace h := h.1 c1
    refine q_iconst (v := (0 : Int32)) C dX5_placeOf_10 (by decide) ?_
    exact q_iret C hQ dX5_placeOf_11 h
  · replace h := h.2 c1
    refine q_iload_n C 0 dX5_placeOf_4 rfl ?_
    refine q_iload_n C 1 dX5_placeOf_5 rfl ?_
    obtain ⟨g2, h⟩ := h
    refine q_irem C dX5_placeOf_6 g2 ?_
    refine q_goto C 11 dX5_placeOf_7 (by decide) ?_
    exact q_iret C hQ dX5_placeOf_11 h
theorem c_X5_placeOf (Y : CY)  (p1 : Int32) (p2 : Int32) (σ : St) (Post : Int32 → St → Prop) (h : w_X5_placeOf p1 p2 σ Post) : Ki SC Y yX5_placeOf wsX5_placeOf rmX5_placeOf [.int p1, .int p2] σ Post :=
  Ki_of (cc := cX5_placeOf) (nL := 2) (ret := (some .int)) (by decide +kernel) rfl (Nat.le_of_ble_eq_true rfl) (fun Z C hQ => b_X5_placeOf C hQ  p1 p2 σ h)
abbrev rmX5_hasSeenPlaceOf : Room := { frames := 1, cells := 0, slots := 0, locals := 21 }
theorem nkX5_hasSeenPlaceOf : NmOk yX5_hasSeenPlaceOf 2 := by decide +kernel
theorem rmOk_X5_hasSeenPlaceOf__X5_entryAt : RmOk rmX5_entryAt rmX5_hasSeenPlaceOf 2 := ⟨rfl, rfl, by decide, by decide⟩
theorem rmOk_X5_hasSeenPlaceOf__X5_placeOf : RmOk rmX5_placeOf rmX5_hasSeenPlaceOf 2 := ⟨rfl, rfl, by decide, by decide⟩
theorem inX5_hasSeenPlaceOf_X5 : ∀ w ∈ u_ws RX5 TX5 9, w ∈ wsX5_hasSeenPlaceOf := fun _ h => List.mem_cons_of_mem _ (List.mem_append_right _ h)
def w_X5_hasSeenPlaceOf_B2 (Post : Int32 → St → Prop) (K2 : Int32 → Int32 → Int32 → St → Prop) (v1 : Int32) (v2 : Int32) (v3 : Int32) (σ : St) : Prop := ((σ 36 0) ≤ v3 → Post (0 : Int32) σ) ∧ (¬ (σ 36 0) ≤ v3 → w_X5_entryAt 37 10 v3 σ (fun x3 σ2 => w_X5_placeOf x3 v2 σ2 (fun x5 σ4 => w_X5_placeOf v1 v2 σ4 (fun x7 σ6 => (¬ x5 = x7 → ∀ x9 : Int32, x9 = v3 + (1 : Int32) → K2 v1 v2 x9 σ6) ∧ (x5 = x7 → Post (1 : Int32) σ6)))))
def w_X5_hasSeenPlaceOf_L2 (Post : Int32 → St → Prop) : Nat → Int32 → Int32 → Int32 → St → Prop
  | 0 => fun _ _ _ _ => False
  | n + 1 => w_X5_hasSeenPlaceOf_B2   Post (w_X5_hasSeenPlaceOf_L2   Post n)
def w_X5_hasSeenPlaceOf (p1 : Int32) (p2 : Int32) (σ : St) (Post : Int32 → St → Prop) : Prop := w_X5_hasSeenPlaceOf_L2 Post FU p1 p2 (0 : Int32) σ
set_option maxHeartbeats 4000000 in
set_option maxRecDepth 100000 in
theorem b_X5_hasSeenPlaceOf_B2 {Y : CY} {Z : CZ} (C : cx SC 4 Y Z cX5_hasSeenPlaceOf RX5 wsX5_hasSeenPlaceOf (some .boolean) rmX5_hasSeenPlaceOf) {Post : Int32 → St → Prop} (hQ : Qi SC Y Z Post)  {K2 : Int32 → Int32 → Int32 → St → Prop} (hK2 : ∀ (v1 : Int32) (v2 : Int32) (v3 : Int32) (σ : St), K2 v1 v2 v3 σ → WW SC 4 Y Z σ 2 [(0, .ref (qa Y 36)), (1, .int v1), (2, .int v2), (3, .int v3)] []) (v1 : Int32) (v2 : Int32) (v3 : Int32) (σ : St) (h : w_X5_hasSeenPlaceOf_B2  Post K2 v1 v2 v3 σ) : WW SC 4 Y Z σ 2 [(0, .ref (qa Y 36)), (1, .int v1), (2, .int v2), (3, .int v3)] [] := by
  unfold w_X5_hasSeenPlaceOf_B2 at h
  refine q_iload_n C 3 dX5_hasSeenPlaceOf_2 rfl ?_
  refine q_aload_n C 0 dX5_hasSeenPlaceOf_3 rfl ?_
  refine q_geti (T := TX5) C kC36 iC36 inX5_hasSeenPlaceOf_X5 rfl 0 (by decide) (List.mem_of_getElem? (i := 1) rfl) (fun _ h9 => h9) rfl dX5_hasSeenPlaceOf_4 ?_
  refine q_icmp_ge C 38 dX5_hasSeenPlaceOf_7 (by decide) (fun c1 => ?_) (fun c1 => ?_)
  · replace h := h.1 c1
    refine q_iconst (v := (0 : Int32)) C dX5_hasSeenPlaceOf_38 (by decide) ?_
    exact q_zret C hQ (zb_n (by decide)) dX5_hasSeenPlaceOf_39 h
  · replace h := h.2 c1
    refine q_aload_n C 0 dX5_hasSeenPlaceOf_10 rfl ?_
    refine q_getr (T := TX5) C kC36 iC36 inX5_hasSeenPlaceOf_X5 rfl 3 (by decide) (List.mem_of_getElem? (i := 2) rfl) (fun _ h9 => h9) rfl dX5_hasSeenPlaceOf_11 ?_
    refine q_iload_n C 3 dX5_hasSeenPlaceOf_14 rfl ?_
    refine q_callSi (As := [.ref (qa Y 37), .int v3]) (st := []) C (c_X5_entryAt Y kC37 iC37 v3 σ _ h) gX5_hasSeenPlaceOf_X5_entryAt rfl nkX5_entryAt rmOk_X5_hasSeenPlaceOf__X5_entryAt rfl (Nat.le_of_ble_eq_true rfl) dX5_hasSeenPlaceOf_15 rfl (fun x3 σ2 h => ?_)
    refine q_iload_n C 2 dX5_hasSeenPlaceOf_18 rfl ?_
    refine q_callSi (As := [.int x3, .int v2]) (st := []) C (c_X5_placeOf Y x3 v2 σ2 _ h) gX5_hasSeenPlaceOf_X5_placeOf rfl nkX5_placeOf rmOk_X5_hasSeenPlaceOf__X5_placeOf rfl (Nat.le_of_ble_eq_true rfl) dX5_hasSeenPlaceOf_19 rfl (fun x5 σ4 h => ?_)
    refine q_iload_n C 1 dX5_hasSeenPlaceOf_22 rfl ?_
    refine q_iload_n C 2 dX5_hasSeenPlaceOf_23 rfl ?_
    refine q_callSi (As := [.int v1, .int v2]) (st := [.int x5]) C (c_X5_placeOf Y v1 v2 σ4 _ h) gX5_hasSeenPlaceOf_X5_placeOf rfl nkX5_placeOf rmOk_X5_hasSeenPlaceOf__X5_placeOf rfl (Nat.le_of_ble_eq_true rfl) dX5_hasSeenPlaceOf_24 rfl (fun x7 σ6 h => ?_)
    refine q_icmp_ne C 32 dX5_hasSeenPlaceOf_27 (by decide) (fun c8 => ?_) (fun c8 => ?_)
    · replace h := h.1 c8
      obtain ⟨x9, ex9⟩ : ∃ y : Int32, y = v3 + (1 : Int32) := ⟨_, rfl⟩
      replace h := h x9 ex9
      refine q_iinc C x9 3 [(3, .int x9), (0, .ref (qa Y 36)), (1, .int v1), (2, .int v2)] dX5_hasSeenPlaceOf_32 rfl (by rw [ex9]; rfl) (by decide) rfl ?_
      refine q_goto C 2 dX5_hasSeenPlaceOf_35 (by decide) ?_
      refine q_sub (lv' := [(0, .ref (qa Y 36)), (1, .int v1), (2, .int v2), (3, .int x9)]) [1, 2, 3, 0] rfl ?_
      exact hK2 v1 v2 x9 σ6 h
    · replace h := h.2 c8
      refine q_iconst (v := (1 : Int32)) C dX5_hasSeenPlaceOf_30 (by decide) ?_
      exact q_zret C hQ (zb_n (by decide)) dX5_hasSeenPlaceOf_31 h
theorem b_X5_hasSeenPlaceOf_L2 {Y : CY} {Z : CZ} (C : cx SC 4 Y Z cX5_hasSeenPlaceOf RX5 wsX5_hasSeenPlaceOf (some .boolean) rmX5_hasSeenPlaceOf) {Post : Int32 → St → Prop} (hQ : Qi SC Y Z Post)  : ∀ (n : Nat) (v1 : Int32) (v2 : Int32) (v3 : Int32) (σ : St) (h : w_X5_hasSeenPlaceOf_L2  Post n v1 v2 v3 σ), WW SC 4 Y Z σ 2 [(0, .ref (qa Y 36)), (1, .int v1), (2, .int v2), (3, .int v3)] [] := by
  intro n
  induction n with
  | zero => intro v1 v2 v3 σ h; exact h.elim
  | succ n ih => intro v1 v2 v3 σ h; exact b_X5_hasSeenPlaceOf_B2 C hQ  ih v1 v2 v3 σ h
set_option maxHeartbeats 4000000 in
set_option maxRecDepth 100000 in
theorem b_X5_hasSeenPlaceOf {Y : CY} {Z : CZ} (C : cx SC 4 Y Z cX5_hasSeenPlaceOf RX5 wsX5_hasSeenPlaceOf (some .boolean) rmX5_hasSeenPlaceOf) {Post : Int32 → St → Prop} (hQ : Qi SC Y Z Post)  (p1 : Int32) (p2 : Int32) (σ : St) (h : w_X5_hasSeenPlaceOf p1 p2 σ Post) : WW SC 4 Y Z σ 0 [(0, .ref (qa Y 36)), (1, .int p1), (2, .int p2)] [] := by
  unfold w_X5_hasSeenPlaceOf at h
  refine q_iconst (v := (0 : Int32)) C dX5_hasSeenPlaceOf_0 (by decide) ?_
  refine q_istore_n C [(3, .int (0 : Int32)), (0, .ref (qa Y 36)), (1, .int p1), (2, .int p2)] dX5_hasSeenPlaceOf_1 (by decide) rfl ?_
  refine q_sub (lv' := [(0, .ref (qa Y 36)), (1, .int p1), (2, .int p2), (3, .int (0 : Int32))]) [1, 2, 3, 0] rfl ?_
  exact b_X5_hasSeenPlaceOf_L2 C hQ FU p1 p2 (0 : Int32) σ h
theorem c_X5_hasSeenPlaceOf (Y : CY)  (p1 : Int32) (p2 : Int32) (σ : St) (Post : Int32 → St → Prop) (h : w_X5_hasSeenPlaceOf p1 p2 σ Post) : Ki SC Y yX5_hasSeenPlaceOf wsX5_hasSeenPlaceOf rmX5_hasSeenPlaceOf [.ref (qa Y 36), .int p1, .int p2] σ Post :=
  Ki_of (cc := cX5_hasSeenPlaceOf) (nL := 4) (ret := (some .boolean)) (by decide +kernel) rfl (Nat.le_of_ble_eq_true rfl) (fun Z C hQ => b_X5_hasSeenPlaceOf C hQ  p1 p2 σ h)
abbrev rmX5_isAxisFit : Room := { frames := 1, cells := 0, slots := 0, locals := 21 }
theorem nkX5_isAxisFit : NmOk yX5_isAxisFit 1 := by decide +kernel
theorem rmOk_X5_isAxisFit__X5_entryAt : RmOk rmX5_entryAt rmX5_isAxisFit 2 := ⟨rfl, rfl, by decide, by decide⟩
theorem inX5_isAxisFit_X5 : ∀ w ∈ u_ws RX5 TX5 9, w ∈ wsX5_isAxisFit := fun _ h => List.mem_cons_of_mem _ (List.mem_append_right _ h)
def w_X5_isAxisFit_B2 (Post : Int32 → St → Prop) (K2 : Int32 → Int32 → St → Prop) (v1 : Int32) (v2 : Int32) (σ : St) : Prop := ((σ 36 1) ≤ v2 → Post (1 : Int32) σ) ∧ (¬ (σ 36 1) ≤ v2 → w_X5_entryAt 39 6 v2 σ (fun x3 σ2 => w_X5_entryAt 40 6 v2 σ2 (fun x5 σ4 => ((v1 * x3) = x5 → ∀ x7 : Int32, x7 = v2 + (1 : Int32) → K2 v1 x7 σ4) ∧ (¬ (v1 * x3) = x5 → Post (0 : Int32) σ4))))
def w_X5_isAxisFit_L2 (Post : Int32 → St → Prop) : Nat → Int32 → Int32 → St → Prop
  | 0 => fun _ _ _ => False
  | n + 1 => w_X5_isAxisFit_B2   Post (w_X5_isAxisFit_L2   Post n)
def w_X5_isAxisFit (p1 : Int32) (σ : St) (Post : Int32 → St → Prop) : Prop := w_X5_isAxisFit_L2 Post FU p1 (0 : Int32) σ
set_option maxHeartbeats 4000000 in
set_option maxRecDepth 100000 in
theorem b_X5_isAxisFit_B2 {Y : CY} {Z : CZ} (C : cx SC 3 Y Z cX5_isAxisFit RX5 wsX5_isAxisFit (some .boolean) rmX5_isAxisFit) {Post : Int32 → St → Prop} (hQ : Qi SC Y Z Post)  {K2 : Int32 → Int32 → St → Prop} (hK2 : ∀ (v1 : Int32) (v2 : Int32) (σ : St), K2 v1 v2 σ → WW SC 3 Y Z σ 2 [(0, .ref (qa Y 36)), (1, .int v1), (2, .int v2)] []) (v1 : Int32) (v2 : Int32) (σ : St) (h : w_X5_isAxisFit_B2  Post K2 v1 v2 σ) : WW SC 3 Y Z σ 2 [(0, .ref (qa Y 36)), (1, .int v1), (2, .int v2)] [] := by
  unfold w_X5_isAxisFit_B2 at h
  refine q_iload_n C 2 dX5_isAxisFit_2 rfl ?_
  refine q_aload_n C 0 dX5_isAxisFit_3 rfl ?_
  refine q_geti (T := TX5) C kC36 iC36 inX5_isAxisFit_X5 rfl 1 (by decide) (List.mem_of_getElem? (i := 1) rfl) (fun _ h9 => h9) rfl dX5_isAxisFit_4 ?_
  refine q_icmp_ge C 39 dX5_isAxisFit_7 (by decide) (fun c1 => ?_) (fun c1 => ?_)
  · replace h := h.1 c1
    refine q_iconst (v := (1 : Int32)) C dX5_isAxisFit_39 (by decide) ?_
    exact q_zret C hQ (zb_n (by decide)) dX5_isAxisFit_40 h
  · replace h := h.2 c1
    refine q_iload_n C 1 dX5_isAxisFit_10 rfl ?_
    refine q_aload_n C 0 dX5_isAxisFit_11 rfl ?_
    refine q_getr (T := TX5) C kC36 iC36 inX5_isAxisFit_X5 rfl 5 (by decide) (List.mem_of_getElem? (i := 2) rfl) (fun _ h9 => h9) rfl dX5_isAxisFit_12 ?_
    refine q_iload_n C 2 dX5_isAxisFit_15 rfl ?_
    refine q_callSi (As := [.ref (qa Y 39), .int v2]) (st := [.int v1]) C (c_X5_entryAt Y kC39 iC39 v2 σ _ h) gX5_isAxisFit_X5_entryAt rfl nkX5_entryAt rmOk_X5_isAxisFit__X5_entryAt rfl (Nat.le_of_ble_eq_true rfl) dX5_isAxisFit_16 rfl (fun x3 σ2 h => ?_)
    refine q_imul C dX5_isAxisFit_19 ?_
    refine q_aload_n C 0 dX5_isAxisFit_20 rfl ?_
    refine q_getr (T := TX5) C kC36 iC36 inX5_isAxisFit_X5 rfl 6 (by decide) (List.mem_of_getElem? (i := 3) rfl) (fun _ h9 => h9) rfl dX5_isAxisFit_21 ?_
    refine q_iload_n C 2 dX5_isAxisFit_24 rfl ?_
    refine q_callSi (As := [.ref (qa Y 40), .int v2]) (st := [.int (v1 * x3)]) C (c_X5_entryAt Y kC40 iC40 v2 σ2 _ h) gX5_isAxisFit_X5_entryAt rfl nkX5_entryAt rmOk_X5_isAxisFit__X5_entryAt rfl (Nat.le_of_ble_eq_true rfl) dX5_isAxisFit_25 rfl (fun x5 σ4 h => ?_)
    refine q_icmp_eq C 33 dX5_isAxisFit_28 (by decide) (fun c6 => ?_) (fun c6 => ?_)
    · replace h := h.1 c6
      obtain ⟨x7, ex7⟩ : ∃ y : Int32, y = v2 + (1 : Int32) := ⟨_, rfl⟩
      replace h := h x7 ex7
      refine q_iinc C x7 2 [(2, .int x7), (0, .ref (qa Y 36)), (1, .int v1)] dX5_isAxisFit_33 rfl (by rw [ex7]; rfl) (by decide) rfl ?_
      refine q_goto C 2 dX5_isAxisFit_36 (by decide) ?_
      refine q_sub (lv' := [(0, .ref (qa Y 36)), (1, .int v1), (2, .int x7)]) [1, 2, 0] rfl ?_
      exact hK2 v1 x7 σ4 h
    · replace h := h.2 c6
      refine q_iconst (v := (0 : Int32)) C dX5_isAxisFit_31 (by decide) ?_
      exact q_zret C hQ (zb_n (by decide)) dX5_isAxisFit_32 h
theorem b_X5_isAxisFit_L2 {Y : CY} {Z : CZ} (C : cx SC 3 Y Z cX5_isAxisFit RX5 wsX5_isAxisFit (some .boolean) rmX5_isAxisFit) {Post : Int32 → St → Prop} (hQ : Qi SC Y Z Post)  : ∀ (n : Nat) (v1 : Int32) (v2 : Int32) (σ : St) (h : w_X5_isAxisFit_L2  Post n v1 v2 σ), WW SC 3 Y Z σ 2 [(0, .ref (qa Y 36)), (1, .int v1), (2, .int v2)] [] := by
  intro n
  induction n with
  | zero => intro v1 v2 σ h; exact h.elim
  | succ n ih => intro v1 v2 σ h; exact b_X5_isAxisFit_B2 C hQ  ih v1 v2 σ h
set_option maxHeartbeats 4000000 in
set_option maxRecDepth 100000 in
theorem b_X5_isAxisFit {Y : CY} {Z : CZ} (C : cx SC 3 Y Z cX5_isAxisFit RX5 wsX5_isAxisFit (some .boolean) rmX5_isAxisFit) {Post : Int32 → St → Prop} (hQ : Qi SC Y Z Post)  (p1 : Int32) (σ : St) (h : w_X5_isAxisFit p1 σ Post) : WW SC 3 Y Z σ 0 [(0, .ref (qa Y 36)), (1, .int p1)] [] := by
  unfold w_X5_isAxisFit at h
  refine q_iconst (v := (0 : Int32)) C dX5_isAxisFit_0 (by decide) ?_
  refine q_istore_n C [(2, .int (0 : Int32)), (0, .ref (qa Y 36)), (1, .int p1)] dX5_isAxisFit_1 (by decide) rfl ?_
  refine q_sub (lv' := [(0, .ref (qa Y 36)), (1, .int p1), (2, .int (0 : Int32))]) [1, 2, 0] rfl ?_
  exact b_X5_isAxisFit_L2 C hQ FU p1 (0 : Int32) σ h
theorem c_X5_isAxisFit (Y : CY)  (p1 : Int32) (σ : St) (Post : Int32 → St → Prop) (h : w_X5_isAxisFit p1 σ Post) : Ki SC Y yX5_isAxisFit wsX5_isAxisFit rmX5_isAxisFit [.ref (qa Y 36), .int p1] σ Post :=
  Ki_of (cc := cX5_isAxisFit) (nL := 3) (ret := (some .boolean)) (by decide +kernel) rfl (Nat.le_of_ble_eq_true rfl) (fun Z C hQ => b_X5_isAxisFit C hQ  p1 σ h)
abbrev rmX5_isWormFit : Room := { frames := 1, cells := 0, slots := 0, locals := 21 }
theorem nkX5_isWormFit : NmOk yX5_isWormFit 4 := by decide +kernel
theorem rmOk_X5_isWormFit__X3_jumpAt : RmOk rmX3_jumpAt rmX5_isWormFit 2 := ⟨rfl, rfl, by decide, by decide⟩
theorem rmOk_X5_isWormFit__X5_entryAt : RmOk rmX5_entryAt rmX5_isWormFit 2 := ⟨rfl, rfl, by decide, by decide⟩
theorem rmOk_X5_isWormFit__X5_placeOf : RmOk rmX5_placeOf rmX5_isWormFit 2 := ⟨rfl, rfl, by decide, by decide⟩
theorem inX5_isWormFit_X3 : ∀ w ∈ u_ws RX3 TX3 12, w ∈ wsX5_isWormFit := fun _ h => List.mem_cons_of_mem _ (List.mem_append_right _ h)
theorem inX5_isWormFit_X5 : ∀ w ∈ u_ws RX5 TX5 9, w ∈ wsX5_isWormFit := fun _ h => List.mem_cons_of_mem _ (List.mem_append_left _ (List.mem_append_right _ h))
def w_X5_isWormFit_J61 (K3 : Int32 → Int32 → Int32 → Int32 → St → Prop) (Post : Int32 → St → Prop) (v2 : Int32) (v3 : Int32) (v4 : Int32) (v5 : Int32) (σ : St) : Prop := ∀ x12 : Int32, x12 = v5 + (1 : Int32) → K3 v2 v3 v4 x12 σ
def w_X5_isWormFit_B3 (Post : Int32 → St → Prop) (K3 : Int32 → Int32 → Int32 → Int32 → St → Prop) (v2 : Int32) (v3 : Int32) (v4 : Int32) (v5 : Int32) (σ : St) : Prop := ((σ 36 0) ≤ v5 → Post (1 : Int32) σ) ∧ (¬ (σ 36 0) ≤ v5 → w_X5_entryAt 37 10 v5 σ (fun x3 σ2 => w_X5_placeOf x3 v2 σ2 (fun x5 σ4 => (¬ x5 = v3 → w_X5_isWormFit_J61 K3 Post v2 v3 v4 v5 σ4) ∧ (x5 = v3 → w_X5_entryAt 38 10 v5 σ4 (fun x8 σ7 => w_X3_jumpAt x3 σ7 (fun x10 σ9 => (x8 = (((σ7 3 1) + v4) + x10) → w_X5_isWormFit_J61 K3 Post v2 v3 v4 v5 σ9) ∧ (¬ x8 = (((σ7 3 1) + v4) + x10) → Post (0 : Int32) σ9)))))))
def w_X5_isWormFit_L3 (Post : Int32 → St → Prop) : Nat → Int32 → Int32 → Int32 → Int32 → St → Prop
  | 0 => fun _ _ _ _ _ => False
  | n + 1 => w_X5_isWormFit_B3   Post (w_X5_isWormFit_L3   Post n)
def w_X5_isWormFit (p2 : Int32) (p3 : Int32) (p4 : Int32) (σ : St) (Post : Int32 → St → Prop) : Prop := w_X5_isWormFit_L3 Post FU p2 p3 p4 (0 : Int32) σ
set_option maxHeartbeats 4000000 in
set_option maxRecDepth 100000 in
theorem b_X5_isWormFit_J61 {Y : CY} {Z : CZ} (C : cx SC 7 Y Z cX5_isWormFit RX5 wsX5_isWormFit (some .boolean) rmX5_isWormFit) {Post : Int32 → St → Prop} (hQ : Qi SC Y Z Post)  {K3 : Int32 → Int32 → Int32 → Int32 → St → Prop} (hK3 : ∀ (v2 : Int32) (v3 : Int32) (v4 : Int32) (v5 : Int32) (σ : St), K3 v2 v3 v4 v5 σ → WW SC 7 Y Z σ 3 [(0, .ref (qa Y 36)), (1, .ref (qa Y 3)), (2, .int v2), (3, .int v3), (4, .int v4), (5, .int v5)] []) (v2 : Int32) (v3 : Int32) (v4 : Int32) (v5 : Int32) (σ : St) (h : w_X5_isWormFit_J61 K3 Post v2 v3 v4 v5 σ) : WW SC 7 Y Z σ 61 [(0, .ref (qa Y 36)), (1, .ref (qa Y 3)), (2, .int v2), (3, .int v3), (4, .int v4), (5, .int v5)] [] := by
  unfold w_X5_isWormFit_J61 at h
  obtain ⟨x12, ex12⟩ : ∃ y : Int32, y = v5 + (1 : Int32) := ⟨_, rfl⟩
  replace h := h x12 ex12
  refine q_iinc C x12 5 [(5, .int x12), (0, .ref (qa Y 36)), (1, .ref (qa Y 3)), (2, .int v2), (3, .int v3), (4, .int v4)] dX5_isWormFit_61 rfl (by rw [ex12]; rfl) (by decide) rfl ?_
  refine q_goto C 3 dX5_isWormFit_64 (by decide) ?_
  refine q_sub (lv' := [(0, .ref (qa Y 36)), (1, .ref (qa Y 3)), (2, .int v2), (3, .int v3), (4, .int v4), (5, .int x12)]) [1, 2, 3, 4, 5, 0] rfl ?_
  exact hK3 v2 v3 v4 x12 σ h
set_option maxHeartbeats 4000000 in
set_option maxRecDepth 100000 in
theorem b_X5_isWormFit_B3 {Y : CY} {Z : CZ} (C : cx SC 7 Y Z cX5_isWormFit RX5 wsX5_isWormFit (some .boolean) rmX5_isWormFit) {Post : Int32 → St → Prop} (hQ : Qi SC Y Z Post)  {K3 : Int32 → Int32 → Int32 → Int32 → St → Prop} (hK3 : ∀ (v2 : Int32) (v3 : Int32) (v4 : Int32) (v5 : Int32) (σ : St), K3 v2 v3 v4 v5 σ → WW SC 7 Y Z σ 3 [(0, .ref (qa Y 36)), (1, .ref (qa Y 3)), (2, .int v2), (3, .int v3), (4, .int v4), (5, .int v5)] []) (v2 : Int32) (v3 : Int32) (v4 : Int32) (v5 : Int32) (σ : St) (h : w_X5_isWormFit_B3  Post K3 v2 v3 v4 v5 σ) : WW SC 7 Y Z σ 3 [(0, .ref (qa Y 36)), (1, .ref (qa Y 3)), (2, .int v2), (3, .int v3), (4, .int v4), (5, .int v5)] [] := by
  unfold w_X5_isWormFit_B3 at h
  refine q_iload C 5 dX5_isWormFit_3 rfl ?_
  refine q_aload_n C 0 dX5_isWormFit_5 rfl ?_
  refine q_geti (T := TX5) C kC36 iC36 inX5_isWormFit_X5 rfl 0 (by decide) (List.mem_of_getElem? (i := 1) rfl) (fun _ h9 => h9) rfl dX5_isWormFit_6 ?_
  refine q_icmp_ge C 67 dX5_isWormFit_9 (by decide) (fun c1 => ?_) (fun c1 => ?_)
  · replace h := h.1 c1
    refine q_iconst (v := (1 : Int32)) C dX5_isWormFit_67 (by decide) ?_
    exact q_zret C hQ (zb_n (by decide)) dX5_isWormFit_68 h
  · replace h := h.2 c1
    refine q_aload_n C 0 dX5_isWormFit_12 rfl ?_
    refine q_getr (T := TX5) C kC36 iC36 inX5_isWormFit_X5 rfl 3 (by decide) (List.mem_of_getElem? (i := 2) rfl) (fun _ h9 => h9) rfl dX5_isWormFit_13 ?_
    refine q_iload C 5 dX5_isWormFit_16 rfl ?_
    refine q_callSi (As := [.ref (qa Y 37), .int v5]) (st := []) C (c_X5_entryAt Y kC37 iC37 v5 σ _ h) gX5_isWormFit_X5_entryAt rfl nkX5_entryAt rmOk_X5_isWormFit__X5_entryAt rfl (Nat.le_of_ble_eq_true rfl) dX5_isWormFit_18 rfl (fun x3 σ2 h => ?_)
    refine q_istore C [(6, .int x3), (0, .ref (qa Y 36)), (1, .ref (qa Y 3)), (2, .int v2), (3, .int v3), (4, .int v4), (5, .int v5)] dX5_isWormFit_21 (by decide) rfl ?_
    refine q_iload C 0 dX5_isWormFit_23 rfl ?_
    refine q_iload_n C 3 dX5_isWormFit_25 rfl ?_
    refine q_callSi (As := [.int x3, .int v2]) (st := []) C (c_X5_placeOf Y x3 v2 σ2 _ h) gX5_isWormFit_X5_placeOf rfl nkX5_placeOf rmOk_X5_isWormFit__X5_placeOf rfl (Nat.le_of_ble_eq_true rfl) dX5_isWormFit_26 rfl (fun x5 σ4 h => ?_)
    refine q_iload_n C 4 dX5_isWormFit_29 rfl ?_
    refine q_icmp_ne C 61 dX5_isWormFit_30 (by decide) (fun c6 => ?_) (fun c6 => ?_)
    · replace h := h.1 c6
      refine q_sub (lv' := [(0, .ref (qa Y 36)), (1, .ref (qa Y 3)), (2, .int v2), (3, .int v3), (4, .int v4), (5, .int v5)]) [1, 2, 3, 4, 5, 6] rfl ?_
      exact b_X5_isWormFit_J61 C hQ hK3 v2 v3 v4 v5 σ4 h
    · replace h := h.2 c6
      refine q_aload_n C 1 dX5_isWormFit_33 rfl ?_
      refine q_getr (T := TX5) C kC36 iC36 inX5_isWormFit_X5 rfl 4 (by decide) (List.mem_of_getElem? (i := 3) rfl) (fun _ h9 => h9) rfl dX5_isWormFit_34 ?_
      refine q_iload C 6 dX5_isWormFit_37 rfl ?_
      refine q_callSi (As := [.ref (qa Y 38), .int v5]) (st := []) C (c_X5_entryAt Y kC38 iC38 v5 σ4 _ h) gX5_isWormFit_X5_entryAt rfl nkX5_entryAt rmOk_X5_isWormFit__X5_entryAt rfl (Nat.le_of_ble_eq_true rfl) dX5_isWormFit_39 rfl (fun x8 σ7 h => ?_)
      refine q_aload_n C 2 dX5_isWormFit_42 rfl ?_
      refine q_geti (T := TX3) C kC3 iC3 inX5_isWormFit_X3 rfl 1 (by decide) (List.mem_of_getElem? (i := 4) rfl) (fun _ h9 => h9) rfl dX5_isWormFit_43 ?_
      refine q_iload C 5 dX5_isWormFit_46 rfl ?_
      refine q_iadd C dX5_isWormFit_48 ?_
      refine q_aload_n C 2 dX5_isWormFit_49 rfl ?_
      refine q_iload C 0 dX5_isWormFit_50 rfl ?_
      refine q_callVi (As := [.int x3]) (st := [.int ((σ7 3 1) + v4), .int x8]) C (c_X3_jumpAt Y x3 σ7 _ h) gX5_isWormFit_X3_jumpAt rfl ⟨rfl, nkX3_jumpAt⟩ rmOk_X5_isWormFit__X3_jumpAt kC3 iC3 rfl rfl (Nat.le_of_ble_eq_true rfl) dX5_isWormFit_52 rfl (fun x10 σ9 h => ?_)
      refine q_iadd C dX5_isWormFit_55 ?_
      refine q_icmp_eq C 61 dX5_isWormFit_56 (by decide) (fun c11 => ?_) (fun c11 => ?_)
      · replace h := h.1 c11
        refine q_sub (lv' := [(0, .ref (qa Y 36)), (1, .ref (qa Y 3)), (2, .int v2), (3, .int v3), (4, .int v4), (5, .int v5)]) [1, 2, 3, 4, 5, 6] rfl ?_
        exact b_X5_isWormFit_J61 C hQ hK3 v2 v3 v4 v5 σ9 h
      · replace h := h.2 c11
        refine q_iconst (v := (0 : Int32)) C dX5_isWormFit_59 (by decide) ?_
        exact q_zret C hQ (zb_n (by decide)) dX5_isWormFit_60 h
theorem b_X5_isWormFit_L3 {Y : CY} {Z : CZ} (C : cx SC 7 Y Z cX5_isWormFit RX5 wsX5_isWormFit (some .boolean) rmX5_isWormFit) {Post : Int32 → St → Prop} (hQ : Qi SC Y Z Post)  : ∀ (n : Nat) (v2 : Int32) (v3 : Int32) (v4 : Int32) (v5 : Int32) (σ : St) (h : w_X5_isWormFit_L3  Post n v2 v3 v4 v5 σ), WW SC 7 Y Z σ 3 [(0, .ref (qa Y 36)), (1, .ref (qa Y 3)), (2, .int v2), (3, .int v3), (4, .int v4), (5, .int v5)] [] := by
  intro n
  induction n with
  | zero => intro v2 v3 v4 v5 σ h; exact h.elim
  | succ n ih => intro v2 v3 v4 v5 σ h; exact b_X5_isWormFit_B3 C hQ  ih v2 v3 v4 v5 σ h
set_option maxHeartbeats 4000000 in
set_option maxRecDepth 100000 in
theorem b_X5_isWormFit {Y : CY} {Z : CZ} (C : cx SC 7 Y Z cX5_isWormFit RX5 wsX5_isWormFit (some .boolean) rmX5_isWormFit) {Post : Int32 → St → Prop} (hQ : Qi SC Y Z Post)  (p2 : Int32) (p3 : Int32) (p4 : Int32) (σ : St) (h : w_X5_isWormFit p2 p3 p4 σ Post) : WW SC 7 Y Z σ 0 [(0, .ref (qa Y 36)), (1, .ref (qa Y 3)), (2, .int p2), (3, .int p3), (4, .int p4)] [] := by
  unfold w_X5_isWormFit at h
  refine q_iconst (v := (0 : Int32)) C dX5_isWormFit_0 (by decide) ?_
  refine q_istore C [(5, .int (0 : Int32)), (0, .ref (qa Y 36)), (1, .ref (qa Y 3)), (2, .int p2), (3, .int p3), (4, .int p4)] dX5_isWormFit_1 (by decide) rfl ?_
  refine q_sub (lv' := [(0, .ref (qa Y 36)), (1, .ref (qa Y 3)), (2, .int p2), (3, .int p3), (4, .int p4), (5, .int (0 : Int32))]) [1, 2, 3, 4, 5, 0] rfl ?_
  exact b_X5_isWormFit_L3 C hQ FU p2 p3 p4 (0 : Int32) σ h
theorem c_X5_isWormFit (Y : CY)  (p2 : Int32) (p3 : Int32) (p4 : Int32) (σ : St) (Post : Int32 → St → Prop) (h : w_X5_isWormFit p2 p3 p4 σ Post) : Ki SC Y yX5_isWormFit wsX5_isWormFit rmX5_isWormFit [.ref (qa Y 36), .ref (qa Y 3), .int p2, .int p3, .int p4] σ Post :=
  Ki_of (cc := cX5_isWormFit) (nL := 7) (ret := (some .boolean)) (by decide +kernel) rfl (Nat.le_of_ble_eq_true rfl) (fun Z C hQ => b_X5_isWormFit C hQ  p2 p3 p4 σ h)
abbrev rmX5_isPeriod : Room := { frames := 2, cells := 0, slots := 0, locals := 47 }
theorem nkX5_isPeriod : NmOk yX5_isPeriod 2 := by decide +kernel
theorem rmOk_X5_isPeriod__X5_isWormFit : RmOk rmX5_isWormFit rmX5_isPeriod 7 := ⟨rfl, rfl, by decide, by decide⟩
def w_X5_isPeriod_J43 (K2 : Int32 → Int32 → St → Prop) (Post : Int32 → St → Prop) (v2 : Int32) (v3 : Int32) (v4 : Int32) (σ : St) : Prop := (¬ v4 = 0 → ∀ x8 : Int32, x8 = v3 + (1 : Int32) → K2 v2 x8 σ) ∧ (v4 = 0 → Post (0 : Int32) σ)
def w_X5_isPeriod_B14 (K2 : Int32 → Int32 → St → Prop) (Post : Int32 → St → Prop) (K14 : Int32 → Int32 → Int32 → Int32 → St → Prop) (v2 : Int32) (v3 : Int32) (v4 : Int32) (v5 : Int32) (σ : St) : Prop := ((9 : Int32) < v5 → w_X5_isPeriod_J43 K2 Post v2 v3 v4 σ) ∧ (¬ (9 : Int32) < v5 → (¬ v4 = 0 → w_X5_isPeriod_J43 K2 Post v2 v3 v4 σ) ∧ (v4 = 0 → w_X5_isWormFit v2 v3 v5 σ (fun x5 σ4 => ∀ x6 : Int32, x6 = v5 + (1 : Int32) → K14 v2 v3 x5 x6 σ4)))
def w_X5_isPeriod_L14 (K2 : Int32 → Int32 → St → Prop) (Post : Int32 → St → Prop) : Nat → Int32 → Int32 → Int32 → Int32 → St → Prop
  | 0 => fun _ _ _ _ _ => False
  | n + 1 => w_X5_isPeriod_B14  K2 Post (w_X5_isPeriod_L14  K2 Post n)
def w_X5_isPeriod_B2 (Post : Int32 → St → Prop) (K2 : Int32 → Int32 → St → Prop) (v2 : Int32) (v3 : Int32) (σ : St) : Prop := (v2 ≤ v3 → Post (1 : Int32) σ) ∧ (¬ v2 ≤ v3 → w_X5_isPeriod_L14 K2 Post FU v2 v3 (0 : Int32) (-9 : Int32) σ)
def w_X5_isPeriod_L2 (Post : Int32 → St → Prop) : Nat → Int32 → Int32 → St → Prop
  | 0 => fun _ _ _ => False
  | n + 1 => w_X5_isPeriod_B2   Post (w_X5_isPeriod_L2   Post n)
def w_X5_isPeriod (p2 : Int32) (σ : St) (Post : Int32 → St → Prop) : Prop := w_X5_isPeriod_L2 Post FU p2 (0 : Int32) σ
set_option maxHeartbeats 4000000 in
set_option maxRecDepth 100000 in
theorem b_X5_isPeriod_J43 {Y : CY} {Z : CZ} (C : cx SC 6 Y Z cX5_isPeriod RX5 wsX5_isPeriod (some .boolean) rmX5_isPeriod) {Post : Int32 → St → Prop} (hQ : Qi SC Y Z Post)  {K2 : Int32 → Int32 → St → Prop} (hK2 : ∀ (v2 : Int32) (v3 : Int32) (σ : St), K2 v2 v3 σ → WW SC 6 Y Z σ 2 [(0, .ref (qa Y 36)), (1, .ref (qa Y 3)), (2, .int v2), (3, .int v3)] []) (v2 : Int32) (v3 : Int32) (v4 : Int32) (σ : St) (h : w_X5_isPeriod_J43 K2 Post v2 v3 v4 σ) : WW SC 6 Y Z σ 43 [(0, .ref (qa Y 36)), (1, .ref (qa Y 3)), (2, .int v2), (3, .int v3), (4, .int v4)] [] := by
  unfold w_X5_isPeriod_J43 at h
  refine q_iload C 4 dX5_isPeriod_43 rfl ?_
  refine q_if_ne C 50 dX5_isPeriod_45 (by decide) (fun c7 => ?_) (fun c7 => ?_)
  · replace h := h.1 c7
    obtain ⟨x8, ex8⟩ : ∃ y : Int32, y = v3 + (1 : Int32) := ⟨_, rfl⟩
    replace h := h x8 ex8
    refine q_iinc C x8 3 [(3, .int x8), (0, .ref (qa Y 36)), (1, .ref (qa Y 3)), (2, .int v2), (4, .int v4)] dX5_isPeriod_50 rfl (by rw [ex8]; rfl) (by decide) rfl ?_
    refine q_goto C 2 dX5_isPeriod_53 (by decide) ?_
    refine q_sub (lv' := [(0, .ref (qa Y 36)), (1, .ref (qa Y 3)), (2, .int v2), (3, .int x8)]) [1, 2, 3, 0] rfl ?_
    exact hK2 v2 x8 σ h
  · replace h := h.2 c7
    refine q_iconst (v := (0 : Int32)) C dX5_isPeriod_48 (by decide) ?_
    exact q_zret C hQ (zb_n (by decide)) dX5_isPeriod_49 h
set_option maxHeartbeats 4000000 in
set_option maxRecDepth 100000 in
theorem b_X5_isPeriod_B14 {Y : CY} {Z : CZ} (C : cx SC 6 Y Z cX5_isPeriod RX5 wsX5_isPeriod (some .boolean) rmX5_isPeriod) {Post : Int32 → St → Prop} (hQ : Qi SC Y Z Post)  {K2 : Int32 → Int32 → St → Prop} (hK2 : ∀ (v2 : Int32) (v3 : Int32) (σ : St), K2 v2 v3 σ → WW SC 6 Y Z σ 2 [(0, .ref (qa Y 36)), (1, .ref (qa Y 3)), (2, .int v2), (3, .int v3)] []) {K14 : Int32 → Int32 → Int32 → Int32 → St → Prop} (hK14 : ∀ (v2 : Int32) (v3 : Int32) (v4 : Int32) (v5 : Int32) (σ : St), K14 v2 v3 v4 v5 σ → WW SC 6 Y Z σ 14 [(0, .ref (qa Y 36)), (1, .ref (qa Y 3)), (2, .int v2), (3, .int v3), (4, .int v4), (5, .int v5)] []) (v2 : Int32) (v3 : Int32) (v4 : Int32) (v5 : Int32) (σ : St) (h : w_X5_isPeriod_B14 K2 Post K14 v2 v3 v4 v5 σ) : WW SC 6 Y Z σ 14 [(0, .ref (qa Y 36)), (1, .ref (qa Y 3)), (2, .int v2), (3, .int v3), (4, .int v4), (5, .int v5)] [] := by
  unfold w_X5_isPeriod_B14 at h
  refine q_iload C 5 dX5_isPeriod_14 rfl ?_
  refine q_bipush (v := (9 : Int32)) C dX5_isPeriod_16 (by decide) ?_
  refine q_icmp_gt C 43 dX5_isPeriod_18 (by decide) (fun c2 => ?_) (fun c2 => ?_)
  · replace h := h.1 c2
    refine q_sub (lv' := [(0, .ref (qa Y 36)), (1, .ref (qa Y 3)), (2, .int v2), (3, .int v3), (4, .int v4)]) [0, 1, 2, 3, 4] rfl ?_
    exact b_X5_isPeriod_J43 C hQ hK2 v2 v3 v4 σ h
  · replace h := h.2 c2
    refine q_iload C 4 dX5_isPeriod_21 rfl ?_
    refine q_if_ne C 43 dX5_isPeriod_23 (by decide) (fun c3 => ?_) (fun c3 => ?_)
    · replace h := h.1 c3
      refine q_sub (lv' := [(0, .ref (qa Y 36)), (1, .ref (qa Y 3)), (2, .int v2), (3, .int v3), (4, .int v4)]) [0, 1, 2, 3, 4] rfl ?_
      exact b_X5_isPeriod_J43 C hQ hK2 v2 v3 v4 σ h
    · replace h := h.2 c3
      refine q_aload_n C 0 dX5_isPeriod_26 rfl ?_
      refine q_aload_n C 1 dX5_isPeriod_27 rfl ?_
      refine q_iload_n C 2 dX5_isPeriod_28 rfl ?_
      refine q_iload_n C 3 dX5_isPeriod_29 rfl ?_
      refine q_iload C 5 dX5_isPeriod_30 rfl ?_
      refine q_callVi (As := [.ref (qa Y 3), .int v2, .int v3, .int v5]) (st := []) C (c_X5_isWormFit Y v2 v3 v5 σ _ h) gX5_isPeriod_X5_isWormFit rfl ⟨rfl, nkX5_isWormFit⟩ rmOk_X5_isPeriod__X5_isWormFit kC36 iC36 rfl rfl (Nat.le_of_ble_eq_true rfl) dX5_isPeriod_32 rfl (fun x5 σ4 h => ?_)
      refine q_istore C [(4, .int x5), (0, .ref (qa Y 36)), (1, .ref (qa Y 3)), (2, .int v2), (3, .int v3), (5, .int v5)] dX5_isPeriod_35 (by decide) rfl ?_
      obtain ⟨x6, ex6⟩ : ∃ y : Int32, y = v5 + (1 : Int32) := ⟨_, rfl⟩
      replace h := h x6 ex6
      refine q_iinc C x6 5 [(5, .int x6), (4, .int x5), (0, .ref (qa Y 36)), (1, .ref (qa Y 3)), (2, .int v2), (3, .int v3)] dX5_isPeriod_37 rfl (by rw [ex6]; rfl) (by decide) rfl ?_
      refine q_goto C 14 dX5_isPeriod_40 (by decide) ?_
      refine q_sub (lv' := [(0, .ref (qa Y 36)), (1, .ref (qa Y 3)), (2, .int v2), (3, .int v3), (4, .int x5), (5, .int x6)]) [2, 3, 4, 5, 1, 0] rfl ?_
      exact hK14 v2 v3 x5 x6 σ4 h
theorem b_X5_isPeriod_L14 {Y : CY} {Z : CZ} (C : cx SC 6 Y Z cX5_isPeriod RX5 wsX5_isPeriod (some .boolean) rmX5_isPeriod) {Post : Int32 → St → Prop} (hQ : Qi SC Y Z Post)  {K2 : Int32 → Int32 → St → Prop} (hK2 : ∀ (v2 : Int32) (v3 : Int32) (σ : St), K2 v2 v3 σ → WW SC 6 Y Z σ 2 [(0, .ref (qa Y 36)), (1, .ref (qa Y 3)), (2, .int v2), (3, .int v3)] []) : ∀ (n : Nat) (v2 : Int32) (v3 : Int32) (v4 : Int32) (v5 : Int32) (σ : St) (h : w_X5_isPeriod_L14 K2 Post n v2 v3 v4 v5 σ), WW SC 6 Y Z σ 14 [(0, .ref (qa Y 36)), (1, .ref (qa Y 3)), (2, .int v2), (3, .int v3), (4, .int v4), (5, .int v5)] [] := by
  intro n
  induction n with
  | zero => intro v2 v3 v4 v5 σ h; exact h.elim
  | succ n ih => intro v2 v3 v4 v5 σ h; exact b_X5_isPeriod_B14 C hQ  hK2 ih v2 v3 v4 v5 σ h
set_option maxHeartbeats 4000000 in
set_option maxRecDepth 100000 in
theorem b_X5_isPeriod_B2 {Y : CY} {Z : CZ} (C : cx SC 6 Y Z cX5_isPeriod RX5 wsX5_isPeriod (some .boolean) rmX5_isPeriod) {Post : Int32 → St → Prop} (hQ : Qi SC Y Z Post)  {K2 : Int32 → Int32 → St → Prop} (hK2 : ∀ (v2 : Int32) (v3 : Int32) (σ : St), K2 v2 v3 σ → WW SC 6 Y Z σ 2 [(0, .ref (qa Y 36)), (1, .ref (qa Y 3)), (2, .int v2), (3, .int v3)] []) (v2 : Int32) (v3 : Int32) (σ : St) (h : w_X5_isPeriod_B2  Post K2 v2 v3 σ) : WW SC 6 Y Z σ 2 [(0, .ref (qa Y 36)), (1, .ref (qa Y 3)), (2, .int v2), (3, .int v3)] [] := by
  unfold w_X5_isPeriod_B2 at h
  refine q_iload_n C 3 dX5_isPeriod_2 rfl ?_
  refine q_iload_n C 2 dX5_isPeriod_3 rfl ?_
  refine q_icmp_ge C 56 dX5_isPeriod_4 (by decide) (fun c1 => ?_) (fun c1 => ?_)
  · replace h := h.1 c1
    refine q_iconst (v := (1 : Int32)) C dX5_isPeriod_56 (by decide) ?_
    exact q_zret C hQ (zb_n (by decide)) dX5_isPeriod_57 h
  · replace h := h.2 c1
    refine q_iconst (v := (0 : Int32)) C dX5_isPeriod_7 (by decide) ?_
    refine q_istore C [(4, .int (0 : Int32)), (0, .ref (qa Y 36)), (1, .ref (qa Y 3)), (2, .int v2), (3, .int v3)] dX5_isPeriod_8 (by decide) rfl ?_
    refine q_bipush (v := (-9 : Int32)) C dX5_isPeriod_10 (by decide) ?_
    refine q_istore C [(5, .int (-9 : Int32)), (4, .int (0 : Int32)), (0, .ref (qa Y 36)), (1, .ref (qa Y 3)), (2, .int v2), (3, .int v3)] dX5_isPeriod_12 (by decide) rfl ?_
    refine q_sub (lv' := [(0, .ref (qa Y 36)), (1, .ref (qa Y 3)), (2, .int v2), (3, .int v3), (4, .int (0 : Int32)), (5, .int (-9 : Int32))]) [2, 3, 4, 5, 1, 0] rfl ?_
    exact b_X5_isPeriod_L14 C hQ hK2 FU v2 v3 (0 : Int32) (-9 : Int32) σ h
theorem b_X5_isPeriod_L2 {Y : CY} {Z : CZ} (C : cx SC 6 Y Z cX5_isPeriod RX5 wsX5_isPeriod (some .boolean) rmX5_isPeriod) {Post : Int32 → St → Prop} (hQ : Qi SC Y Z Post)  : ∀ (n : Nat) (v2 : Int32) (v3 : Int32) (σ : St) (h : w_X5_isPeriod_L2  Post n v2 v3 σ), WW SC 6 Y Z σ 2 [(0, .ref (qa Y 36)), (1, .ref (qa Y 3)), (2, .int v2), (3, .int v3)] [] := by
  intro n
  induction n with
  | zero => intro v2 v3 σ h; exact h.elim
  | succ n ih => intro v2 v3 σ h; exact b_X5_isPeriod_B2 C hQ  ih v2 v3 σ h
set_option maxHeartbeats 4000000 in
set_option maxRecDepth 100000 in
theorem b_X5_isPeriod {Y : CY} {Z : CZ} (C : cx SC 6 Y Z cX5_isPeriod RX5 wsX5_isPeriod (some .boolean) rmX5_isPeriod) {Post : Int32 → St → Prop} (hQ : Qi SC Y Z Post)  (p2 : Int32) (σ : St) (h : w_X5_isPeriod p2 σ Post) : WW SC 6 Y Z σ 0 [(0, .ref (qa Y 36)), (1, .ref (qa Y 3)), (2, .int p2)] [] := by
  unfold w_X5_isPeriod at h
  refine q_iconst (v := (0 : Int32)) C dX5_isPeriod_0 (by decide) ?_
  refine q_istore_n C [(3, .int (0 : Int32)), (0, .ref (qa Y 36)), (1, .ref (qa Y 3)), (2, .int p2)] dX5_isPeriod_1 (by decide) rfl ?_
  refine q_sub (lv' := [(0, .ref (qa Y 36)), (1, .ref (qa Y 3)), (2, .int p2), (3, .int (0 : Int32))]) [1, 2, 3, 0] rfl ?_
  exact b_X5_isPeriod_L2 C hQ FU p2 (0 : Int32) σ h
theorem c_X5_isPeriod (Y : CY)  (p2 : Int32) (σ : St) (Post : Int32 → St → Prop) (h : w_X5_isPeriod p2 σ Post) : Ki SC Y yX5_isPeriod wsX5_isPeriod rmX5_isPeriod [.ref (qa Y 36), .ref (qa Y 3), .int p2] σ Post :=
  Ki_of (cc := cX5_isPeriod) (nL := 6) (ret := (some .boolean)) (by decide +kernel) rfl (Nat.le_of_ble_eq_true rfl) (fun Z C hQ => b_X5_isPeriod C hQ  p2 σ h)
abbrev rmX6_addLetter : Room := { frames := 0, cells := 0, slots := 0, locals := 0 }
theorem nkX6_addLetter : NmOk yX6_addLetter 1 := by decide +kernel
theorem inX6_addLetter_X6 : ∀ w ∈ u_ws RX6 TX6 8, w ∈ wsX6_addLetter := fun _ h => List.mem_cons_of_mem _ (List.mem_append_right _ h)
def w_X6_addLetter (p1 : Int32) (σ : St) (Post : Int32 → St → Prop) : Prop := ((σ 1 0) < 0 → Post (0 : Int32) σ) ∧ (¬ (σ 1 0) < 0 → ((σ 1 0) < (nI 230) → (vp_in (σ 1 0) 230) ∧ (∀ σ3 : St, σ3 = up σ 2 (σ 1 0).toNatClampNeg p1 → ∀ σ4 : St, σ4 = up σ3 1 0 (((σ3 1 0) + (1 : Int32))) → Post (1 : Int32) σ4)) ∧ (¬ (σ 1 0) < (nI 230) → Post (0 : Int32) σ))
set_option maxHeartbeats 4000000 in
set_option maxRecDepth 100000 in
theorem b_X6_addLetter {Y : CY} {Z : CZ} (C : cx SC 2 Y Z cX6_addLetter RX6 wsX6_addLetter (some .boolean) rmX6_addLetter) {Post : Int32 → St → Prop} (hQ : Qi SC Y Z Post)  (p1 : Int32) (σ : St) (h : w_X6_addLetter p1 σ Post) : WW SC 2 Y Z σ 0 [(0, .ref (qa Y 1)), (1, .int p1)] [] := by
  unfold w_X6_addLetter at h
  refine q_aload_n C 0 dX6_addLetter_0 rfl ?_
  refine q_geti (T := TX6) C kC1 iC1 inX6_addLetter_X6 rfl 0 (by decide) (List.mem_of_getElem? (i := 1) rfl) (fun _ h9 => h9) rfl dX6_addLetter_1 ?_
  refine q_if_lt C 19 dX6_addLetter_4 (by decide) (fun c1 => ?_) (fun c1 => ?_)
  · replace h := h.1 c1
    refine q_iconst (v := (0 : Int32)) C dX6_addLetter_19 (by decide) ?_
    exact q_zret C hQ (zb_n (by decide)) dX6_addLetter_20 h
  · replace h := h.2 c1
    refine q_aload_n C 0 dX6_addLetter_7 rfl ?_
    refine q_geti (T := TX6) C kC1 iC1 inX6_addLetter_X6 rfl 0 (by decide) (List.mem_of_getElem? (i := 1) rfl) (fun _ h9 => h9) rfl dX6_addLetter_8 ?_
    refine q_aload_n C 0 dX6_addLetter_11 rfl ?_
    refine q_getr (T := TX6) C kC1 iC1 inX6_addLetter_X6 rfl 7 (by decide) (List.mem_of_getElem? (i := 2) rfl) (fun _ h9 => h9) rfl dX6_addLetter_12 ?_
    refine q_alen C kC2 iC2 dX6_addLetter_15 ?_
    refine q_icmp_lt C 21 dX6_addLetter_16 (by decide) (fun c2 => ?_) (fun c2 => ?_)
    · replace h := h.1 c2
      refine q_aload_n C 0 dX6_addLetter_21 rfl ?_
      refine q_getr (T := TX6) C kC1 iC1 inX6_addLetter_X6 rfl 7 (by decide) (List.mem_of_getElem? (i := 2) rfl) (fun _ h9 => h9) rfl dX6_addLetter_22 ?_
      refine q_aload_n C 0 dX6_addLetter_25 rfl ?_
      refine q_geti (T := TX6) C kC1 iC1 inX6_addLetter_X6 rfl 0 (by decide) (List.mem_of_getElem? (i := 1) rfl) (fun _ h9 => h9) rfl dX6_addLetter_26 ?_
      refine q_iload_n C 1 dX6_addLetter_29 rfl ?_
      obtain ⟨g5, h⟩ := h
      refine q_iast C kC2 iC2 g5 dX6_addLetter_30 ?_
      refine q_nmS (fun σ3 eσ3 => ?_)
      replace h := h σ3 eσ3
      refine q_aload_n C 0 dX6_addLetter_31 rfl ?_
      refine q_dup C dX6_addLetter_32 rfl ?_
      refine q_geti (T := TX6) C kC1 iC1 inX6_addLetter_X6 rfl 0 (by decide) (List.mem_of_getElem? (i := 1) rfl) (fun _ h9 => h9) rfl dX6_addLetter_33 ?_
      refine q_iconst (v := (1 : Int32)) C dX6_addLetter_36 (by decide) ?_
      refine q_iadd C dX6_addLetter_37 ?_
      refine q_puti (T := TX6) C kC1 iC1 inX6_addLetter_X6 rfl tyX6 tyX6_ok nmX6 0 (by decide) (List.mem_of_getElem? (i := 1) rfl) (fun _ h9 => h9) rfl dgC1 rfl (ni_n _) (ni_f _) dX6_addLetter_38 ?_
      refine q_nmS (fun σ4 eσ4 => ?_)
      replace h := h σ4 eσ4
      refine q_iconst (v := (1 : Int32)) C dX6_addLetter_41 (by decide) ?_
      exact q_zret C hQ (zb_n (by decide)) dX6_addLetter_42 h
    · replace h := h.2 c2
      refine q_iconst (v := (0 : Int32)) C dX6_addLetter_19 (by decide) ?_
      exact q_zret C hQ (zb_n (by decide)) dX6_addLetter_20 h
theorem c_X6_addLetter (Y : CY)  (p1 : Int32) (σ : St) (Post : Int32 → St → Prop) (h : w_X6_addLetter p1 σ Post) : Ki SC Y yX6_addLetter wsX6_addLetter rmX6_addLetter [.ref (qa Y 1), .int p1] σ Post :=
  Ki_of (cc := cX6_addLetter) (nL := 2) (ret := (some .boolean)) (by decide +kernel) rfl (Nat.le_of_ble_eq_true rfl) (fun Z C hQ => b_X6_addLetter C hQ  p1 σ h)
abbrev rmX6_faultOfWord : Room := { frames := 0, cells := 0, slots := 0, locals := 0 }
theorem nkX6_faultOfWord : NmOk yX6_faultOfWord 2 := by decide +kernel
theorem inX6_faultOfWord_X3 : ∀ w ∈ u_ws RX3 TX3 12, w ∈ wsX6_faultOfWord := fun _ h => List.mem_cons_of_mem _ (List.mem_append_left _ (List.mem_append_right _ h))
theorem inX6_faultOfWord_X6 : ∀ w ∈ u_ws RX6 TX6 8, w ∈ wsX6_faultOfWord := fun _ h => List.mem_cons_of_mem _ (List.mem_append_right _ h)
def w_X6_faultOfWord (p1 : Int32) (σ : St) (Post : Int32 → St → Prop) : Prop := (¬ (σ 7 0) = 0 → (p1 = (98 : Int32) → ((σ 1 6) = 0 → Post (0 : Int32) σ) ∧ (¬ (σ 1 6) = 0 → Post (3 : Int32) σ)) ∧ (¬ p1 = (98 : Int32) → (p1 = (106 : Int32) → ((σ 1 5) = 0 → Post (0 : Int32) σ) ∧ (¬ (σ 1 5) = 0 → Post (3 : Int32) σ)) ∧ (¬ p1 = (106 : Int32) → (p1 = (109 : Int32) → Post (3 : Int32) σ) ∧ (¬ p1 = (109 : Int32) → (p1 = (115 : Int32) → ((σ 7 8) < (6 : Int32) → Post (0 : Int32) σ) ∧ (¬ (σ 7 8) < (6 : Int32) → Post (3 : Int32) σ)) ∧ (¬ p1 = (115 : Int32) → (p1 = (119 : Int32) → ((σ 1 4) = 0 → Post (0 : Int32) σ) ∧ (¬ (σ 1 4) = 0 → Post (3 : Int32) σ)) ∧ (¬ p1 = (119 : Int32) → Post (1 : Int32) σ)))))) ∧ ((σ 7 0) = 0 → (¬ p1 = (109 : Int32) → Post (1 : Int32) σ) ∧ (p1 = (109 : Int32) → Post (0 : Int32) σ))
set_option maxHeartbeats 4000000 in
set_option maxRecDepth 100000 in
theorem b_X6_faultOfWord {Y : CY} {Z : CZ} (C : cx SC 3 Y Z cX6_faultOfWord RX6 wsX6_faultOfWord (some .int) rmX6_faultOfWord) {Post : Int32 → St → Prop} (hQ : Qi SC Y Z Post)  (p1 : Int32) (σ : St) (h : w_X6_faultOfWord p1 σ Post) : WW SC 3 Y Z σ 0 [(0, .ref (qa Y 1)), (1, .int p1), (2, .ref (qa Y 7))] [] := by
  unfold w_X6_faultOfWord at h
  refine q_aload_n C 2 dX6_faultOfWord_0 rfl ?_
  refine q_geti (T := TX3) C kC7 iC7 inX6_faultOfWord_X3 rfl 0 (by decide) (List.mem_of_getElem? (i := 1) rfl) (fun _ h9 => h9) rfl dX6_faultOfWord_1 ?_
  refine q_if_ne C 19 dX6_faultOfWord_4 (by decide) (fun c1 => ?_) (fun c1 => ?_)
  · replace h := h.1 c1
    refine q_iload_n C 1 dX6_faultOfWord_19 rfl ?_
    by_cases c2 : p1 = (98 : Int32)
    · replace h := h.1 c2
      refine q_lookup C (off := 95) 115 dX6_faultOfWord_20 (by decide) (by rw [c2]; rfl) (by decide) ?_
      refine q_aload_n C 0 dX6_faultOfWord_115 rfl ?_
      refine q_geti (T := TX6) C kC1 iC1 inX6_faultOfWord_X6 rfl 6 (by decide) (List.mem_of_getElem? (i := 5) rfl) (fun _ h9 => h9) rfl dX6_faultOfWord_116 ?_
      refine q_if_eq C 126 dX6_faultOfWord_119 (by decide) (fun c3 => ?_) (fun c3 => ?_)
      · replace h := h.1 c3
        refine q_iconst (v := (0 : Int32)) C dX6_faultOfWord_126 (by decide) ?_
        exact q_iret C hQ dX6_faultOfWord_127 h
      · replace h := h.2 c3
        refine q_iconst (v := (3 : Int32)) C dX6_faultOfWord_122 (by decide) ?_
        refine q_goto C 127 dX6_faultOfWord_123 (by decide) ?_
        exact q_iret C hQ dX6_faultOfWord_127 h
    · replace h := h.2 c2
      by_cases c4 : p1 = (106 : Int32)
      · replace h := h.1 c4
        refine q_lookup C (off := 67) 87 dX6_faultOfWord_20 (by decide) (by rw [c4]; rfl) (by decide) ?_
        refine q_aload_n C 0 dX6_faultOfWord_87 rfl ?_
        refine q_geti (T := TX6) C kC1 iC1 inX6_faultOfWord_X6 rfl 5 (by decide) (List.mem_of_getElem? (i := 3) rfl) (fun _ h9 => h9) rfl dX6_faultOfWord_88 ?_
        refine q_if_eq C 98 dX6_faultOfWord_91 (by decide) (fun c5 => ?_) (fun c5 => ?_)
        · replace h := h.1 c5
          refine q_iconst (v := (0 : Int32)) C dX6_faultOfWord_98 (by decide) ?_
          exact q_iret C hQ dX6_faultOfWord_99 h
        · replace h := h.2 c5
          refine q_iconst (v := (3 : Int32)) C dX6_faultOfWord_94 (by decide) ?_
          refine q_goto C 99 dX6_faultOfWord_95 (by decide) ?_
          exact q_iret C hQ dX6_faultOfWord_99 h
      · replace h := h.2 c4
        by_cases c6 : p1 = (109 : Int32)
        · replace h := h.1 c6
          refine q_lookup C (off := 52) 72 dX6_faultOfWord_20 (by decide) (by rw [c6]; rfl) (by decide) ?_
          refine q_iconst (v := (3 : Int32)) C dX6_faultOfWord_72 (by decide) ?_
          exact q_iret C hQ dX6_faultOfWord_73 h
        · replace h := h.2 c6
          by_cases c7 : p1 = (115 : Int32)
          · replace h := h.1 c7
            refine q_lookup C (off := 80) 100 dX6_faultOfWord_20 (by decide) (by rw [c7]; rfl) (by decide) ?_
            refine q_aload_n C 2 dX6_faultOfWord_100 rfl ?_
            refine q_geti (T := TX3) C kC7 iC7 inX6_faultOfWord_X3 rfl 8 (by decide) (List.mem_of_getElem? (i := 4) rfl) (fun _ h9 => h9) rfl dX6_faultOfWord_101 ?_
            refine q_bipush (v := (6 : Int32)) C dX6_faultOfWord_104 (by decide) ?_
            refine q_icmp_lt C 113 dX6_faultOfWord_106 (by decide) (fun c8 => ?_) (fun c8 => ?_)
            · replace h := h.1 c8
              refine q_iconst (v := (0 : Int32)) C dX6_faultOfWord_113 (by decide) ?_
              exact q_iret C hQ dX6_faultOfWord_114 h
            · replace h := h.2 c8
              refine q_iconst (v := (3 : Int32)) C dX6_faultOfWord_109 (by decide) ?_
              refine q_goto C 114 dX6_faultOfWord_110 (by decide) ?_
              exact q_iret C hQ dX6_faultOfWord_114 h
          · replace h := h.2 c7
            by_cases c9 : p1 = (119 : Int32)
            · replace h := h.1 c9
              refine q_lookup C (off := 54) 74 dX6_faultOfWord_20 (by decide) (by rw [c9]; rfl) (by decide) ?_
              refine q_aload_n C 0 dX6_faultOfWord_74 rfl ?_
              refine q_geti (T := TX6) C kC1 iC1 inX6_faultOfWord_X6 rfl 4 (by decide) (List.mem_of_getElem? (i := 2) rfl) (fun _ h9 => h9) rfl dX6_faultOfWord_75 ?_
              refine q_if_eq C 85 dX6_faultOfWord_78 (by decide) (fun c10 => ?_) (fun c10 => ?_)
              · replace h := h.1 c10
                refine q_iconst (v := (0 : Int32)) C dX6_faultOfWord_85 (by decide) ?_
                exact q_iret C hQ dX6_faultOfWord_86 h
              · replace h := h.2 c10
                refine q_iconst (v := (3 : Int32)) C dX6_faultOfWord_81 (by decide) ?_
                refine q_goto C 86 dX6_faultOfWord_82 (by decide) ?_
                exact q_iret C hQ dX6_faultOfWord_86 h
            · replace h := h.2 c9
              refine q_lookup C (off := 108) 128 dX6_faultOfWord_20 (by decide) ?_ (by decide) ?_
              · simp only [Op.lookupswitch.offset]
                rw [if_neg (fun q => ne_ti c2 q.symm)]
                rw [if_neg (fun q => ne_ti c4 q.symm)]
                rw [if_neg (fun q => ne_ti c6 q.symm)]
                rw [if_neg (fun q => ne_ti c7 q.symm)]
                rw [if_neg (fun q => ne_ti c9 q.symm)]
              · refine q_iconst (v := (1 : Int32)) C dX6_faultOfWord_128 (by decide) ?_
                exact q_iret C hQ dX6_faultOfWord_129 h
  · replace h := h.2 c1
    refine q_iload_n C 1 dX6_faultOfWord_7 rfl ?_
    refine q_bipush (v := (109 : Int32)) C dX6_faultOfWord_8 (by decide) ?_
    refine q_icmp_ne C 17 dX6_faultOfWord_10 (by decide) (fun c11 => ?_) (fun c11 => ?_)
    · replace h := h.1 c11
      refine q_iconst (v := (1 : Int32)) C dX6_faultOfWord_17 (by decide) ?_
      exact q_iret C hQ dX6_faultOfWord_18 h
    · replace h := h.2 c11
      refine q_iconst (v := (0 : Int32)) C dX6_faultOfWord_13 (by decide) ?_
      refine q_goto C 18 dX6_faultOfWord_14 (by decide) ?_
      exact q_iret C hQ dX6_faultOfWord_18 h
theorem c_X6_faultOfWord (Y : CY)  (p1 : Int32) (σ : St) (Post : Int32 → St → Prop) (h : w_X6_faultOfWord p1 σ Post) : Ki SC Y yX6_faultOfWord wsX6_faultOfWord rmX6_faultOfWord [.ref (qa Y 1), .int p1, .ref (qa Y 7)] σ Post :=
  Ki_of (cc := cX6_faultOfWord) (nL := 3) (ret := (some .int)) (by decide +kernel) rfl (Nat.le_of_ble_eq_true rfl) (fun Z C hQ => b_X6_faultOfWord C hQ  p1 σ h)
abbrev rmX6_isFigure : Room := { frames := 0, cells := 0, slots := 0, locals := 0 }
theorem nkX6_isFigure : NmOk yX6_isFigure 1 := by decide +kernel
def w_X6_isFigure (p1 : Int32) (σ : St) (Post : Int32 → St → Prop) : Prop := (p1 < (48 : Int32) → Post (0 : Int32) σ) ∧ (¬ p1 < (48 : Int32) → ((57 : Int32) < p1 → Post (0 : Int32) σ) ∧ (¬ (57 : Int32) < p1 → Post (1 : Int32) σ))
set_option maxHeartbeats 4000000 in
set_option maxRecDepth 100000 in
theorem b_X6_isFigure {Y : CY} {Z : CZ} (C : cx SC 1 Y Z cX6_isFigure RX6 wsX6_isFigure (some .boolean) rmX6_isFigure) {Post : Int32 → St → Prop} (hQ : Qi SC Y Z Post)  (p1 : Int32) (σ : St) (h : w_X6_isFigure p1 σ Post) : WW SC 1 Y Z σ 0 [(0, .int p1)] [] := by
  unfold w_X6_isFigure at h
  refine q_iload_n C 0 dX6_isFigure_0 rfl ?_
  refine q_bipush (v := (48 : Int32)) C dX6_isFigure_1 (by decide) ?_
  refine q_icmp_lt C 16 dX6_isFigure_3 (by decide) (fun c1 => ?_) (fun c1 => ?_)
  · replace h := h.1 c1
    refine q_iconst (v := (0 : Int32)) C dX6_isFigure_16 (by decide) ?_
    exact q_zret C hQ (zb_n (by decide)) dX6_isFigure_17 h
  · replace h := h.2 c1
    refine q_iload_n C 0 dX6_isFigure_6 rfl ?_
    refine q_bipush (v := (57 : Int32)) C dX6_isFigure_7 (by decide) ?_
    refine q_icmp_gt C 16 dX6_isFigure_9 (by decide) (fun c2 => ?_) (fun c2 => ?_)
    · replace h := h.1 c2
      refine q_iconst (v := (0 : Int32)) C dX6_isFigure_16 (by decide) ?_
      exact q_zret C hQ (zb_n (by decide)) dX6_isFigure_17 h
    · replace h := h.2 c2
      refine q_iconst (v := (1 : Int32)) C dX6_isFigure_12 (by decide) ?_
      refine q_goto C 17 dX6_isFigure_13 (by decide) ?_
      exact q_zret C hQ (zb_n (by decide)) dX6_isFigure_17 h
theorem c_X6_isFigure (Y : CY)  (p1 : Int32) (σ : St) (Post : Int32 → St → Prop) (h : w_X6_isFigure p1 σ Post) : Ki SC Y yX6_isFigure wsX6_isFigure rmX6_isFigure [.int p1] σ Post :=
  Ki_of (cc := cX6_isFigure) (nL := 1) (ret := (some .boolean)) (by decide +kernel) rfl (Nat.le_of_ble_eq_true rfl) (fun Z C hQ => b_X6_isFigure C hQ  p1 σ h)
abbrev rmX6_letterHere : Room := { frames := 0, cells := 0, slots := 0, locals := 0 }
theorem nkX6_letterHere : NmOk yX6_letterHere 0 := by decide +kernel
theorem inX6_letterHere_X6 : ∀ w ∈ u_ws RX6 TX6 8, w ∈ wsX6_letterHere := fun _ h => List.mem_cons_of_mem _ (List.mem_append_right _ h)
def w_X6_letterHere (σ : St) (Post : Int32 → St → Prop) : Prop := ((σ 1 3) < 0 → Post (-1 : Int32) σ) ∧ (¬ (σ 1 3) < 0 → ((σ 1 0) ≤ (σ 1 3) → Post (-1 : Int32) σ) ∧ (¬ (σ 1 0) ≤ (σ 1 3) → ((nI 230) ≤ (σ 1 3) → Post (-1 : Int32) σ) ∧ (¬ (nI 230) ≤ (σ 1 3) → (vp_in (σ 1 3) 230) ∧ (Post ((σ 2 (σ 1 3).toNatClampNeg)) σ))))
set_option maxHeartbeats 4000000 in
set_option maxRecDepth 100000 in
theorem b_X6_letterHere {Y : CY} {Z : CZ} (C : cx SC 1 Y Z cX6_letterHere RX6 wsX6_letterHere (some .int) rmX6_letterHere) {Post : Int32 → St → Prop} (hQ : Qi SC Y Z Post)  (σ : St) (h : w_X6_letterHere  σ Post) : WW SC 1 Y Z σ 0 [(0, .ref (qa Y 1))] [] := by
  unfold w_X6_letterHere at h
  refine q_aload_n C 0 dX6_letterHere_0 rfl ?_
  refine q_geti (T := TX6) C kC1 iC1 inX6_letterHere_X6 rfl 3 (by decide) (List.mem_of_getElem? (i := 1) rfl) (fun _ h9 => h9) rfl dX6_letterHere_1 ?_
  refine q_if_lt C 42 dX6_letterHere_4 (by decide) (fun c1 => ?_) (fun c1 => ?_)
  · replace h := h.1 c1
    refine q_iconst (v := (-1 : Int32)) C dX6_letterHere_42 (by decide) ?_
    exact q_iret C hQ dX6_letterHere_43 h
  · replace h := h.2 c1
    refine q_aload_n C 0 dX6_letterHere_7 rfl ?_
    refine q_geti (T := TX6) C kC1 iC1 inX6_letterHere_X6 rfl 3 (by decide) (List.mem_of_getElem? (i := 1) rfl) (fun _ h9 => h9) rfl dX6_letterHere_8 ?_
    refine q_aload_n C 0 dX6_letterHere_11 rfl ?_
    refine q_geti (T := TX6) C kC1 iC1 inX6_letterHere_X6 rfl 0 (by decide) (List.mem_of_getElem? (i := 2) rfl) (fun _ h9 => h9) rfl dX6_letterHere_12 ?_
    refine q_icmp_ge C 42 dX6_letterHere_15 (by decide) (fun c2 => ?_) (fun c2 => ?_)
    · replace h := h.1 c2
      refine q_iconst (v := (-1 : Int32)) C dX6_letterHere_42 (by decide) ?_
      exact q_iret C hQ dX6_letterHere_43 h
    · replace h := h.2 c2
      refine q_aload_n C 0 dX6_letterHere_18 rfl ?_
      refine q_geti (T := TX6) C kC1 iC1 inX6_letterHere_X6 rfl 3 (by decide) (List.mem_of_getElem? (i := 1) rfl) (fun _ h9 => h9) rfl dX6_letterHere_19 ?_
      refine q_aload_n C 0 dX6_letterHere_22 rfl ?_
      refine q_getr (T := TX6) C kC1 iC1 inX6_letterHere_X6 rfl 7 (by decide) (List.mem_of_getElem? (i := 3) rfl) (fun _ h9 => h9) rfl dX6_letterHere_23 ?_
      refine q_alen C kC2 iC2 dX6_letterHere_26 ?_
      refine q_icmp_ge C 42 dX6_letterHere_27 (by decide) (fun c3 => ?_) (fun c3 => ?_)
      · replace h := h.1 c3
        refine q_iconst (v := (-1 : Int32)) C dX6_letterHere_42 (by decide) ?_
        exact q_iret C hQ dX6_letterHere_43 h
      · replace h := h.2 c3
        refine q_aload_n C 0 dX6_letterHere_30 rfl ?_
        refine q_getr (T := TX6) C kC1 iC1 inX6_letterHere_X6 rfl 7 (by decide) (List.mem_of_getElem? (i := 3) rfl) (fun _ h9 => h9) rfl dX6_letterHere_31 ?_
        refine q_aload_n C 0 dX6_letterHere_34 rfl ?_
        refine q_geti (T := TX6) C kC1 iC1 inX6_letterHere_X6 rfl 3 (by decide) (List.mem_of_getElem? (i := 1) rfl) (fun _ h9 => h9) rfl dX6_letterHere_35 ?_
        obtain ⟨g4, h⟩ := h
        refine q_iald C kC2 iC2 g4 dX6_letterHere_38 ?_
        refine q_goto C 43 dX6_letterHere_39 (by decide) ?_
        exact q_iret C hQ dX6_letterHere_43 h
theorem c_X6_letterHere (Y : CY)  (σ : St) (Post : Int32 → St → Prop) (h : w_X6_letterHere  σ Post) : Ki SC Y yX6_letterHere wsX6_letterHere rmX6_letterHere [.ref (qa Y 1)] σ Post :=
  Ki_of (cc := cX6_letterHere) (nL := 1) (ret := (some .int)) (by decide +kernel) rfl (Nat.le_of_ble_eq_true rfl) (fun Z C hQ => b_X6_letterHere C hQ  σ h)
abbrev rmX6_skipBlanks : Room := { frames := 1, cells := 0, slots := 0, locals := 20 }
theorem nkX6_skipBlanks : NmOk yX6_skipBlanks 0 := by decide +kernel
theorem rmOk_X6_skipBlanks__X6_letterHere : RmOk rmX6_letterHere rmX6_skipBlanks 1 := ⟨rfl, rfl, by decide, by decide⟩
theorem inX6_skipBlanks_X6 : ∀ w ∈ u_ws RX6 TX6 8, w ∈ wsX6_skipBlanks := fun _ h => List.mem_cons_of_mem _ (List.mem_append_right _ h)
def w_X6_skipBlanks_B2 (Post : St → Prop) (K2 : Int32 → St → Prop) (v1 : Int32) (σ : St) : Prop := ((230 : Int32) ≤ v1 → Post σ) ∧ (¬ (230 : Int32) ≤ v1 → w_X6_letterHere σ (fun x3 σ2 => (¬ x3 = (32 : Int32) → Post σ2) ∧ (x3 = (32 : Int32) → ∀ σ5 : St, σ5 = up σ2 1 3 (((σ2 1 3) + (1 : Int32))) → ∀ x6 : Int32, x6 = v1 + (1 : Int32) → K2 x6 σ5)))
def w_X6_skipBlanks_L2 (Post : St → Prop) : Nat → Int32 → St → Prop
  | 0 => fun _ _ => False
  | n + 1 => w_X6_skipBlanks_B2   Post (w_X6_skipBlanks_L2   Post n)
def w_X6_skipBlanks (σ : St) (Post : St → Prop) : Prop := w_X6_skipBlanks_L2 Post FU (0 : Int32) σ
set_option maxHeartbeats 4000000 in
set_option maxRecDepth 100000 in
theorem b_X6_skipBlanks_B2 {Y : CY} {Z : CZ} (C : cx SC 2 Y Z cX6_skipBlanks RX6 wsX6_skipBlanks none rmX6_skipBlanks) {Post : St → Prop} (hQ : Qv SC Y Z Post)  {K2 : Int32 → St → Prop} (hK2 : ∀ (v1 : Int32) (σ : St), K2 v1 σ → WW SC 2 Y Z σ 2 [(0, .ref (qa Y 1)), (1, .int v1)] []) (v1 : Int32) (σ : St) (h : w_X6_skipBlanks_B2  Post K2 v1 σ) : WW SC 2 Y Z σ 2 [(0, .ref (qa Y 1)), (1, .int v1)] [] := by
  unfold w_X6_skipBlanks_B2 at h
  refine q_iload_n C 1 dX6_skipBlanks_2 rfl ?_
  refine q_sipush (v := (230 : Int32)) C dX6_skipBlanks_3 (by decide) ?_
  refine q_icmp_ge C 34 dX6_skipBlanks_6 (by decide) (fun c1 => ?_) (fun c1 => ?_)
  · replace h := h.1 c1
    exact q_vret C hQ dX6_skipBlanks_34 h
  · replace h := h.2 c1
    refine q_aload_n C 0 dX6_skipBlanks_9 rfl ?_
    refine q_callVi (As := []) (st := []) C (c_X6_letterHere Y σ _ h) gX6_skipBlanks_X6_letterHere rfl ⟨rfl, nkX6_letterHere⟩ rmOk_X6_skipBlanks__X6_letterHere kC1 iC1 rfl rfl (Nat.le_of_ble_eq_true rfl) dX6_skipBlanks_10 rfl (fun x3 σ2 h => ?_)
    refine q_bipush (v := (32 : Int32)) C dX6_skipBlanks_13 (by decide) ?_
    refine q_icmp_ne C 34 dX6_skipBlanks_15 (by decide) (fun c4 => ?_) (fun c4 => ?_)
    · replace h := h.1 c4
      exact q_vret C hQ dX6_skipBlanks_34 h
    · replace h := h.2 c4
      refine q_aload_n C 0 dX6_skipBlanks_18 rfl ?_
      refine q_dup C dX6_skipBlanks_19 rfl ?_
      refine q_geti (T := TX6) C kC1 iC1 inX6_skipBlanks_X6 rfl 3 (by decide) (List.mem_of_getElem? (i := 1) rfl) (fun _ h9 => h9) rfl dX6_skipBlanks_20 ?_
      refine q_iconst (v := (1 : Int32)) C dX6_skipBlanks_23 (by decide) ?_
      refine q_iadd C dX6_skipBlanks_24 ?_
      refine q_puti (T := TX6) C kC1 iC1 inX6_skipBlanks_X6 rfl tyX6 tyX6_ok nmX6 3 (by decide) (List.mem_of_getElem? (i := 1) rfl) (fun _ h9 => h9) rfl dgC1 rfl (ni_n _) (ni_f _) dX6_skipBlanks_25 ?_
      refine q_nmS (fun σ5 eσ5 => ?_)
      replace h := h σ5 eσ5
      obtain ⟨x6, ex6⟩ : ∃ y : Int32, y = v1 + (1 : Int32) := ⟨_, rfl⟩
      replace h := h x6 ex6
      refine q_iinc C x6 1 [(1, .int x6), (0, .ref (qa Y 1))] dX6_skipBlanks_28 rfl (by rw [ex6]; rfl) (by decide) rfl ?_
      refine q_goto C 2 dX6_skipBlanks_31 (by decide) ?_
      refine q_sub (lv' := [(0, .ref (qa Y 1)), (1, .int x6)]) [1, 0] rfl ?_
      exact hK2 x6 σ5 h
theorem b_X6_skipBlanks_L2 {Y : CY} {Z : CZ} (C : cx SC 2 Y Z cX6_skipBlanks RX6 wsX6_skipBlanks none rmX6_skipBlanks) {Post : St → Prop} (hQ : Qv SC Y Z Post)  : ∀ (n : Nat) (v1 : Int32) (σ : St) (h : w_X6_skipBlanks_L2  Post n v1 σ), WW SC 2 Y Z σ 2 [(0, .ref (qa Y 1)), (1, .int v1)] [] := by
  intro n
  induction n with
  | zero => intro v1 σ h; exact h.elim
  | succ n ih => intro v1 σ h; exact b_X6_skipBlanks_B2 C hQ  ih v1 σ h
set_option maxHeartbeats 4000000 in
set_option maxRecDepth 100000 in
theorem b_X6_skipBlanks {Y : CY} {Z : CZ} (C : cx SC 2 Y Z cX6_skipBlanks RX6 wsX6_skipBlanks none rmX6_skipBlanks) {Post : St → Prop} (hQ : Qv SC Y Z Post)  (σ : St) (h : w_X6_skipBlanks  σ Post) : WW SC 2 Y Z σ 0 [(0, .ref (qa Y 1))] [] := by
  unfold w_X6_skipBlanks at h
  refine q_iconst (v := (0 : Int32)) C dX6_skipBlanks_0 (by decide) ?_
  refine q_istore_n C [(1, .int (0 : Int32)), (0, .ref (qa Y 1))] dX6_skipBlanks_1 (by decide) rfl ?_
  refine q_sub (lv' := [(0, .ref (qa Y 1)), (1, .int (0 : Int32))]) [1, 0] rfl ?_
  exact b_X6_skipBlanks_L2 C hQ FU (0 : Int32) σ h
theorem c_X6_skipBlanks (Y : CY)  (σ : St) (Post : St → Prop) (h : w_X6_skipBlanks  σ Post) : Kv SC Y yX6_skipBlanks wsX6_skipBlanks rmX6_skipBlanks [.ref (qa Y 1)] σ Post :=
  Kv_of (cc := cX6_skipBlanks) (nL := 2) (ret := none) (by decide +kernel) rfl (Nat.le_of_ble_eq_true rfl) (fun Z C hQ => b_X6_skipBlanks C hQ  σ h)
abbrev rmX6_setFault : Room := { frames := 0, cells := 0, slots := 0, locals := 0 }
theorem nkX6_setFault : NmOk yX6_setFault 2 := by decide +kernel
theorem inX6_setFault_X6 : ∀ w ∈ u_ws RX6 TX6 8, w ∈ wsX6_setFault := fun _ h => List.mem_cons_of_mem _ (List.mem_append_right _ h)
def w_X6_setFault (p1 : Int32) (p2 : Int32) (σ : St) (Post : St → Prop) : Prop := (¬ (σ 1 1) = 0 → Post σ) ∧ ((σ 1 1) = 0 → ∀ σ2 : St, σ2 = up σ 1 1 p1 → ∀ σ3 : St, σ3 = up σ2 1 2 p2 → Post σ3)
set_option maxHeartbeats 4000000 in
set_option maxRecDepth 100000 in
theorem b_X6_setFault {Y : CY} {Z : CZ} (C : cx SC 3 Y Z cX6_setFault RX6 wsX6_setFault none rmX6_setFault) {Post : St → Prop} (hQ : Qv SC Y Z Post)  (p1 : Int32) (p2 : Int32) (σ : St) (h : w_X6_setFault p1 p2 σ Post) : WW SC 3 Y Z σ 0 [(0, .ref (qa Y 1)), (1, .int p1), (2, .int p2)] [] := by
  unfold w_X6_setFault at h
  refine q_aload_n C 0 dX6_setFault_0 rfl ?_
  refine q_geti (T := TX6) C kC1 iC1 inX6_setFault_X6 rfl 1 (by decide) (List.mem_of_getElem? (i := 1) rfl) (fun _ h9 => h9) rfl dX6_setFault_1 ?_
  refine q_if_ne C 17 dX6_setFault_4 (by decide) (fun c1 => ?_) (fun c1 => ?_)
  · replace h := h.1 c1
    exact q_vret C hQ dX6_setFault_17 h
  · replace h := h.2 c1
    refine q_aload_n C 0 dX6_setFault_7 rfl ?_
    refine q_iload_n C 1 dX6_setFault_8 rfl ?_
    refine q_puti (T := TX6) C kC1 iC1 inX6_setFault_X6 rfl tyX6 tyX6_ok nmX6 1 (by decide) (List.mem_of_getElem? (i := 1) rfl) (fun _ h9 => h9) rfl dgC1 rfl (ni_n _) (ni_f _) dX6_setFault_9 ?_
    refine q_nmS (fun σ2 eσ2 => ?_)
    replace h := h σ2 eσ2
    refine q_aload_n C 0 dX6_setFault_12 rfl ?_
    refine q_iload_n C 2 dX6_setFault_13 rfl ?_
    refine q_puti (T := TX6) C kC1 iC1 inX6_setFault_X6 rfl tyX6 tyX6_ok nmX6 2 (by decide) (List.mem_of_getElem? (i := 2) rfl) (fun _ h9 => h9) rfl dgC1 rfl (ni_n _) (ni_f _) dX6_setFault_14 ?_
    refine q_nmS (fun σ3 eσ3 => ?_)
    replace h := h σ3 eσ3
    exact q_vret C hQ dX6_setFault_17 h
theorem c_X6_setFault (Y : CY)  (p1 : Int32) (p2 : Int32) (σ : St) (Post : St → Prop) (h : w_X6_setFault p1 p2 σ Post) : Kv SC Y yX6_setFault wsX6_setFault rmX6_setFault [.ref (qa Y 1), .int p1, .int p2] σ Post :=
  Kv_of (cc := cX6_setFault) (nL := 3) (ret := none) (by decide +kernel) rfl (Nat.le_of_ble_eq_true rfl) (fun Z C hQ => b_X6_setFault C hQ  p1 p2 σ h)
abbrev rmX8_isWithin : Room := { frames := 0, cells := 0, slots := 0, locals := 0 }
theorem nkX8_isWithin : NmOk yX8_isWithin 3 := by decide +kernel
def w_X8_isWithin (p1 : Int32) (p2 : Int32) (p3 : Int32) (σ : St) (Post : Int32 → St → Prop) : Prop := (p1 < p2 → Post (0 : Int32) σ) ∧ (¬ p1 < p2 → (p3 < p1 → Post (0 : Int32) σ) ∧ (¬ p3 < p1 → Post (1 : Int32) σ))
set_option maxHeartbeats 4000000 in
set_option maxRecDepth 100000 in
theorem b_X8_isWithin {Y : CY} {Z : CZ} (C : cx SC 3 Y Z cX8_isWithin RX8 wsX8_isWithin (some .boolean) rmX8_isWithin) {Post : Int32 → St → Prop} (hQ : Qi SC Y Z Post)  (p1 : Int32) (p2 : Int32) (p3 : Int32) (σ : St) (h : w_X8_isWithin p1 p2 p3 σ Post) : WW SC 3 Y Z σ 0 [(0, .int p1), (1, .int p2), (2, .int p3)] [] := by
  unfold w_X8_isWithin at h
  refine q_iload_n C 0 dX8_isWithin_0 rfl ?_
  refine q_iload_n C 1 dX8_isWithin_1 rfl ?_
  refine q_icmp_lt C 14 dX8_isWithin_2 (by decide) (fun c1 => ?_) (fun c1 => ?_)
  · replace h := h.1 c1
    refine q_iconst (v := (0 : Int32)) C dX8_isWithin_14 (by decide) ?_
    exact q_zret C hQ (zb_n (by decide)) dX8_isWithin_15 h
  · replace h := h.2 c1
    refine q_iload_n C 0 dX8_isWithin_5 rfl ?_
    refine q_iload_n C 2 dX8_isWithin_6 rfl ?_
    refine q_icmp_gt C 14 dX8_isWithin_7 (by decide) (fun c2 => ?_) (fun c2 => ?_)
    · replace h := h.1 c2
      refine q_iconst (v := (0 : Int32)) C dX8_isWithin_14 (by decide) ?_
      exact q_zret C hQ (zb_n (by decide)) dX8_isWithin_15 h
    · replace h := h.2 c2
      refine q_iconst (v := (1 : Int32)) C dX8_isWithin_10 (by decide) ?_
      refine q_goto C 15 dX8_isWithin_11 (by decide) ?_
      exact q_zret C hQ (zb_n (by decide)) dX8_isWithin_15 h
theorem c_X8_isWithin (Y : CY)  (p1 : Int32) (p2 : Int32) (p3 : Int32) (σ : St) (Post : Int32 → St → Prop) (h : w_X8_isWithin p1 p2 p3 σ Post) : Ki SC Y yX8_isWithin wsX8_isWithin rmX8_isWithin [.int p1, .int p2, .int p3] σ Post :=
  Ki_of (cc := cX8_isWithin) (nL := 3) (ret := (some .boolean)) (by decide +kernel) rfl (Nat.le_of_ble_eq_true rfl) (fun Z C hQ => b_X8_isWithin C hQ  p1 p2 p3 σ h)
abbrev rmX6_readNumber : Room := { frames := 2, cells := 0, slots := 0, locals := 41 }
theorem nkX6_readNumber : NmOk yX6_readNumber 2 := by decide +kernel
theorem rmOk_X6_readNumber__X6_isFigure : RmOk rmX6_isFigure rmX6_readNumber 1 := ⟨rfl, rfl, by decide, by decide⟩
theorem rmOk_X6_readNumber__X6_letterHere : RmOk rmX6_letterHere rmX6_readNumber 1 := ⟨rfl, rfl, by decide, by decide⟩
theorem rmOk_X6_readNumber__X6_setFault : RmOk rmX6_setFault rmX6_readNumber 3 := ⟨rfl, rfl, by decide, by decide⟩
theorem rmOk_X6_readNumber__X6_skipBlanks : RmOk rmX6_skipBlanks rmX6_readNumber 2 := ⟨rfl, rfl, by decide, by decide⟩
theorem rmOk_X6_readNumber__X8_isWithin : RmOk rmX8_isWithin rmX6_readNumber 3 := ⟨rfl, rfl, by decide, by decide⟩
theorem inX6_readNumber_X6 : ∀ w ∈ u_ws RX6 TX6 8, w ∈ wsX6_readNumber := fun _ h => List.mem_cons_of_mem _ (List.mem_append_right _ h)
def w_X6_readNumber_J106 (Post : Int32 → St → Prop) (v1 : Int32) (v3 : Int32) (σ : St) : Prop := w_X6_setFault (2 : Int32) v3 σ (fun σ20 => Post v1 σ20)
def w_X6_readNumber_J70 (Post : Int32 → St → Prop) (v1 : Int32) (v2 : Int32) (v3 : Int32) (v4 : Int32) (σ : St) : Prop := (¬ (σ 1 3) = v3 → ((3 : Int32) < ((σ 1 3) - v3) → w_X6_readNumber_J106 Post v1 v3 σ) ∧ (¬ (3 : Int32) < ((σ 1 3) - v3) → w_X8_isWithin v4 v1 v2 σ (fun x17 σ16 => (¬ x17 = 0 → Post v4 σ16) ∧ (x17 = 0 → w_X6_readNumber_J106 Post v1 v3 σ16)))) ∧ ((σ 1 3) = v3 → w_X6_setFault (1 : Int32) v3 σ (fun σ19 => Post v1 σ19))
def w_X6_readNumber_B15 (Post : Int32 → St → Prop) (K15 : Int32 → Int32 → Int32 → Int32 → Int32 → St → Prop) (v1 : Int32) (v2 : Int32) (v3 : Int32) (v4 : Int32) (v5 : Int32) (σ : St) : Prop := ((230 : Int32) ≤ v5 → w_X6_readNumber_J70 Post v1 v2 v3 v4 σ) ∧ (¬ (230 : Int32) ≤ v5 → w_X6_letterHere σ (fun x5 σ4 => w_X6_isFigure x5 σ4 (fun x7 σ6 => (x7 = 0 → w_X6_readNumber_J70 Post v1 v2 v3 v4 σ6) ∧ (¬ x7 = 0 → w_X6_letterHere σ6 (fun x10 σ9 => ∀ x11 : Int32, x11 = (if (9999 : Int32) < (((v4 * (10 : Int32)) + x10) - (48 : Int32)) then (9999 : Int32) else (((v4 * (10 : Int32)) + x10) - (48 : Int32))) → ∀ σ12 : St, σ12 = up σ9 1 3 (((σ9 1 3) + (1 : Int32))) → ∀ x13 : Int32, x13 = v5 + (1 : Int32) → K15 v1 v2 v3 x11 x13 σ12)))))
def w_X6_readNumber_L15 (Post : Int32 → St → Prop) : Nat → Int32 → Int32 → Int32 → Int32 → Int32 → St → Prop
  | 0 => fun _ _ _ _ _ _ => False
  | n + 1 => w_X6_readNumber_B15   Post (w_X6_readNumber_L15   Post n)
def w_X6_readNumber (p1 : Int32) (p2 : Int32) (σ : St) (Post : Int32 → St → Prop) : Prop := w_X6_skipBlanks σ (fun σ1 => ∀ x2 : Int32, x2 = (σ1 1 3) → w_X6_readNumber_L15 Post FU p1 p2 x2 (0 : Int32) (0 : Int32) σ1)
set_option maxHeartbeats 4000000 in
set_option maxRecDepth 100000 in
theorem b_X6_readNumber_J106 {Y : CY} {Z : CZ} (C : cx SC 6 Y Z cX6_readNumber RX6 wsX6_readNumber (some .int) rmX6_readNumber) {Post : Int32 → St → Prop} (hQ : Qi SC Y Z Post)  (v1 : Int32) (v3 : Int32) (σ : St) (h : w_X6_readNumber_J106  Post v1 v3 σ) : WW SC 6 Y Z σ 106 [(0, .ref (qa Y 1)), (1, .int v1), (3, .int v3)] [] := by
  unfold w_X6_readNumber_J106 at h
  refine q_aload_n C 0 dX6_readNumber_106 rfl ?_
  refine q_iconst (v := (2 : Int32)) C dX6_readNumber_107 (by decide) ?_
  refine q_iload_n C 2 dX6_readNumber_108 rfl ?_
  refine q_callVv (As := [.int (2 : Int32), .int v3]) (st := []) C (c_X6_setFault Y (2 : Int32) v3 σ _ h) gX6_readNumber_X6_setFault rfl ⟨rfl, nkX6_setFault⟩ rmOk_X6_readNumber__X6_setFault kC1 iC1 rfl rfl (Nat.le_of_ble_eq_true rfl) dX6_readNumber_109 rfl (fun σ20 h => ?_)
  refine q_iload_n C 1 dX6_readNumber_112 rfl ?_
  exact q_iret C hQ dX6_readNumber_113 h
set_option maxHeartbeats 4000000 in
set_option maxRecDepth 100000 in
theorem b_X6_readNumber_J70 {Y : CY} {Z : CZ} (C : cx SC 6 Y Z cX6_readNumber RX6 wsX6_readNumber (some .int) rmX6_readNumber) {Post : Int32 → St → Prop} (hQ : Qi SC Y Z Post)  (v1 : Int32) (v2 : Int32) (v3 : Int32) (v4 : Int32) (σ : St) (h : w_X6_readNumber_J70  Post v1 v2 v3 v4 σ) : WW SC 6 Y Z σ 70 [(0, .ref (qa Y 1)), (1, .int v1), (2, .int v2), (3, .int v3), (4, .int v4)] [] := by
  unfold w_X6_readNumber_J70 at h
  refine q_aload_n C 0 dX6_readNumber_70 rfl ?_
  refine q_geti (T := TX6) C kC1 iC1 inX6_readNumber_X6 rfl 3 (by decide) (List.mem_of_getElem? (i := 1) rfl) (fun _ h9 => h9) rfl dX6_readNumber_71 ?_
  refine q_iload_n C 3 dX6_readNumber_74 rfl ?_
  refine q_icmp_ne C 86 dX6_readNumber_75 (by decide) (fun c14 => ?_) (fun c14 => ?_)
  · replace h := h.1 c14
    refine q_aload_n C 0 dX6_readNumber_86 rfl ?_
    refine q_geti (T := TX6) C kC1 iC1 inX6_readNumber_X6 rfl 3 (by decide) (List.mem_of_getElem? (i := 1) rfl) (fun _ h9 => h9) rfl dX6_readNumber_87 ?_
    refine q_iload_n C 3 dX6_readNumber_90 rfl ?_
    refine q_isub C dX6_readNumber_91 ?_
    refine q_iconst (v := (3 : Int32)) C dX6_readNumber_92 (by decide) ?_
    refine q_icmp_gt C 106 dX6_readNumber_93 (by decide) (fun c15 => ?_) (fun c15 => ?_)
    · replace h := h.1 c15
      refine q_sub (lv' := [(0, .ref (qa Y 1)), (1, .int v1), (3, .int v3)]) [0, 1, 3] rfl ?_
      exact b_X6_readNumber_J106 C hQ v1 v3 σ h
    · replace h := h.2 c15
      refine q_iload C 4 dX6_readNumber_96 rfl ?_
      refine q_iload_n C 1 dX6_readNumber_98 rfl ?_
      refine q_iload_n C 2 dX6_readNumber_99 rfl ?_
      refine q_callNi (As := [.int v4, .int v1, .int v2]) (st := []) C (c_X8_isWithin Y v4 v1 v2 σ _ h) gX6_readNumber_X8_isWithin_n123 rfl rfl (List.mem_of_getElem? (i := 27) rfl) (List.mem_of_getElem? (i := 26) rfl) nkX8_isWithin rmOk_X6_readNumber__X8_isWithin rfl (Nat.le_of_ble_eq_true rfl) dX6_readNumber_100 rfl (fun x17 σ16 h => ?_)
      refine q_if_ne C 114 dX6_readNumber_103 (by decide) (fun c18 => ?_) (fun c18 => ?_)
      · replace h := h.1 c18
        refine q_iload C 4 dX6_readNumber_114 rfl ?_
        exact q_iret C hQ dX6_readNumber_116 h
      · replace h := h.2 c18
        refine q_sub (lv' := [(0, .ref (qa Y 1)), (1, .int v1), (3, .int v3)]) [0, 1, 3] rfl ?_
        exact b_X6_readNumber_J106 C hQ v1 v3 σ16 h
  · replace h := h.2 c14
    refine q_aload_n C 0 dX6_readNumber_78 rfl ?_
    refine q_iconst (v := (1 : Int32)) C dX6_readNumber_79 (by decide) ?_
    refine q_iload_n C 3 dX6_readNumber_80 rfl ?_
    refine q_callVv (As := [.int (1 : Int32), .int v3]) (st := []) C (c_X6_setFault Y (1 : Int32) v3 σ _ h) gX6_readNumber_X6_setFault rfl ⟨rfl, nkX6_setFault⟩ rmOk_X6_readNumber__X6_setFault kC1 iC1 rfl rfl (Nat.le_of_ble_eq_true rfl) dX6_readNumber_81 rfl (fun σ19 h => ?_)
    refine q_iload_n C 1 dX6_readNumber_84 rfl ?_
    exact q_iret C hQ dX6_readNumber_85 h
set_option maxHeartbeats 4000000 in
set_option maxRecDepth 100000 in
theorem b_X6_readNumber_B15 {Y : CY} {Z : CZ} (C : cx SC 6 Y Z cX6_readNumber RX6 wsX6_readNumber (some .int) rmX6_readNumber) {Post : Int32 → St → Prop} (hQ : Qi SC Y Z Post)  {K15 : Int32 → Int32 → Int32 → Int32 → Int32 → St → Prop} (hK15 : ∀ (v1 : Int32) (v2 : Int32) (v3 : Int32) (v4 : Int32) (v5 : Int32) (σ : St), K15 v1 v2 v3 v4 v5 σ → WW SC 6 Y Z σ 15 [(0, .ref (qa Y 1)), (1, .int v1), (2, .int v2), (3, .int v3), (4, .int v4), (5, .int v5)] []) (v1 : Int32) (v2 : Int32) (v3 : Int32) (v4 : Int32) (v5 : Int32) (σ : St) (h : w_X6_readNumber_B15  Post K15 v1 v2 v3 v4 v5 σ) : WW SC 6 Y Z σ 15 [(0, .ref (qa Y 1)), (1, .int v1), (2, .int v2), (3, .int v3), (4, .int v4), (5, .int v5)] [] := by
  unfold w_X6_readNumber_B15 at h
  refine q_iload C 5 dX6_readNumber_15 rfl ?_
  refine q_sipush (v := (230 : Int32)) C dX6_readNumber_17 (by decide) ?_
  refine q_icmp_ge C 70 dX6_readNumber_20 (by decide) (fun c3 => ?_) (fun c3 => ?_)
  · replace h := h.1 c3
    refine q_sub (lv' := [(0, .ref (qa Y 1)), (1, .int v1), (2, .int v2), (3, .int v3), (4, .int v4)]) [0, 1, 2, 3, 4] rfl ?_
    exact b_X6_readNumber_J70 C hQ v1 v2 v3 v4 σ h
  · replace h := h.2 c3
    refine q_aload_n C 0 dX6_readNumber_23 rfl ?_
    refine q_callVi (As := []) (st := []) C (c_X6_letterHere Y σ _ h) gX6_readNumber_X6_letterHere rfl ⟨rfl, nkX6_letterHere⟩ rmOk_X6_readNumber__X6_letterHere kC1 iC1 rfl rfl (Nat.le_of_ble_eq_true rfl) dX6_readNumber_24 rfl (fun x5 σ4 h => ?_)
    refine q_callSi (As := [.int x5]) (st := []) C (c_X6_isFigure Y x5 σ4 _ h) gX6_readNumber_X6_isFigure rfl nkX6_isFigure rmOk_X6_readNumber__X6_isFigure rfl (Nat.le_of_ble_eq_true rfl) dX6_readNumber_27 rfl (fun x7 σ6 h => ?_)
    refine q_if_eq C 70 dX6_readNumber_30 (by decide) (fun c8 => ?_) (fun c8 => ?_)
    · replace h := h.1 c8
      refine q_sub (lv' := [(0, .ref (qa Y 1)), (1, .int v1), (2, .int v2), (3, .int v3), (4, .int v4)]) [0, 1, 2, 3, 4] rfl ?_
      exact b_X6_readNumber_J70 C hQ v1 v2 v3 v4 σ6 h
    · replace h := h.2 c8
      refine q_iload C 4 dX6_readNumber_33 rfl ?_
      refine q_bipush (v := (10 : Int32)) C dX6_readNumber_35 (by decide) ?_
      refine q_imul C dX6_readNumber_37 ?_
      refine q_aload_n C 0 dX6_readNumber_38 rfl ?_
      refine q_callVi (As := []) (st := [.int (v4 * (10 : Int32))]) C (c_X6_letterHere Y σ6 _ h) gX6_readNumber_X6_letterHere rfl ⟨rfl, nkX6_letterHere⟩ rmOk_X6_readNumber__X6_letterHere kC1 iC1 rfl rfl (Nat.le_of_ble_eq_true rfl) dX6_readNumber_39 rfl (fun x10 σ9 h => ?_)
      refine q_iadd C dX6_readNumber_42 ?_
      refine q_bipush (v := (48 : Int32)) C dX6_readNumber_43 (by decide) ?_
      refine q_isub C dX6_readNumber_45 ?_
      refine q_sipush (v := (9999 : Int32)) C dX6_readNumber_46 (by decide) ?_
      refine q_mmin C (List.mem_of_getElem? (i := 2) rfl) (List.mem_of_getElem? (i := 3) rfl) (List.mem_of_getElem? (i := 4) rfl) (List.mem_of_getElem? (i := 5) rfl) (by decide) (Nat.le_of_ble_eq_true rfl) dX6_readNumber_49 ?_
      refine q_topi (fun x11 ex11 => ?_)
      replace h := h x11 ex11
      refine q_istore C [(4, .int x11), (0, .ref (qa Y 1)), (1, .int v1), (2, .int v2), (3, .int v3), (5, .int v5)] dX6_readNumber_52 (by decide) rfl ?_
      refine q_aload_n C 1 dX6_readNumber_54 rfl ?_
      refine q_dup C dX6_readNumber_55 rfl ?_
      refine q_geti (T := TX6) C kC1 iC1 inX6_readNumber_X6 rfl 3 (by decide) (List.mem_of_getElem? (i := 1) rfl) (fun _ h9 => h9) rfl dX6_readNumber_56 ?_
      refine q_iconst (v := (1 : Int32)) C dX6_readNumber_59 (by decide) ?_
      refine q_iadd C dX6_readNumber_60 ?_
      refine q_puti (T := TX6) C kC1 iC1 inX6_readNumber_X6 rfl tyX6 tyX6_ok nmX6 3 (by decide) (List.mem_of_getElem? (i := 1) rfl) (fun _ h9 => h9) rfl dgC1 rfl (ni_n _) (ni_f _) dX6_readNumber_61 ?_
      refine q_nmS (fun σ12 eσ12 => ?_)
      replace h := h σ12 eσ12
      obtain ⟨x13, ex13⟩ : ∃ y : Int32, y = v5 + (1 : Int32) := ⟨_, rfl⟩
      replace h := h x13 ex13
      refine q_iinc C x13 5 [(5, .int x13), (4, .int x11), (0, .ref (qa Y 1)), (1, .int v1), (2, .int v2), (3, .int v3)] dX6_readNumber_64 rfl (by rw [ex13]; rfl) (by decide) rfl ?_
      refine q_goto C 15 dX6_readNumber_67 (by decide) ?_
      refine q_sub (lv' := [(0, .ref (qa Y 1)), (1, .int v1), (2, .int v2), (3, .int v3), (4, .int x11), (5, .int x13)]) [2, 3, 4, 5, 1, 0] rfl ?_
      exact hK15 v1 v2 v3 x11 x13 σ12 h
theorem b_X6_readNumber_L15 {Y : CY} {Z : CZ} (C : cx SC 6 Y Z cX6_readNumber RX6 wsX6_readNumber (some .int) rmX6_readNumber) {Post : Int32 → St → Prop} (hQ : Qi SC Y Z Post)  : ∀ (n : Nat) (v1 : Int32) (v2 : Int32) (v3 : Int32) (v4 : Int32) (v5 : Int32) (σ : St) (h : w_X6_readNumber_L15  Post n v1 v2 v3 v4 v5 σ), WW SC 6 Y Z σ 15 [(0, .ref (qa Y 1)), (1, .int v1), (2, .int v2), (3, .int v3), (4, .int v4), (5, .int v5)] [] := by
  intro n
  induction n with
  | zero => intro v1 v2 v3 v4 v5 σ h; exact h.elim
  | succ n ih => intro v1 v2 v3 v4 v5 σ h; exact b_X6_readNumber_B15 C hQ  ih v1 v2 v3 v4 v5 σ h
set_option maxHeartbeats 4000000 in
set_option maxRecDepth 100000 in
theorem b_X6_readNumber {Y : CY} {Z : CZ} (C : cx SC 6 Y Z cX6_readNumber RX6 wsX6_readNumber (some .int) rmX6_readNumber) {Post : Int32 → St → Prop} (hQ : Qi SC Y Z Post)  (p1 : Int32) (p2 : Int32) (σ : St) (h : w_X6_readNumber p1 p2 σ Post) : WW SC 6 Y Z σ 0 [(0, .ref (qa Y 1)), (1, .int p1), (2, .int p2)] [] := by
  unfold w_X6_readNumber at h
  refine q_aload_n C 0 dX6_readNumber_0 rfl ?_
  refine q_callVv (As := []) (st := []) C (c_X6_skipBlanks Y σ _ h) gX6_readNumber_X6_skipBlanks rfl ⟨rfl, nkX6_skipBlanks⟩ rmOk_X6_readNumber__X6_skipBlanks kC1 iC1 rfl rfl (Nat.le_of_ble_eq_true rfl) dX6_readNumber_1 rfl (fun σ1 h => ?_)
  refine q_aload_n C 0 dX6_readNumber_4 rfl ?_
  refine q_geti (T := TX6) C kC1 iC1 inX6_readNumber_X6 rfl 3 (by decide) (List.mem_of_getElem? (i := 1) rfl) (fun _ h9 => h9) rfl dX6_readNumber_5 ?_
  refine q_topi (fun x2 ex2 => ?_)
  replace h := h x2 ex2
  refine q_istore_n C [(3, .int x2), (0, .ref (qa Y 1)), (1, .int p1), (2, .int p2)] dX6_readNumber_8 (by decide) rfl ?_
  refine q_iconst (v := (0 : Int32)) C dX6_readNumber_9 (by decide) ?_
  refine q_istore C [(4, .int (0 : Int32)), (3, .int x2), (0, .ref (qa Y 1)), (1, .int p1), (2, .int p2)] dX6_readNumber_10 (by decide) rfl ?_
  refine q_iconst (v := (0 : Int32)) C dX6_readNumber_12 (by decide) ?_
  refine q_istore C [(5, .int (0 : Int32)), (4, .int (0 : Int32)), (3, .int x2), (0, .ref (qa Y 1)), (1, .int p1), (2, .int p2)] dX6_readNumber_13 (by decide) rfl ?_
  refine q_sub (lv' := [(0, .ref (qa Y 1)), (1, .int p1), (2, .int p2), (3, .int x2), (4, .int (0 : Int32)), (5, .int (0 : Int32))]) [3, 4, 5, 2, 1, 0] rfl ?_
  exact b_X6_readNumber_L15 C hQ FU p1 p2 x2 (0 : Int32) (0 : Int32) σ1 h
theorem c_X6_readNumber (Y : CY)  (p1 : Int32) (p2 : Int32) (σ : St) (Post : Int32 → St → Prop) (h : w_X6_readNumber p1 p2 σ Post) : Ki SC Y yX6_readNumber wsX6_readNumber rmX6_readNumber [.ref (qa Y 1), .int p1, .int p2] σ Post :=
  Ki_of (cc := cX6_readNumber) (nL := 6) (ret := (some .int)) (by decide +kernel) rfl (Nat.le_of_ble_eq_true rfl) (fun Z C hQ => b_X6_readNumber C hQ  p1 p2 σ h)
abbrev rmX6_readButtons : Room := { frames := 3, cells := 0, slots := 0, locals := 66 }
theorem nkX6_readButtons : NmOk yX6_readButtons 1 := by decide +kernel
theorem rmOk_X6_readButtons__X6_readNumber : RmOk rmX6_readNumber rmX6_readButtons 6 := ⟨rfl, rfl, by decide, by decide⟩
theorem inX6_readButtons_X3 : ∀ w ∈ u_ws RX3 TX3 12, w ∈ wsX6_readButtons := fun _ h => List.mem_cons_of_mem _ (List.mem_append_right _ h)
theorem inX6_readButtons_X6 : ∀ w ∈ u_ws RX6 TX6 8, w ∈ wsX6_readButtons := fun _ h => List.mem_cons_of_mem _ (List.mem_append_left _ (List.mem_append_right _ h))
def w_X6_readButtons (σ : St) (Post : St → Prop) : Prop := ∀ σ1 : St, σ1 = up σ 1 6 (1 : Int32) → w_X6_readNumber (1 : Int32) (9 : Int32) σ1 (fun x3 σ2 => ∀ σ4 : St, σ4 = up σ2 7 7 x3 → Post σ4)
set_option maxHeartbeats 4000000 in
set_option maxRecDepth 100000 in
theorem b_X6_readButtons {Y : CY} {Z : CZ} (C : cx SC 2 Y Z cX6_readButtons RX6 wsX6_readButtons none rmX6_readButtons) {Post : St → Prop} (hQ : Qv SC Y Z Post)  (σ : St) (h : w_X6_readButtons  σ Post) : WW SC 2 Y Z σ 0 [(0, .ref (qa Y 1)), (1, .ref (qa Y 7))] [] := by
  unfold w_X6_readButtons at h
  refine q_aload_n C 0 dX6_readButtons_0 rfl ?_
  refine q_iconst (v := (1 : Int32)) C dX6_readButtons_1 (by decide) ?_
  refine q_puti (T := TX6) C kC1 iC1 inX6_readButtons_X6 rfl tyX6 tyX6_ok nmX6 6 (by decide) (List.mem_of_getElem? (i := 1) rfl) (fun _ h9 => h9) rfl dgC1 rfl (zb_n (by decide)) (zb_f (by decide)) dX6_readButtons_2 ?_
  refine q_nmS (fun σ1 eσ1 => ?_)
  replace h := h σ1 eσ1
  refine q_aload_n C 1 dX6_readButtons_5 rfl ?_
  refine q_aload_n C 0 dX6_readButtons_6 rfl ?_
  refine q_iconst (v := (1 : Int32)) C dX6_readButtons_7 (by decide) ?_
  refine q_bipush (v := (9 : Int32)) C dX6_readButtons_8 (by decide) ?_
  refine q_callVi (As := [.int (1 : Int32), .int (9 : Int32)]) (st := [.ref (qa Y 7)]) C (c_X6_readNumber Y (1 : Int32) (9 : Int32) σ1 _ h) gX6_readButtons_X6_readNumber rfl ⟨rfl, nkX6_readNumber⟩ rmOk_X6_readButtons__X6_readNumber kC1 iC1 rfl rfl (Nat.le_of_ble_eq_true rfl) dX6_readButtons_10 rfl (fun x3 σ2 h => ?_)
  refine q_puti (T := TX3) C kC7 iC7 inX6_readButtons_X3 rfl tyX3 tyX3_ok nmX3 7 (by decide) (List.mem_of_getElem? (i := 2) rfl) (fun _ h9 => h9) rfl (dgM _) rfl (ni_n _) (ni_f _) dX6_readButtons_13 ?_
  refine q_nmS (fun σ4 eσ4 => ?_)
  replace h := h σ4 eσ4
  exact q_vret C hQ dX6_readButtons_16 h
theorem c_X6_readButtons (Y : CY)  (σ : St) (Post : St → Prop) (h : w_X6_readButtons  σ Post) : Kv SC Y yX6_readButtons wsX6_readButtons rmX6_readButtons [.ref (qa Y 1), .ref (qa Y 7)] σ Post :=
  Kv_of (cc := cX6_readButtons) (nL := 2) (ret := none) (by decide +kernel) rfl (Nat.le_of_ble_eq_true rfl) (fun Z C hQ => b_X6_readButtons C hQ  σ h)
abbrev rmX6_readRates : Room := { frames := 3, cells := 0, slots := 0, locals := 66 }
theorem nkX6_readRates : NmOk yX6_readRates 1 := by decide +kernel
theorem rmOk_X6_readRates__X6_readNumber : RmOk rmX6_readNumber rmX6_readRates 6 := ⟨rfl, rfl, by decide, by decide⟩
theorem inX6_readRates_X3 : ∀ w ∈ u_ws RX3 TX3 12, w ∈ wsX6_readRates := fun _ h => List.mem_cons_of_mem _ (List.mem_append_left _ (List.mem_append_right _ h))
def w_X6_readRates (σ : St) (Post : St → Prop) : Prop := ∀ σ1 : St, σ1 = up σ 7 0 (1 : Int32) → w_X6_readNumber (0 : Int32) (18 : Int32) σ1 (fun x3 σ2 => ∀ σ4 : St, σ4 = up σ2 7 1 ((x3 - (9 : Int32))) → w_X6_readNumber (0 : Int32) (18 : Int32) σ4 (fun x6 σ5 => ∀ σ7 : St, σ7 = up σ5 7 2 ((x6 - (9 : Int32))) → w_X6_readNumber (1 : Int32) (999 : Int32) σ7 (fun x9 σ8 => ∀ σ10 : St, σ10 = up σ8 7 3 x9 → Post σ10)))
set_option maxHeartbeats 4000000 in
set_option maxRecDepth 100000 in
theorem b_X6_readRates {Y : CY} {Z : CZ} (C : cx SC 2 Y Z cX6_readRates RX6 wsX6_readRates none rmX6_readRates) {Post : St → Prop} (hQ : Qv SC Y Z Post)  (σ : St) (h : w_X6_readRates  σ Post) : WW SC 2 Y Z σ 0 [(0, .ref (qa Y 1)), (1, .ref (qa Y 7))] [] := by
  unfold w_X6_readRates at h
  refine q_aload_n C 1 dX6_readRates_0 rfl ?_
  refine q_iconst (v := (1 : Int32)) C dX6_readRates_1 (by decide) ?_
  refine q_puti (T := TX3) C kC7 iC7 inX6_readRates_X3 rfl tyX3 tyX3_ok nmX3 0 (by decide) (List.mem_of_getElem? (i := 1) rfl) (fun _ h9 => h9) rfl (dgM _) rfl (zb_n (by decide)) (zb_f (by decide)) dX6_readRates_2 ?_
  refine q_nmS (fun σ1 eσ1 => ?_)
  replace h := h σ1 eσ1
  refine q_aload_n C 1 dX6_readRates_5 rfl ?_
  refine q_aload_n C 0 dX6_readRates_6 rfl ?_
  refine q_iconst (v := (0 : Int32)) C dX6_readRates_7 (by decide) ?_
  refine q_bipush (v := (18 : Int32)) C dX6_readRates_8 (by decide) ?_
  refine q_callVi (As := [.int (0 : Int32), .int (18 : Int32)]) (st := [.ref (qa Y 7)]) C (c_X6_readNumber Y (0 : Int32) (18 : Int32) σ1 _ h) gX6_readRates_X6_readNumber rfl ⟨rfl, nkX6_readNumber⟩ rmOk_X6_readRates__X6_readNumber kC1 iC1 rfl rfl (Nat.le_of_ble_eq_true rfl) dX6_readRates_10 rfl (fun x3 σ2 h => ?_)
  refine q_bipush (v := (9 : Int32)) C dX6_readRates_13 (by decide) ?_
  refine q_isub C dX6_readRates_15 ?_
  refine q_puti (T := TX3) C kC7 iC7 inX6_readRates_X3 rfl tyX3 tyX3_ok nmX3 1 (by decide) (List.mem_of_getElem? (i := 2) rfl) (fun _ h9 => h9) rfl (dgM _) rfl (ni_n _) (ni_f _) dX6_readRates_16 ?_
  refine q_nmS (fun σ4 eσ4 => ?_)
  replace h := h σ4 eσ4
  refine q_aload_n C 1 dX6_readRates_19 rfl ?_
  refine q_aload_n C 0 dX6_readRates_20 rfl ?_
  refine q_iconst (v := (0 : Int32)) C dX6_readRates_21 (by decide) ?_
  refine q_bipush (v := (18 : Int32)) C dX6_readRates_22 (by decide) ?_
  refine q_callVi (As := [.int (0 : Int32), .int (18 : Int32)]) (st := [.ref (qa Y 7)]) C (c_X6_readNumber Y (0 : Int32) (18 : Int32) σ4 _ h) gX6_readRates_X6_readNumber rfl ⟨rfl, nkX6_readNumber⟩ rmOk_X6_readRates__X6_readNumber kC1 iC1 rfl rfl (Nat.le_of_ble_eq_true rfl) dX6_readRates_24 rfl (fun x6 σ5 h => ?_)
  refine q_bipush (v := (9 : Int32)) C dX6_readRates_27 (by decide) ?_
  refine q_isub C dX6_readRates_29 ?_
  refine q_puti (T := TX3) C kC7 iC7 inX6_readRates_X3 rfl tyX3 tyX3_ok nmX3 2 (by decide) (List.mem_of_getElem? (i := 3) rfl) (fun _ h9 => h9) rfl (dgM _) rfl (ni_n _) (ni_f _) dX6_readRates_30 ?_
  refine q_nmS (fun σ7 eσ7 => ?_)
  replace h := h σ7 eσ7
  refine q_aload_n C 1 dX6_readRates_33 rfl ?_
  refine q_aload_n C 0 dX6_readRates_34 rfl ?_
  refine q_iconst (v := (1 : Int32)) C dX6_readRates_35 (by decide) ?_
  refine q_sipush (v := (999 : Int32)) C dX6_readRates_36 (by decide) ?_
  refine q_callVi (As := [.int (1 : Int32), .int (999 : Int32)]) (st := [.ref (qa Y 7)]) C (c_X6_readNumber Y (1 : Int32) (999 : Int32) σ7 _ h) gX6_readRates_X6_readNumber rfl ⟨rfl, nkX6_readNumber⟩ rmOk_X6_readRates__X6_readNumber kC1 iC1 rfl rfl (Nat.le_of_ble_eq_true rfl) dX6_readRates_39 rfl (fun x9 σ8 h => ?_)
  refine q_puti (T := TX3) C kC7 iC7 inX6_readRates_X3 rfl tyX3 tyX3_ok nmX3 3 (by decide) (List.mem_of_getElem? (i := 4) rfl) (fun _ h9 => h9) rfl (dgM _) rfl (ni_n _) (ni_f _) dX6_readRates_42 ?_
  refine q_nmS (fun σ10 eσ10 => ?_)
  replace h := h σ10 eσ10
  exact q_vret C hQ dX6_readRates_45 h
theorem c_X6_readRates (Y : CY)  (σ : St) (Post : St → Prop) (h : w_X6_readRates  σ Post) : Kv SC Y yX6_readRates wsX6_readRates rmX6_readRates [.ref (qa Y 1), .ref (qa Y 7)] σ Post :=
  Kv_of (cc := cX6_readRates) (nL := 2) (ret := none) (by decide +kernel) rfl (Nat.le_of_ble_eq_true rfl) (fun Z C hQ => b_X6_readRates C hQ  σ h)
abbrev rmX6_takes : Room := { frames := 2, cells := 0, slots := 0, locals := 41 }
theorem nkX6_takes : NmOk yX6_takes 1 := by decide +kernel
theorem rmOk_X6_takes__X6_letterHere : RmOk rmX6_letterHere rmX6_takes 1 := ⟨rfl, rfl, by decide, by decide⟩
theorem rmOk_X6_takes__X6_skipBlanks : RmOk rmX6_skipBlanks rmX6_takes 2 := ⟨rfl, rfl, by decide, by decide⟩
theorem inX6_takes_X6 : ∀ w ∈ u_ws RX6 TX6 8, w ∈ wsX6_takes := fun _ h => List.mem_cons_of_mem _ (List.mem_append_right _ h)
def w_X6_takes (p1 : Int32) (σ : St) (Post : Int32 → St → Prop) : Prop := w_X6_skipBlanks σ (fun σ1 => w_X6_letterHere σ1 (fun x3 σ2 => (x3 = p1 → ∀ σ5 : St, σ5 = up σ2 1 3 (((σ2 1 3) + (1 : Int32))) → Post (1 : Int32) σ5) ∧ (¬ x3 = p1 → Post (0 : Int32) σ2)))
set_option maxHeartbeats 4000000 in
set_option maxRecDepth 100000 in
theorem b_X6_takes {Y : CY} {Z : CZ} (C : cx SC 2 Y Z cX6_takes RX6 wsX6_takes (some .boolean) rmX6_takes) {Post : Int32 → St → Prop} (hQ : Qi SC Y Z Post)  (p1 : Int32) (σ : St) (h : w_X6_takes p1 σ Post) : WW SC 2 Y Z σ 0 [(0, .ref (qa Y 1)), (1, .int p1)] [] := by
  unfold w_X6_takes at h
  refine q_aload_n C 0 dX6_takes_0 rfl ?_
  refine q_callVv (As := []) (st := []) C (c_X6_skipBlanks Y σ _ h) gX6_takes_X6_skipBlanks rfl ⟨rfl, nkX6_skipBlanks⟩ rmOk_X6_takes__X6_skipBlanks kC1 iC1 rfl rfl (Nat.le_of_ble_eq_true rfl) dX6_takes_1 rfl (fun σ1 h => ?_)
  refine q_aload_n C 0 dX6_takes_4 rfl ?_
  refine q_callVi (As := []) (st := []) C (c_X6_letterHere Y σ1 _ h) gX6_takes_X6_letterHere rfl ⟨rfl, nkX6_letterHere⟩ rmOk_X6_takes__X6_letterHere kC1 iC1 rfl rfl (Nat.le_of_ble_eq_true rfl) dX6_takes_5 rfl (fun x3 σ2 h => ?_)
  refine q_iload_n C 1 dX6_takes_8 rfl ?_
  refine q_icmp_eq C 14 dX6_takes_9 (by decide) (fun c4 => ?_) (fun c4 => ?_)
  · replace h := h.1 c4
    refine q_aload_n C 0 dX6_takes_14 rfl ?_
    refine q_dup C dX6_takes_15 rfl ?_
    refine q_geti (T := TX6) C kC1 iC1 inX6_takes_X6 rfl 3 (by decide) (List.mem_of_getElem? (i := 1) rfl) (fun _ h9 => h9) rfl dX6_takes_16 ?_
    refine q_iconst (v := (1 : Int32)) C dX6_takes_19 (by decide) ?_
    refine q_iadd C dX6_takes_20 ?_
    refine q_puti (T := TX6) C kC1 iC1 inX6_takes_X6 rfl tyX6 tyX6_ok nmX6 3 (by decide) (List.mem_of_getElem? (i := 1) rfl) (fun _ h9 => h9) rfl dgC1 rfl (ni_n _) (ni_f _) dX6_takes_21 ?_
    refine q_nmS (fun σ5 eσ5 => ?_)
    replace h := h σ5 eσ5
    refine q_iconst (v := (1 : Int32)) C dX6_takes_24 (by decide) ?_
    exact q_zret C hQ (zb_n (by decide)) dX6_takes_25 h
  · replace h := h.2 c4
    refine q_iconst (v := (0 : Int32)) C dX6_takes_12 (by decide) ?_
    exact q_zret C hQ (zb_n (by decide)) dX6_takes_13 h
theorem c_X6_takes (Y : CY)  (p1 : Int32) (σ : St) (Post : Int32 → St → Prop) (h : w_X6_takes p1 σ Post) : Ki SC Y yX6_takes wsX6_takes rmX6_takes [.ref (qa Y 1), .int p1] σ Post :=
  Ki_of (cc := cX6_takes) (nL := 2) (ret := (some .boolean)) (by decide +kernel) rfl (Nat.le_of_ble_eq_true rfl) (fun Z C hQ => b_X6_takes C hQ  p1 σ h)
abbrev rmX6_readWorm : Room := { frames := 3, cells := 0, slots := 0, locals := 66 }
theorem nkX6_readWorm : NmOk yX6_readWorm 1 := by decide +kernel
theorem rmOk_X6_readWorm__X3_setWorm : RmOk rmX3_setWorm rmX6_readWorm 3 := ⟨rfl, rfl, by decide, by decide⟩
theorem rmOk_X6_readWorm__X6_readNumber : RmOk rmX6_readNumber rmX6_readWorm 6 := ⟨rfl, rfl, by decide, by decide⟩
theorem rmOk_X6_readWorm__X6_takes : RmOk rmX6_takes rmX6_readWorm 2 := ⟨rfl, rfl, by decide, by decide⟩
theorem inX6_readWorm_X6 : ∀ w ∈ u_ws RX6 TX6 8, w ∈ wsX6_readWorm := fun _ h => List.mem_cons_of_mem _ (List.mem_append_left _ (List.mem_append_right _ h))
def w_X6_readWorm_J26 (K7 : Int32 → St → Prop) (Post : St → Prop) (v2 : Int32) (σ : St) : Prop := w_X6_readNumber (0 : Int32) (18 : Int32) σ (fun x8 σ7 => w_X3_setWorm 7 v2 ((x8 - (9 : Int32))) σ7 (fun σ9 => ∀ x10 : Int32, x10 = v2 + (1 : Int32) → K7 x10 σ9))
def w_X6_readWorm_B7 (Post : St → Prop) (K7 : Int32 → St → Prop) (v2 : Int32) (σ : St) : Prop := (v2 = 0 → w_X6_readWorm_J26 K7 Post v2 σ) ∧ (¬ v2 = 0 → ((9 : Int32) ≤ v2 → Post σ) ∧ (¬ (9 : Int32) ≤ v2 → w_X6_takes (44 : Int32) σ (fun x5 σ4 => (x5 = 0 → Post σ4) ∧ (¬ x5 = 0 → w_X6_readWorm_J26 K7 Post v2 σ4))))
def w_X6_readWorm_L7 (Post : St → Prop) : Nat → Int32 → St → Prop
  | 0 => fun _ _ => False
  | n + 1 => w_X6_readWorm_B7   Post (w_X6_readWorm_L7   Post n)
def w_X6_readWorm (σ : St) (Post : St → Prop) : Prop := ∀ σ1 : St, σ1 = up σ 1 4 (1 : Int32) → w_X6_readWorm_L7 Post FU (0 : Int32) σ1
set_option maxHeartbeats 4000000 in
set_option maxRecDepth 100000 in
theorem b_X6_readWorm_J26 {Y : CY} {Z : CZ} (C : cx SC 3 Y Z cX6_readWorm RX6 wsX6_readWorm none rmX6_readWorm) {Post : St → Prop} (hQ : Qv SC Y Z Post)  {K7 : Int32 → St → Prop} (hK7 : ∀ (v2 : Int32) (σ : St), K7 v2 σ → WW SC 3 Y Z σ 7 [(0, .ref (qa Y 1)), (1, .ref (qa Y 7)), (2, .int v2)] []) (v2 : Int32) (σ : St) (h : w_X6_readWorm_J26 K7 Post v2 σ) : WW SC 3 Y Z σ 26 [(0, .ref (qa Y 1)), (1, .ref (qa Y 7)), (2, .int v2)] [] := by
  unfold w_X6_readWorm_J26 at h
  refine q_aload_n C 1 dX6_readWorm_26 rfl ?_
  refine q_iload_n C 2 dX6_readWorm_27 rfl ?_
  refine q_aload_n C 0 dX6_readWorm_28 rfl ?_
  refine q_iconst (v := (0 : Int32)) C dX6_readWorm_29 (by decide) ?_
  refine q_bipush (v := (18 : Int32)) C dX6_readWorm_30 (by decide) ?_
  refine q_callVi (As := [.int (0 : Int32), .int (18 : Int32)]) (st := [.int v2, .ref (qa Y 7)]) C (c_X6_readNumber Y (0 : Int32) (18 : Int32) σ _ h) gX6_readWorm_X6_readNumber rfl ⟨rfl, nkX6_readNumber⟩ rmOk_X6_readWorm__X6_readNumber kC1 iC1 rfl rfl (Nat.le_of_ble_eq_true rfl) dX6_readWorm_32 rfl (fun x8 σ7 h => ?_)
  refine q_bipush (v := (9 : Int32)) C dX6_readWorm_35 (by decide) ?_
  refine q_isub C dX6_readWorm_37 ?_
  refine q_callVv (As := [.int v2, .int (x8 - (9 : Int32))]) (st := []) C (c_X3_setWorm Y kC7 iC7 kC8 iC8 kC9 iC9 kC10 iC10 v2 ((x8 - (9 : Int32))) σ7 _ h) gX6_readWorm_X3_setWorm rfl ⟨rfl, nkX3_setWorm⟩ rmOk_X6_readWorm__X3_setWorm kC7 iC7 rfl rfl (Nat.le_of_ble_eq_true rfl) dX6_readWorm_38 rfl (fun σ9 h => ?_)
  obtain ⟨x10, ex10⟩ : ∃ y : Int32, y = v2 + (1 : Int32) := ⟨_, rfl⟩
  replace h := h x10 ex10
  refine q_iinc C x10 2 [(2, .int x10), (0, .ref (qa Y 1)), (1, .ref (qa Y 7))] dX6_readWorm_41 rfl (by rw [ex10]; rfl) (by decide) rfl ?_
  refine q_goto C 7 dX6_readWorm_44 (by decide) ?_
  refine q_sub (lv' := [(0, .ref (qa Y 1)), (1, .ref (qa Y 7)), (2, .int x10)]) [1, 2, 0] rfl ?_
  exact hK7 x10 σ9 h
set_option maxHeartbeats 4000000 in
set_option maxRecDepth 100000 in
theorem b_X6_readWorm_B7 {Y : CY} {Z : CZ} (C : cx SC 3 Y Z cX6_readWorm RX6 wsX6_readWorm none rmX6_readWorm) {Post : St → Prop} (hQ : Qv SC Y Z Post)  {K7 : Int32 → St → Prop} (hK7 : ∀ (v2 : Int32) (σ : St), K7 v2 σ → WW SC 3 Y Z σ 7 [(0, .ref (qa Y 1)), (1, .ref (qa Y 7)), (2, .int v2)] []) (v2 : Int32) (σ : St) (h : w_X6_readWorm_B7  Post K7 v2 σ) : WW SC 3 Y Z σ 7 [(0, .ref (qa Y 1)), (1, .ref (qa Y 7)), (2, .int v2)] [] := by
  unfold w_X6_readWorm_B7 at h
  refine q_iload_n C 2 dX6_readWorm_7 rfl ?_
  refine q_if_eq C 26 dX6_readWorm_8 (by decide) (fun c2 => ?_) (fun c2 => ?_)
  · replace h := h.1 c2
    exact b_X6_readWorm_J26 C hQ hK7 v2 σ h
  · replace h := h.2 c2
    refine q_iload_n C 2 dX6_readWorm_11 rfl ?_
    refine q_bipush (v := (9 : Int32)) C dX6_readWorm_12 (by decide) ?_
    refine q_icmp_ge C 47 dX6_readWorm_14 (by decide) (fun c3 => ?_) (fun c3 => ?_)
    · replace h := h.1 c3
      exact q_vret C hQ dX6_readWorm_47 h
    · replace h := h.2 c3
      refine q_aload_n C 0 dX6_readWorm_17 rfl ?_
      refine q_bipush (v := (44 : Int32)) C dX6_readWorm_18 (by decide) ?_
      refine q_callVi (As := [.int (44 : Int32)]) (st := []) C (c_X6_takes Y (44 : Int32) σ _ h) gX6_readWorm_X6_takes rfl ⟨rfl, nkX6_takes⟩ rmOk_X6_readWorm__X6_takes kC1 iC1 rfl rfl (Nat.le_of_ble_eq_true rfl) dX6_readWorm_20 rfl (fun x5 σ4 h => ?_)
      refine q_if_eq C 47 dX6_readWorm_23 (by decide) (fun c6 => ?_) (fun c6 => ?_)
      · replace h := h.1 c6
        exact q_vret C hQ dX6_readWorm_47 h
      · replace h := h.2 c6
        exact b_X6_readWorm_J26 C hQ hK7 v2 σ4 h
theorem b_X6_readWorm_L7 {Y : CY} {Z : CZ} (C : cx SC 3 Y Z cX6_readWorm RX6 wsX6_readWorm none rmX6_readWorm) {Post : St → Prop} (hQ : Qv SC Y Z Post)  : ∀ (n : Nat) (v2 : Int32) (σ : St) (h : w_X6_readWorm_L7  Post n v2 σ), WW SC 3 Y Z σ 7 [(0, .ref (qa Y 1)), (1, .ref (qa Y 7)), (2, .int v2)] [] := by
  intro n
  induction n with
  | zero => intro v2 σ h; exact h.elim
  | succ n ih => intro v2 σ h; exact b_X6_readWorm_B7 C hQ  ih v2 σ h
set_option maxHeartbeats 4000000 in
set_option maxRecDepth 100000 in
theorem b_X6_readWorm {Y : CY} {Z : CZ} (C : cx SC 3 Y Z cX6_readWorm RX6 wsX6_readWorm none rmX6_readWorm) {Post : St → Prop} (hQ : Qv SC Y Z Post)  (σ : St) (h : w_X6_readWorm  σ Post) : WW SC 3 Y Z σ 0 [(0, .ref (qa Y 1)), (1, .ref (qa Y 7))] [] := by
  unfold w_X6_readWorm at h
  refine q_aload_n C 0 dX6_readWorm_0 rfl ?_
  refine q_iconst (v := (1 : Int32)) C dX6_readWorm_1 (by decide) ?_
  refine q_puti (T := TX6) C kC1 iC1 inX6_readWorm_X6 rfl tyX6 tyX6_ok nmX6 4 (by decide) (List.mem_of_getElem? (i := 1) rfl) (fun _ h9 => h9) rfl dgC1 rfl (zb_n (by decide)) (zb_f (by decide)) dX6_readWorm_2 ?_
  refine q_nmS (fun σ1 eσ1 => ?_)
  replace h := h σ1 eσ1
  refine q_iconst (v := (0 : Int32)) C dX6_readWorm_5 (by decide) ?_
  refine q_istore_n C [(2, .int (0 : Int32)), (0, .ref (qa Y 1)), (1, .ref (qa Y 7))] dX6_readWorm_6 (by decide) rfl ?_
  refine q_sub (lv' := [(0, .ref (qa Y 1)), (1, .ref (qa Y 7)), (2, .int (0 : Int32))]) [1, 2, 0] rfl ?_
  exact b_X6_readWorm_L7 C hQ FU (0 : Int32) σ1 h
theorem c_X6_readWorm (Y : CY)  (σ : St) (Post : St → Prop) (h : w_X6_readWorm  σ Post) : Kv SC Y yX6_readWorm wsX6_readWorm rmX6_readWorm [.ref (qa Y 1), .ref (qa Y 7)] σ Post :=
  Kv_of (cc := cX6_readWorm) (nL := 3) (ret := none) (by decide +kernel) rfl (Nat.le_of_ble_eq_true rfl) (fun Z C hQ => b_X6_readWorm C hQ  σ h)
abbrev rmX6_readJump : Room := { frames := 3, cells := 0, slots := 0, locals := 66 }
theorem nkX6_readJump : NmOk yX6_readJump 1 := by decide +kernel
theorem rmOk_X6_readJump__X6_readNumber : RmOk rmX6_readNumber rmX6_readJump 6 := ⟨rfl, rfl, by decide, by decide⟩
theorem inX6_readJump_X3 : ∀ w ∈ u_ws RX3 TX3 12, w ∈ wsX6_readJump := fun _ h => List.mem_cons_of_mem _ (List.mem_append_right _ h)
theorem inX6_readJump_X6 : ∀ w ∈ u_ws RX6 TX6 8, w ∈ wsX6_readJump := fun _ h => List.mem_cons_of_mem _ (List.mem_append_left _ (List.mem_append_right _ h))
def w_X6_readJump (σ : St) (Post : St → Prop) : Prop := ∀ σ1 : St, σ1 = up σ 1 5 (1 : Int32) → w_X6_readNumber (0 : Int32) (999 : Int32) σ1 (fun x3 σ2 => ∀ σ4 : St, σ4 = up σ2 7 5 x3 → w_X6_readNumber (0 : Int32) (198 : Int32) σ4 (fun x6 σ5 => ∀ σ7 : St, σ7 = up σ5 7 6 ((x6 - (99 : Int32))) → Post σ7))
set_option maxHeartbeats 4000000 in
set_option maxRecDepth 100000 in
theorem b_X6_readJump {Y : CY} {Z : CZ} (C : cx SC 2 Y Z cX6_readJump RX6 wsX6_readJump none rmX6_readJump) {Post : St → Prop} (hQ : Qv SC Y Z Post)  (σ : St) (h : w_X6_readJump  σ Post) : WW SC 2 Y Z σ 0 [(0, .ref (qa Y 1)), (1, .ref (qa Y 7))] [] := by
  unfold w_X6_readJump at h
  refine q_aload_n C 0 dX6_readJump_0 rfl ?_
  refine q_iconst (v := (1 : Int32)) C dX6_readJump_1 (by decide) ?_
  refine q_puti (T := TX6) C kC1 iC1 inX6_readJump_X6 rfl tyX6 tyX6_ok nmX6 5 (by decide) (List.mem_of_getElem? (i := 1) rfl) (fun _ h9 => h9) rfl dgC1 rfl (zb_n (by decide)) (zb_f (by decide)) dX6_readJump_2 ?_
  refine q_nmS (fun σ1 eσ1 => ?_)
  replace h := h σ1 eσ1
  refine q_aload_n C 1 dX6_readJump_5 rfl ?_
  refine q_aload_n C 0 dX6_readJump_6 rfl ?_
  refine q_iconst (v := (0 : Int32)) C dX6_readJump_7 (by decide) ?_
  refine q_sipush (v := (999 : Int32)) C dX6_readJump_8 (by decide) ?_
  refine q_callVi (As := [.int (0 : Int32), .int (999 : Int32)]) (st := [.ref (qa Y 7)]) C (c_X6_readNumber Y (0 : Int32) (999 : Int32) σ1 _ h) gX6_readJump_X6_readNumber rfl ⟨rfl, nkX6_readNumber⟩ rmOk_X6_readJump__X6_readNumber kC1 iC1 rfl rfl (Nat.le_of_ble_eq_true rfl) dX6_readJump_11 rfl (fun x3 σ2 h => ?_)
  refine q_puti (T := TX3) C kC7 iC7 inX6_readJump_X3 rfl tyX3 tyX3_ok nmX3 5 (by decide) (List.mem_of_getElem? (i := 2) rfl) (fun _ h9 => h9) rfl (dgM _) rfl (ni_n _) (ni_f _) dX6_readJump_14 ?_
  refine q_nmS (fun σ4 eσ4 => ?_)
  replace h := h σ4 eσ4
  refine q_aload_n C 1 dX6_readJump_17 rfl ?_
  refine q_aload_n C 0 dX6_readJump_18 rfl ?_
  refine q_iconst (v := (0 : Int32)) C dX6_readJump_19 (by decide) ?_
  refine q_sipush (v := (198 : Int32)) C dX6_readJump_20 (by decide) ?_
  refine q_callVi (As := [.int (0 : Int32), .int (198 : Int32)]) (st := [.ref (qa Y 7)]) C (c_X6_readNumber Y (0 : Int32) (198 : Int32) σ4 _ h) gX6_readJump_X6_readNumber rfl ⟨rfl, nkX6_readNumber⟩ rmOk_X6_readJump__X6_readNumber kC1 iC1 rfl rfl (Nat.le_of_ble_eq_true rfl) dX6_readJump_23 rfl (fun x6 σ5 h => ?_)
  refine q_bipush (v := (99 : Int32)) C dX6_readJump_26 (by decide) ?_
  refine q_isub C dX6_readJump_28 ?_
  refine q_puti (T := TX3) C kC7 iC7 inX6_readJump_X3 rfl tyX3 tyX3_ok nmX3 6 (by decide) (List.mem_of_getElem? (i := 3) rfl) (fun _ h9 => h9) rfl (dgM _) rfl (ni_n _) (ni_f _) dX6_readJump_29 ?_
  refine q_nmS (fun σ7 eσ7 => ?_)
  replace h := h σ7 eσ7
  exact q_vret C hQ dX6_readJump_32 h
theorem c_X6_readJump (Y : CY)  (σ : St) (Post : St → Prop) (h : w_X6_readJump  σ Post) : Kv SC Y yX6_readJump wsX6_readJump rmX6_readJump [.ref (qa Y 1), .ref (qa Y 7)] σ Post :=
  Kv_of (cc := cX6_readJump) (nL := 2) (ret := none) (by decide +kernel) rfl (Nat.le_of_ble_eq_true rfl) (fun Z C hQ => b_X6_readJump C hQ  σ h)
abbrev rmX6_readStar : Room := { frames := 3, cells := 0, slots := 0, locals := 66 }
theorem nkX6_readStar : NmOk yX6_readStar 1 := by decide +kernel
theorem rmOk_X6_readStar__X3_addStar : RmOk rmX3_addStar rmX6_readStar 3 := ⟨rfl, rfl, by decide, by decide⟩
theorem rmOk_X6_readStar__X6_readNumber : RmOk rmX6_readNumber rmX6_readStar 6 := ⟨rfl, rfl, by decide, by decide⟩
def w_X6_readStar (σ : St) (Post : St → Prop) : Prop := w_X6_readNumber (0 : Int32) (99 : Int32) σ (fun x2 σ1 => w_X6_readNumber (1 : Int32) (9 : Int32) σ1 (fun x4 σ3 => w_X3_addStar x2 x4 σ3 (fun σ5 => Post σ5)))
set_option maxHeartbeats 4000000 in
set_option maxRecDepth 100000 in
theorem b_X6_readStar {Y : CY} {Z : CZ} (C : cx SC 4 Y Z cX6_readStar RX6 wsX6_readStar none rmX6_readStar) {Post : St → Prop} (hQ : Qv SC Y Z Post)  (σ : St) (h : w_X6_readStar  σ Post) : WW SC 4 Y Z σ 0 [(0, .ref (qa Y 1)), (1, .ref (qa Y 7))] [] := by
  unfold w_X6_readStar at h
  refine q_aload_n C 0 dX6_readStar_0 rfl ?_
  refine q_iconst (v := (0 : Int32)) C dX6_readStar_1 (by decide) ?_
  refine q_bipush (v := (99 : Int32)) C dX6_readStar_2 (by decide) ?_
  refine q_callVi (As := [.int (0 : Int32), .int (99 : Int32)]) (st := []) C (c_X6_readNumber Y (0 : Int32) (99 : Int32) σ _ h) gX6_readStar_X6_readNumber rfl ⟨rfl, nkX6_readNumber⟩ rmOk_X6_readStar__X6_readNumber kC1 iC1 rfl rfl (Nat.le_of_ble_eq_true rfl) dX6_readStar_4 rfl (fun x2 σ1 h => ?_)
  refine q_istore_n C [(2, .int x2), (0, .ref (qa Y 1)), (1, .ref (qa Y 7))] dX6_readStar_7 (by decide) rfl ?_
  refine q_aload_n C 1 dX6_readStar_8 rfl ?_
  refine q_iconst (v := (1 : Int32)) C dX6_readStar_9 (by decide) ?_
  refine q_bipush (v := (9 : Int32)) C dX6_readStar_10 (by decide) ?_
  refine q_callVi (As := [.int (1 : Int32), .int (9 : Int32)]) (st := []) C (c_X6_readNumber Y (1 : Int32) (9 : Int32) σ1 _ h) gX6_readStar_X6_readNumber rfl ⟨rfl, nkX6_readNumber⟩ rmOk_X6_readStar__X6_readNumber kC1 iC1 rfl rfl (Nat.le_of_ble_eq_true rfl) dX6_readStar_12 rfl (fun x4 σ3 h => ?_)
  refine q_istore_n C [(3, .int x4), (2, .int x2), (0, .ref (qa Y 1)), (1, .ref (qa Y 7))] dX6_readStar_15 (by decide) rfl ?_
  refine q_aload_n C 3 dX6_readStar_16 rfl ?_
  refine q_iload_n C 1 dX6_readStar_17 rfl ?_
  refine q_iload_n C 0 dX6_readStar_18 rfl ?_
  refine q_callVv (As := [.int x2, .int x4]) (st := []) C (c_X3_addStar Y x2 x4 σ3 _ h) gX6_readStar_X3_addStar rfl ⟨rfl, nkX3_addStar⟩ rmOk_X6_readStar__X3_addStar kC7 iC7 rfl rfl (Nat.le_of_ble_eq_true rfl) dX6_readStar_19 rfl (fun σ5 h => ?_)
  exact q_vret C hQ dX6_readStar_22 h
theorem c_X6_readStar (Y : CY)  (σ : St) (Post : St → Prop) (h : w_X6_readStar  σ Post) : Kv SC Y yX6_readStar wsX6_readStar rmX6_readStar [.ref (qa Y 1), .ref (qa Y 7)] σ Post :=
  Kv_of (cc := cX6_readStar) (nL := 4) (ret := none) (by decide +kernel) rfl (Nat.le_of_ble_eq_true rfl) (fun Z C hQ => b_X6_readStar C hQ  σ h)
abbrev rmX6_readClause : Room := { frames := 4, cells := 0, slots := 0, locals := 89 }
theorem nkX6_readClause : NmOk yX6_readClause 1 := by decide +kernel
theorem rmOk_X6_readClause__X6_faultOfWord : RmOk rmX6_faultOfWord rmX6_readClause 3 := ⟨rfl, rfl, by decide, by decide⟩
theorem rmOk_X6_readClause__X6_letterHere : RmOk rmX6_letterHere rmX6_readClause 1 := ⟨rfl, rfl, by decide, by decide⟩
theorem rmOk_X6_readClause__X6_readButtons : RmOk rmX6_readButtons rmX6_readClause 2 := ⟨rfl, rfl, by decide, by decide⟩
theorem rmOk_X6_readClause__X6_readJump : RmOk rmX6_readJump rmX6_readClause 2 := ⟨rfl, rfl, by decide, by decide⟩
theorem rmOk_X6_readClause__X6_readRates : RmOk rmX6_readRates rmX6_readClause 2 := ⟨rfl, rfl, by decide, by decide⟩
theorem rmOk_X6_readClause__X6_readStar : RmOk rmX6_readStar rmX6_readClause 4 := ⟨rfl, rfl, by decide, by decide⟩
theorem rmOk_X6_readClause__X6_readWorm : RmOk rmX6_readWorm rmX6_readClause 3 := ⟨rfl, rfl, by decide, by decide⟩
theorem rmOk_X6_readClause__X6_setFault : RmOk rmX6_setFault rmX6_readClause 3 := ⟨rfl, rfl, by decide, by decide⟩
theorem rmOk_X6_readClause__X6_takes : RmOk rmX6_takes rmX6_readClause 2 := ⟨rfl, rfl, by decide, by decide⟩
theorem inX6_readClause_X6 : ∀ w ∈ u_ws RX6 TX6 8, w ∈ wsX6_readClause := fun _ h => List.mem_cons_of_mem _ (List.mem_append_left _ (List.mem_append_right _ h))
def w_X6_readClause_J117 (Post : St → Prop) (σ : St) : Prop := w_X6_takes (59 : Int32) σ (fun x18 σ17 => (¬ x18 = 0 → Post σ17) ∧ (x18 = 0 → w_X6_setFault (1 : Int32) ((σ17 1 3)) σ17 (fun σ20 => Post σ20)))
def w_X6_readClause (σ : St) (Post : St → Prop) : Prop := w_X6_letterHere σ (fun x2 σ1 => w_X6_faultOfWord x2 σ1 (fun x4 σ3 => (x4 = 0 → ∀ σ6 : St, σ6 = up σ3 1 3 (((σ3 1 3) + (1 : Int32))) → (x2 = (106 : Int32) → w_X6_readJump σ6 (fun σ8 => w_X6_readClause_J117 Post σ8)) ∧ (¬ x2 = (106 : Int32) → (x2 = (109 : Int32) → w_X6_readRates σ6 (fun σ10 => w_X6_readClause_J117 Post σ10)) ∧ (¬ x2 = (109 : Int32) → (x2 = (115 : Int32) → w_X6_readStar σ6 (fun σ12 => w_X6_readClause_J117 Post σ12)) ∧ (¬ x2 = (115 : Int32) → (x2 = (119 : Int32) → w_X6_readWorm σ6 (fun σ14 => w_X6_readClause_J117 Post σ14)) ∧ (¬ x2 = (119 : Int32) → w_X6_readButtons σ6 (fun σ15 => w_X6_readClause_J117 Post σ15)))))) ∧ (¬ x4 = 0 → w_X6_setFault x4 ((σ3 1 3)) σ3 (fun σ16 => Post σ16))))
set_option maxHeartbeats 4000000 in
set_option maxRecDepth 100000 in
theorem b_X6_readClause_J117 {Y : CY} {Z : CZ} (C : cx SC 4 Y Z cX6_readClause RX6 wsX6_readClause none rmX6_readClause) {Post : St → Prop} (hQ : Qv SC Y Z Post)  (σ : St) (h : w_X6_readClause_J117  Post σ) : WW SC 4 Y Z σ 117 [(0, .ref (qa Y 1))] [] := by
  unfold w_X6_readClause_J117 at h
  refine q_aload_n C 0 dX6_readClause_117 rfl ?_
  refine q_bipush (v := (59 : Int32)) C dX6_readClause_118 (by decide) ?_
  refine q_callVi (As := [.int (59 : Int32)]) (st := []) C (c_X6_takes Y (59 : Int32) σ _ h) gX6_readClause_X6_takes rfl ⟨rfl, nkX6_takes⟩ rmOk_X6_readClause__X6_takes kC1 iC1 rfl rfl (Nat.le_of_ble_eq_true rfl) dX6_readClause_120 rfl (fun x18 σ17 h => ?_)
  refine q_if_ne C 135 dX6_readClause_123 (by decide) (fun c19 => ?_) (fun c19 => ?_)
  · replace h := h.1 c19
    exact q_vret C hQ dX6_readClause_135 h
  · replace h := h.2 c19
    refine q_aload_n C 0 dX6_readClause_126 rfl ?_
    refine q_iconst (v := (1 : Int32)) C dX6_readClause_127 (by decide) ?_
    refine q_aload_n C 0 dX6_readClause_128 rfl ?_
    refine q_geti (T := TX6) C kC1 iC1 inX6_readClause_X6 rfl 3 (by decide) (List.mem_of_getElem? (i := 1) rfl) (fun _ h9 => h9) rfl dX6_readClause_129 ?_
    refine q_callVv (As := [.int (1 : Int32), .int (σ17 1 3)]) (st := []) C (c_X6_setFault Y (1 : Int32) ((σ17 1 3)) σ17 _ h) gX6_readClause_X6_setFault rfl ⟨rfl, nkX6_setFault⟩ rmOk_X6_readClause__X6_setFault kC1 iC1 rfl rfl (Nat.le_of_ble_eq_true rfl) dX6_readClause_132 rfl (fun σ20 h => ?_)
    exact q_vret C hQ dX6_readClause_135 h
set_option maxHeartbeats 4000000 in
set_option maxRecDepth 100000 in
theorem b_X6_readClause {Y : CY} {Z : CZ} (C : cx SC 4 Y Z cX6_readClause RX6 wsX6_readClause none rmX6_readClause) {Post : St → Prop} (hQ : Qv SC Y Z Post)  (σ : St) (h : w_X6_readClause  σ Post) : WW SC 4 Y Z σ 0 [(0, .ref (qa Y 1)), (1, .ref (qa Y 7))] [] := by
  unfold w_X6_readClause at h
  refine q_aload_n C 0 dX6_readClause_0 rfl ?_
  refine q_callVi (As := []) (st := []) C (c_X6_letterHere Y σ _ h) gX6_readClause_X6_letterHere rfl ⟨rfl, nkX6_letterHere⟩ rmOk_X6_readClause__X6_letterHere kC1 iC1 rfl rfl (Nat.le_of_ble_eq_true rfl) dX6_readClause_1 rfl (fun x2 σ1 h => ?_)
  refine q_istore_n C [(2, .int x2), (0, .ref (qa Y 1)), (1, .ref (qa Y 7))] dX6_readClause_4 (by decide) rfl ?_
  refine q_aload_n C 1 dX6_readClause_5 rfl ?_
  refine q_iload_n C 0 dX6_readClause_6 rfl ?_
  refine q_aload_n C 2 dX6_readClause_7 rfl ?_
  refine q_callVi (As := [.int x2, .ref (qa Y 7)]) (st := []) C (c_X6_faultOfWord Y x2 σ1 _ h) gX6_readClause_X6_faultOfWord rfl ⟨rfl, nkX6_faultOfWord⟩ rmOk_X6_readClause__X6_faultOfWord kC1 iC1 rfl rfl (Nat.le_of_ble_eq_true rfl) dX6_readClause_8 rfl (fun x4 σ3 h => ?_)
  refine q_istore_n C [(3, .int x4), (2, .int x2), (0, .ref (qa Y 1)), (1, .ref (qa Y 7))] dX6_readClause_11 (by decide) rfl ?_
  refine q_iload_n C 0 dX6_readClause_12 rfl ?_
  refine q_if_eq C 26 dX6_readClause_13 (by decide) (fun c5 => ?_) (fun c5 => ?_)
  · replace h := h.1 c5
    refine q_aload_n C 2 dX6_readClause_26 rfl ?_
    refine q_dup C dX6_readClause_27 rfl ?_
    refine q_geti (T := TX6) C kC1 iC1 inX6_readClause_X6 rfl 3 (by decide) (List.mem_of_getElem? (i := 1) rfl) (fun _ h9 => h9) rfl dX6_readClause_28 ?_
    refine q_iconst (v := (1 : Int32)) C dX6_readClause_31 (by decide) ?_
    refine q_iadd C dX6_readClause_32 ?_
    refine q_puti (T := TX6) C kC1 iC1 inX6_readClause_X6 rfl tyX6 tyX6_ok nmX6 3 (by decide) (List.mem_of_getElem? (i := 1) rfl) (fun _ h9 => h9) rfl dgC1 rfl (ni_n _) (ni_f _) dX6_readClause_33 ?_
    refine q_nmS (fun σ6 eσ6 => ?_)
    replace h := h σ6 eσ6
    refine q_iload_n C 1 dX6_readClause_36 rfl ?_
    by_cases c7 : x2 = (106 : Int32)
    · replace h := h.1 c7
      refine q_lookup C (off := 59) 96 dX6_readClause_37 (by decide) (by rw [c7]; rfl) (by decide) ?_
      refine q_aload_n C 2 dX6_readClause_96 rfl ?_
      refine q_aload_n C 3 dX6_readClause_97 rfl ?_
      refine q_callVv (As := [.ref (qa Y 7)]) (st := []) C (c_X6_readJump Y σ6 _ h) gX6_readClause_X6_readJump rfl ⟨rfl, nkX6_readJump⟩ rmOk_X6_readClause__X6_readJump kC1 iC1 rfl rfl (Nat.le_of_ble_eq_true rfl) dX6_readClause_98 rfl (fun σ8 h => ?_)
      refine q_goto C 117 dX6_readClause_101 (by decide) ?_
      refine q_sub (lv' := [(0, .ref (qa Y 1))]) [2] rfl ?_
      exact b_X6_readClause_J117 C hQ σ8 h
    · replace h := h.2 c7
      by_cases c9 : x2 = (109 : Int32)
      · replace h := h.1 c9
        refine q_lookup C (off := 43) 80 dX6_readClause_37 (by decide) (by rw [c9]; rfl) (by decide) ?_
        refine q_aload_n C 2 dX6_readClause_80 rfl ?_
        refine q_aload_n C 3 dX6_readClause_81 rfl ?_
        refine q_callVv (As := [.ref (qa Y 7)]) (st := []) C (c_X6_readRates Y σ6 _ h) gX6_readClause_X6_readRates rfl ⟨rfl, nkX6_readRates⟩ rmOk_X6_readClause__X6_readRates kC1 iC1 rfl rfl (Nat.le_of_ble_eq_true rfl) dX6_readClause_82 rfl (fun σ10 h => ?_)
        refine q_goto C 117 dX6_readClause_85 (by decide) ?_
        refine q_sub (lv' := [(0, .ref (qa Y 1))]) [2] rfl ?_
        exact b_X6_readClause_J117 C hQ σ10 h
      · replace h := h.2 c9
        by_cases c11 : x2 = (115 : Int32)
        · replace h := h.1 c11
          refine q_lookup C (off := 67) 104 dX6_readClause_37 (by decide) (by rw [c11]; rfl) (by decide) ?_
          refine q_aload_n C 2 dX6_readClause_104 rfl ?_
          refine q_aload_n C 3 dX6_readClause_105 rfl ?_
          refine q_callVv (As := [.ref (qa Y 7)]) (st := []) C (c_X6_readStar Y σ6 _ h) gX6_readClause_X6_readStar rfl ⟨rfl, nkX6_readStar⟩ rmOk_X6_readClause__X6_readStar kC1 iC1 rfl rfl (Nat.le_of_ble_eq_true rfl) dX6_readClause_106 rfl (fun σ12 h => ?_)
          refine q_goto C 117 dX6_readClause_109 (by decide) ?_
          refine q_sub (lv' := [(0, .ref (qa Y 1))]) [2] rfl ?_
          exact b_X6_readClause_J117 C hQ σ12 h
        · replace h := h.2 c11
          by_cases c13 : x2 = (119 : Int32)
          · replace h := h.1 c13
            refine q_lookup C (off := 51) 88 dX6_readClause_37 (by decide) (by rw [c13]; rfl) (by decide) ?_
            refine q_aload_n C 2 dX6_readClause_88 rfl ?_
            refine q_aload_n C 3 dX6_readClause_89 rfl ?_
            refine q_callVv (As := [.ref (qa Y 7)]) (st := []) C (c_X6_readWorm Y σ6 _ h) gX6_readClause_X6_readWorm rfl ⟨rfl, nkX6_readWorm⟩ rmOk_X6_readClause__X6_readWorm kC1 iC1 rfl rfl (Nat.le_of_ble_eq_true rfl) dX6_readClause_90 rfl (fun σ14 h => ?_)
            refine q_goto C 117 dX6_readClause_93 (by decide) ?_
            refine q_sub (lv' := [(0, .ref (qa Y 1))]) [2] rfl ?_
            exact b_X6_readClause_J117 C hQ σ14 h
          · replace h := h.2 c13
            refine q_lookup C (off := 75) 112 dX6_readClause_37 (by decide) ?_ (by decide) ?_
            · simp only [Op.lookupswitch.offset]
              rw [if_neg (fun q => ne_ti c7 q.symm)]
              rw [if_neg (fun q => ne_ti c9 q.symm)]
              rw [if_neg (fun q => ne_ti c11 q.symm)]
              rw [if_neg (fun q => ne_ti c13 q.symm)]
            · refine q_aload_n C 2 dX6_readClause_112 rfl ?_
              refine q_aload_n C 3 dX6_readClause_113 rfl ?_
              refine q_callVv (As := [.ref (qa Y 7)]) (st := []) C (c_X6_readButtons Y σ6 _ h) gX6_readClause_X6_readButtons rfl ⟨rfl, nkX6_readButtons⟩ rmOk_X6_readClause__X6_readButtons kC1 iC1 rfl rfl (Nat.le_of_ble_eq_true rfl) dX6_readClause_114 rfl (fun σ15 h => ?_)
              refine q_sub (lv' := [(0, .ref (qa Y 1))]) [2] rfl ?_
              exact b_X6_readClause_J117 C hQ σ15 h
  · replace h := h.2 c5
    refine q_aload_n C 2 dX6_readClause_16 rfl ?_
    refine q_iload_n C 0 dX6_readClause_17 rfl ?_
    refine q_aload_n C 2 dX6_readClause_18 rfl ?_
    refine q_geti (T := TX6) C kC1 iC1 inX6_readClause_X6 rfl 3 (by decide) (List.mem_of_getElem? (i := 1) rfl) (fun _ h9 => h9) rfl dX6_readClause_19 ?_
    refine q_callVv (As := [.int x4, .int (σ3 1 3)]) (st := []) C (c_X6_setFault Y x4 ((σ3 1 3)) σ3 _ h) gX6_readClause_X6_setFault rfl ⟨rfl, nkX6_setFault⟩ rmOk_X6_readClause__X6_setFault kC1 iC1 rfl rfl (Nat.le_of_ble_eq_true rfl) dX6_readClause_22 rfl (fun σ16 h => ?_)
    exact q_vret C hQ dX6_readClause_25 h
theorem c_X6_readClause (Y : CY)  (σ : St) (Post : St → Prop) (h : w_X6_readClause  σ Post) : Kv SC Y yX6_readClause wsX6_readClause rmX6_readClause [.ref (qa Y 1), .ref (qa Y 7)] σ Post :=
  Kv_of (cc := cX6_readClause) (nL := 4) (ret := none) (by decide +kernel) rfl (Nat.le_of_ble_eq_true rfl) (fun Z C hQ => b_X6_readClause C hQ  σ h)
abbrev rmX6_readInto : Room := { frames := 5, cells := 0, slots := 0, locals := 112 }
theorem nkX6_readInto : NmOk yX6_readInto 1 := by decide +kernel
theorem rmOk_X6_readInto__X3_clear : RmOk rmX3_clear rmX6_readInto 1 := ⟨rfl, rfl, by decide, by decide⟩
theorem rmOk_X6_readInto__X6_readClause : RmOk rmX6_readClause rmX6_readInto 4 := ⟨rfl, rfl, by decide, by decide⟩
theorem rmOk_X6_readInto__X6_skipBlanks : RmOk rmX6_skipBlanks rmX6_readInto 2 := ⟨rfl, rfl, by decide, by decide⟩
theorem inX6_readInto_X6 : ∀ w ∈ u_ws RX6 TX6 8, w ∈ wsX6_readInto := fun _ h => List.mem_cons_of_mem _ (List.mem_append_left _ (List.mem_append_right _ h))
def w_X6_readInto_J80 (Post : St → Prop) (σ : St) : Prop := ∀ σ15 : St, σ15 = up σ 1 0 (0 : Int32) → Post σ15
def w_X6_readInto_B40 (Post : St → Prop) (K40 : Int32 → St → Prop) (v2 : Int32) (σ : St) : Prop := ((230 : Int32) ≤ v2 → w_X6_readInto_J80 Post σ) ∧ (¬ (230 : Int32) ≤ v2 → ((σ 1 0) ≤ (σ 1 3) → w_X6_readInto_J80 Post σ) ∧ (¬ (σ 1 0) ≤ (σ 1 3) → (¬ (σ 1 1) = 0 → w_X6_readInto_J80 Post σ) ∧ ((σ 1 1) = 0 → w_X6_readClause σ (fun σ12 => w_X6_skipBlanks σ12 (fun σ13 => ∀ x14 : Int32, x14 = v2 + (1 : Int32) → K40 x14 σ13)))))
def w_X6_readInto_L40 (Post : St → Prop) : Nat → Int32 → St → Prop
  | 0 => fun _ _ => False
  | n + 1 => w_X6_readInto_B40   Post (w_X6_readInto_L40   Post n)
def w_X6_readInto (σ : St) (Post : St → Prop) : Prop := w_X3_clear 7 σ (fun σ1 => ∀ σ2 : St, σ2 = up σ1 1 3 (0 : Int32) → ∀ σ3 : St, σ3 = up σ2 1 1 (0 : Int32) → ∀ σ4 : St, σ4 = up σ3 1 2 (-1 : Int32) → ∀ σ5 : St, σ5 = up σ4 1 4 (0 : Int32) → ∀ σ6 : St, σ6 = up σ5 1 5 (0 : Int32) → ∀ σ7 : St, σ7 = up σ6 1 6 (0 : Int32) → w_X6_skipBlanks σ7 (fun σ8 => w_X6_readInto_L40 Post FU (0 : Int32) σ8))
set_option maxHeartbeats 4000000 in
set_option maxRecDepth 100000 in
theorem b_X6_readInto_J80 {Y : CY} {Z : CZ} (C : cx SC 3 Y Z cX6_readInto RX6 wsX6_readInto none rmX6_readInto) {Post : St → Prop} (hQ : Qv SC Y Z Post)  (σ : St) (h : w_X6_readInto_J80  Post σ) : WW SC 3 Y Z σ 80 [(0, .ref (qa Y 1))] [] := by
  unfold w_X6_readInto_J80 at h
  refine q_aload_n C 0 dX6_readInto_80 rfl ?_
  refine q_iconst (v := (0 : Int32)) C dX6_readInto_81 (by decide) ?_
  refine q_puti (T := TX6) C kC1 iC1 inX6_readInto_X6 rfl tyX6 tyX6_ok nmX6 0 (by decide) (List.mem_of_getElem? (i := 7) rfl) (fun _ h9 => h9) rfl dgC1 rfl (ni_n _) (ni_f _) dX6_readInto_82 ?_
  refine q_nmS (fun σ15 eσ15 => ?_)
  replace h := h σ15 eσ15
  exact q_vret C hQ dX6_readInto_85 h
set_option maxHeartbeats 4000000 in
set_option maxRecDepth 100000 in
theorem b_X6_readInto_B40 {Y : CY} {Z : CZ} (C : cx SC 3 Y Z cX6_readInto RX6 wsX6_readInto none rmX6_readInto) {Post : St → Prop} (hQ : Qv SC Y Z Post)  {K40 : Int32 → St → Prop} (hK40 : ∀ (v2 : Int32) (σ : St), K40 v2 σ → WW SC 3 Y Z σ 40 [(0, .ref (qa Y 1)), (1, .ref (qa Y 7)), (2, .int v2)] []) (v2 : Int32) (σ : St) (h : w_X6_readInto_B40  Post K40 v2 σ) : WW SC 3 Y Z σ 40 [(0, .ref (qa Y 1)), (1, .ref (qa Y 7)), (2, .int v2)] [] := by
  unfold w_X6_readInto_B40 at h
  refine q_iload_n C 2 dX6_readInto_40 rfl ?_
  refine q_sipush (v := (230 : Int32)) C dX6_readInto_41 (by decide) ?_
  refine q_icmp_ge C 80 dX6_readInto_44 (by decide) (fun c9 => ?_) (fun c9 => ?_)
  · replace h := h.1 c9
    refine q_sub (lv' := [(0, .ref (qa Y 1))]) [0] rfl ?_
    exact b_X6_readInto_J80 C hQ σ h
  · replace h := h.2 c9
    refine q_aload_n C 0 dX6_readInto_47 rfl ?_
    refine q_geti (T := TX6) C kC1 iC1 inX6_readInto_X6 rfl 3 (by decide) (List.mem_of_getElem? (i := 1) rfl) (fun _ h9 => h9) rfl dX6_readInto_48 ?_
    refine q_aload_n C 0 dX6_readInto_51 rfl ?_
    refine q_geti (T := TX6) C kC1 iC1 inX6_readInto_X6 rfl 0 (by decide) (List.mem_of_getElem? (i := 7) rfl) (fun _ h9 => h9) rfl dX6_readInto_52 ?_
    refine q_icmp_ge C 80 dX6_readInto_55 (by decide) (fun c10 => ?_) (fun c10 => ?_)
    · replace h := h.1 c10
      refine q_sub (lv' := [(0, .ref (qa Y 1))]) [0] rfl ?_
      exact b_X6_readInto_J80 C hQ σ h
    · replace h := h.2 c10
      refine q_aload_n C 0 dX6_readInto_58 rfl ?_
      refine q_geti (T := TX6) C kC1 iC1 inX6_readInto_X6 rfl 1 (by decide) (List.mem_of_getElem? (i := 2) rfl) (fun _ h9 => h9) rfl dX6_readInto_59 ?_
      refine q_if_ne C 80 dX6_readInto_62 (by decide) (fun c11 => ?_) (fun c11 => ?_)
      · replace h := h.1 c11
        refine q_sub (lv' := [(0, .ref (qa Y 1))]) [0] rfl ?_
        exact b_X6_readInto_J80 C hQ σ h
      · replace h := h.2 c11
        refine q_aload_n C 0 dX6_readInto_65 rfl ?_
        refine q_aload_n C 1 dX6_readInto_66 rfl ?_
        refine q_callVv (As := [.ref (qa Y 7)]) (st := []) C (c_X6_readClause Y σ _ h) gX6_readInto_X6_readClause rfl ⟨rfl, nkX6_readClause⟩ rmOk_X6_readInto__X6_readClause kC1 iC1 rfl rfl (Nat.le_of_ble_eq_true rfl) dX6_readInto_67 rfl (fun σ12 h => ?_)
        refine q_aload_n C 0 dX6_readInto_70 rfl ?_
        refine q_callVv (As := []) (st := []) C (c_X6_skipBlanks Y σ12 _ h) gX6_readInto_X6_skipBlanks rfl ⟨rfl, nkX6_skipBlanks⟩ rmOk_X6_readInto__X6_skipBlanks kC1 iC1 rfl rfl (Nat.le_of_ble_eq_true rfl) dX6_readInto_71 rfl (fun σ13 h => ?_)
        obtain ⟨x14, ex14⟩ : ∃ y : Int32, y = v2 + (1 : Int32) := ⟨_, rfl⟩
        replace h := h x14 ex14
        refine q_iinc C x14 2 [(2, .int x14), (0, .ref (qa Y 1)), (1, .ref (qa Y 7))] dX6_readInto_74 rfl (by rw [ex14]; rfl) (by decide) rfl ?_
        refine q_goto C 40 dX6_readInto_77 (by decide) ?_
        refine q_sub (lv' := [(0, .ref (qa Y 1)), (1, .ref (qa Y 7)), (2, .int x14)]) [1, 2, 0] rfl ?_
        exact hK40 x14 σ13 h
theorem b_X6_readInto_L40 {Y : CY} {Z : CZ} (C : cx SC 3 Y Z cX6_readInto RX6 wsX6_readInto none rmX6_readInto) {Post : St → Prop} (hQ : Qv SC Y Z Post)  : ∀ (n : Nat) (v2 : Int32) (σ : St) (h : w_X6_readInto_L40  Post n v2 σ), WW SC 3 Y Z σ 40 [(0, .ref (qa Y 1)), (1, .ref (qa Y 7)), (2, .int v2)] [] := by
  intro n
  induction n with
  | zero => intro v2 σ h; exact h.elim
  | succ n ih => intro v2 σ h; exact b_X6_readInto_B40 C hQ  ih v2 σ h
set_option maxHeartbeats 4000000 in
set_option maxRecDepth 100000 in
theorem b_X6_readInto {Y : CY} {Z : CZ} (C : cx SC 3 Y Z cX6_readInto RX6 wsX6_readInto none rmX6_readInto) {Post : St → Prop} (hQ : Qv SC Y Z Post)  (σ : St) (h : w_X6_readInto  σ Post) : WW SC 3 Y Z σ 0 [(0, .ref (qa Y 1)), (1, .ref (qa Y 7))] [] := by
  unfold w_X6_readInto at h
  refine q_aload_n C 1 dX6_readInto_0 rfl ?_
  refine q_callVv (As := []) (st := []) C (c_X3_clear Y kC7 iC7 kC8 iC8 kC9 iC9 kC10 iC10 σ _ h) gX6_readInto_X3_clear rfl ⟨rfl, nkX3_clear⟩ rmOk_X6_readInto__X3_clear kC7 iC7 rfl rfl (Nat.le_of_ble_eq_true rfl) dX6_readInto_1 rfl (fun σ1 h => ?_)
  refine q_aload_n C 0 dX6_readInto_4 rfl ?_
  refine q_iconst (v := (0 : Int32)) C dX6_readInto_5 (by decide) ?_
  refine q_puti (T := TX6) C kC1 iC1 inX6_readInto_X6 rfl tyX6 tyX6_ok nmX6 3 (by decide) (List.mem_of_getElem? (i := 1) rfl) (fun _ h9 => h9) rfl dgC1 rfl (ni_n _) (ni_f _) dX6_readInto_6 ?_
  refine q_nmS (fun σ2 eσ2 => ?_)
  replace h := h σ2 eσ2
  refine q_aload_n C 0 dX6_readInto_9 rfl ?_
  refine q_iconst (v := (0 : Int32)) C dX6_readInto_10 (by decide) ?_
  refine q_puti (T := TX6) C kC1 iC1 inX6_readInto_X6 rfl tyX6 tyX6_ok nmX6 1 (by decide) (List.mem_of_getElem? (i := 2) rfl) (fun _ h9 => h9) rfl dgC1 rfl (ni_n _) (ni_f _) dX6_readInto_11 ?_
  refine q_nmS (fun σ3 eσ3 => ?_)
  replace h := h σ3 eσ3
  refine q_aload_n C 0 dX6_readInto_14 rfl ?_
  refine q_iconst (v := (-1 : Int32)) C dX6_readInto_15 (by decide) ?_
  refine q_puti (T := TX6) C kC1 iC1 inX6_readInto_X6 rfl tyX6 tyX6_ok nmX6 2 (by decide) (List.mem_of_getElem? (i := 3) rfl) (fun _ h9 => h9) rfl dgC1 rfl (ni_n _) (ni_f _) dX6_readInto_16 ?_
  refine q_nmS (fun σ4 eσ4 => ?_)
  replace h := h σ4 eσ4
  refine q_aload_n C 0 dX6_readInto_19 rfl ?_
  refine q_iconst (v := (0 : Int32)) C dX6_readInto_20 (by decide) ?_
  refine q_puti (T := TX6) C kC1 iC1 inX6_readInto_X6 rfl tyX6 tyX6_ok nmX6 4 (by decide) (List.mem_of_getElem? (i := 4) rfl) (fun _ h9 => h9) rfl dgC1 rfl (zb_n (by decide)) (zb_f (by decide)) dX6_readInto_21 ?_
  refine q_nmS (fun σ5 eσ5 => ?_)
  replace h := h σ5 eσ5
  refine q_aload_n C 0 dX6_readInto_24 rfl ?_
  refine q_iconst (v := (0 : Int32)) C dX6_readInto_25 (by decide) ?_
  refine q_puti (T := TX6) C kC1 iC1 inX6_readInto_X6 rfl tyX6 tyX6_ok nmX6 5 (by decide) (List.mem_of_getElem? (i := 5) rfl) (fun _ h9 => h9) rfl dgC1 rfl (zb_n (by decide)) (zb_f (by decide)) dX6_readInto_26 ?_
  refine q_nmS (fun σ6 eσ6 => ?_)
  replace h := h σ6 eσ6
  refine q_aload_n C 0 dX6_readInto_29 rfl ?_
  refine q_iconst (v := (0 : Int32)) C dX6_readInto_30 (by decide) ?_
  refine q_puti (T := TX6) C kC1 iC1 inX6_readInto_X6 rfl tyX6 tyX6_ok nmX6 6 (by decide) (List.mem_of_getElem? (i := 6) rfl) (fun _ h9 => h9) rfl dgC1 rfl (zb_n (by decide)) (zb_f (by decide)) dX6_readInto_31 ?_
  refine q_nmS (fun σ7 eσ7 => ?_)
  replace h := h σ7 eσ7
  refine q_aload_n C 0 dX6_readInto_34 rfl ?_
  refine q_callVv (As := []) (st := []) C (c_X6_skipBlanks Y σ7 _ h) gX6_readInto_X6_skipBlanks rfl ⟨rfl, nkX6_skipBlanks⟩ rmOk_X6_readInto__X6_skipBlanks kC1 iC1 rfl rfl (Nat.le_of_ble_eq_true rfl) dX6_readInto_35 rfl (fun σ8 h => ?_)
  refine q_iconst (v := (0 : Int32)) C dX6_readInto_38 (by decide) ?_
  refine q_istore_n C [(2, .int (0 : Int32)), (0, .ref (qa Y 1)), (1, .ref (qa Y 7))] dX6_readInto_39 (by decide) rfl ?_
  refine q_sub (lv' := [(0, .ref (qa Y 1)), (1, .ref (qa Y 7)), (2, .int (0 : Int32))]) [1, 2, 0] rfl ?_
  exact b_X6_readInto_L40 C hQ FU (0 : Int32) σ8 h
theorem c_X6_readInto (Y : CY)  (σ : St) (Post : St → Prop) (h : w_X6_readInto  σ Post) : Kv SC Y yX6_readInto wsX6_readInto rmX6_readInto [.ref (qa Y 1), .ref (qa Y 7)] σ Post :=
  Kv_of (cc := cX6_readInto) (nL := 3) (ret := none) (by decide +kernel) rfl (Nat.le_of_ble_eq_true rfl) (fun Z C hQ => b_X6_readInto C hQ  σ h)
abbrev rmX7_startFresh : Room := { frames := 1, cells := 0, slots := 0, locals := 20 }
theorem nkX7_startFresh : NmOk yX7_startFresh 0 := by decide +kernel
theorem rmOk_X7_startFresh__X4_takeFreshPlate : RmOk rmX4_takeFreshPlate rmX7_startFresh 1 := ⟨rfl, rfl, by decide, by decide⟩
theorem inX7_startFresh_X4 : ∀ w ∈ u_ws RX4 TX4 12, w ∈ wsX7_startFresh := fun _ h => List.mem_cons_of_mem _ (List.mem_append_right _ h)
theorem inX7_startFresh_X7 : ∀ w ∈ u_ws RX7 TX7 6, w ∈ wsX7_startFresh := fun _ h => List.mem_cons_of_mem _ (List.mem_append_left _ (List.mem_append_right _ h))
def w_X7_startFresh (σ : St) (Post : St → Prop) : Prop := w_X4_takeFreshPlate 13 σ (fun σ1 => ∀ σ2 : St, σ2 = up σ1 13 0 ((σ1 11 0)) → Post σ2)
set_option maxHeartbeats 4000000 in
set_option maxRecDepth 100000 in
theorem b_X7_startFresh {Y : CY} {Z : CZ} (C : cx SC 1 Y Z cX7_startFresh RX7 wsX7_startFresh none rmX7_startFresh) {Post : St → Prop} (hQ : Qv SC Y Z Post)  (σ : St) (h : w_X7_startFresh  σ Post) : WW SC 1 Y Z σ 0 [(0, .ref (qa Y 12))] [] := by
  unfold w_X7_startFresh at h
  refine q_aload_n C 0 dX7_startFresh_0 rfl ?_
  refine q_getr (T := TX7) C kC12 iC12 inX7_startFresh_X7 rfl 2 (by decide) (List.mem_of_getElem? (i := 1) rfl) (fun _ h9 => h9) rfl dX7_startFresh_1 ?_
  refine q_callVv (As := []) (st := []) C (c_X4_takeFreshPlate Y kC13 iC13 σ _ h) gX7_startFresh_X4_takeFreshPlate rfl ⟨rfl, nkX4_takeFreshPlate⟩ rmOk_X7_startFresh__X4_takeFreshPlate kC13 iC13 rfl rfl (Nat.le_of_ble_eq_true rfl) dX7_startFresh_4 rfl (fun σ1 h => ?_)
  refine q_aload_n C 0 dX7_startFresh_7 rfl ?_
  refine q_getr (T := TX7) C kC12 iC12 inX7_startFresh_X7 rfl 2 (by decide) (List.mem_of_getElem? (i := 1) rfl) (fun _ h9 => h9) rfl dX7_startFresh_8 ?_
  refine q_aload_n C 0 dX7_startFresh_11 rfl ?_
  refine q_getr (T := TX7) C kC12 iC12 inX7_startFresh_X7 rfl 4 (by decide) (List.mem_of_getElem? (i := 2) rfl) (fun _ h9 => h9) rfl dX7_startFresh_12 ?_
  refine q_geti (T := TX4) C kC11 iC11 inX7_startFresh_X4 rfl 0 (by decide) (List.mem_of_getElem? (i := 3) rfl) (fun _ h9 => h9) rfl dX7_startFresh_15 ?_
  refine q_puti (T := TX4) C kC13 iC13 inX7_startFresh_X4 rfl tyX4 tyX4_ok nmX4 0 (by decide) (List.mem_of_getElem? (i := 3) rfl) (fun _ h9 => h9) rfl dgN rfl (ni_n _) (ni_f _) dX7_startFresh_18 ?_
  refine q_nmS (fun σ2 eσ2 => ?_)
  replace h := h σ2 eσ2
  exact q_vret C hQ dX7_startFresh_21 h
theorem c_X7_startFresh (Y : CY)  (σ : St) (Post : St → Prop) (h : w_X7_startFresh  σ Post) : Kv SC Y yX7_startFresh wsX7_startFresh rmX7_startFresh [.ref (qa Y 12)] σ Post :=
  Kv_of (cc := cX7_startFresh) (nL := 1) (ret := none) (by decide +kernel) rfl (Nat.le_of_ble_eq_true rfl) (fun Z C hQ => b_X7_startFresh C hQ  σ h)
abbrev rmX7_tailWithNod : Room := { frames := 4, cells := 0, slots := 0, locals := 90 }
theorem nkX7_tailWithNod : NmOk yX7_tailWithNod 5 := by decide +kernel
theorem rmOk_X7_tailWithNod__X4_passByRule : RmOk rmX4_passByRule rmX7_tailWithNod 5 := ⟨rfl, rfl, by decide, by decide⟩
theorem rmOk_X7_tailWithNod__X4_passOne : RmOk rmX4_passOne rmX7_tailWithNod 2 := ⟨rfl, rfl, by decide, by decide⟩
theorem rmOk_X7_tailWithNod__X4_tailLength : RmOk rmX4_tailLength rmX7_tailWithNod 1 := ⟨rfl, rfl, by decide, by decide⟩
theorem rmOk_X7_tailWithNod__X7_startFresh : RmOk rmX7_startFresh rmX7_tailWithNod 1 := ⟨rfl, rfl, by decide, by decide⟩
theorem inX7_tailWithNod_X4 : ∀ w ∈ u_ws RX4 TX4 12, w ∈ wsX7_tailWithNod := fun _ h => List.mem_cons_of_mem _ (List.mem_append_left _ (List.mem_append_right _ h))
theorem inX7_tailWithNod_X7 : ∀ w ∈ u_ws RX7 TX7 6, w ∈ wsX7_tailWithNod := fun _ h => List.mem_cons_of_mem _ (List.mem_append_left _ (List.mem_append_left _ (List.mem_append_right _ h)))
def w_X7_tailWithNod_J82 (K12 : Int32 → Int32 → Int32 → Int32 → Int32 → Int32 → St → Prop) (Post : Int32 → St → Prop) (v1 : Int32) (v2 : Int32) (v3 : Int32) (v4 : Int32) (v5 : Int32) (v6 : Int32) (σ : St) : Prop := ∀ x15 : Int32, x15 = v6 + (1 : Int32) → K12 v1 v2 v3 v4 v5 x15 σ
def w_X7_tailWithNod_J56 (K12 : Int32 → Int32 → Int32 → Int32 → Int32 → Int32 → St → Prop) (Post : Int32 → St → Prop) (v1 : Int32) (v2 : Int32) (v3 : Int32) (v4 : Int32) (v5 : Int32) (v6 : Int32) (σ : St) : Prop := w_X4_passByRule 13 v1 v2 σ (fun x12 σ11 => (x12 = 0 → w_X7_tailWithNod_J82 K12 Post v1 v2 v3 v4 v5 v6 σ11) ∧ (¬ x12 = 0 → ∀ σ14 : St, σ14 = up σ11 12 5 (((σ11 12 5) + (1 : Int32))) → w_X7_tailWithNod_J82 K12 Post v1 v2 v3 v4 v5 v6 σ14))
def w_X7_tailWithNod_J88 (Post : Int32 → St → Prop) (σ : St) : Prop := ((σ 13 3) = 0 → w_X4_tailLength 13 σ (fun x10 σ9 => Post x10 σ9)) ∧ (¬ (σ 13 3) = 0 → Post (9999 : Int32) σ)
def w_X7_tailWithNod_B12 (Post : Int32 → St → Prop) (K12 : Int32 → Int32 → Int32 → Int32 → Int32 → Int32 → St → Prop) (v1 : Int32) (v2 : Int32) (v3 : Int32) (v4 : Int32) (v5 : Int32) (v6 : Int32) (σ : St) : Prop := (v3 ≤ v6 → w_X7_tailWithNod_J88 Post σ) ∧ (¬ v3 ≤ v6 → (¬ (σ 13 3) = 0 → w_X7_tailWithNod_J88 Post σ) ∧ ((σ 13 3) = 0 → (v6 < v4 → w_X7_tailWithNod_J56 K12 Post v1 v2 v3 v4 v5 v6 σ) ∧ (¬ v6 < v4 → (v5 ≤ v6 → w_X7_tailWithNod_J56 K12 Post v1 v2 v3 v4 v5 v6 σ) ∧ (¬ v5 ≤ v6 → w_X4_passOne 13 σ (fun σ7 => w_X7_tailWithNod_J82 K12 Post v1 v2 v3 v4 v5 v6 σ7)))))
def w_X7_tailWithNod_L12 (Post : Int32 → St → Prop) : Nat → Int32 → Int32 → Int32 → Int32 → Int32 → Int32 → St → Prop
  | 0 => fun _ _ _ _ _ _ _ => False
  | n + 1 => w_X7_tailWithNod_B12   Post (w_X7_tailWithNod_L12   Post n)
def w_X7_tailWithNod (p1 : Int32) (p2 : Int32) (p3 : Int32) (p4 : Int32) (p5 : Int32) (σ : St) (Post : Int32 → St → Prop) : Prop := w_X7_startFresh σ (fun σ1 => ∀ σ2 : St, σ2 = up σ1 12 5 (0 : Int32) → w_X7_tailWithNod_L12 Post FU p1 p2 p3 p4 p5 (0 : Int32) σ2)
set_option maxHeartbeats 4000000 in
set_option maxRecDepth 100000 in
theorem b_X7_tailWithNod_J82 {Y : CY} {Z : CZ} (C : cx SC 7 Y Z cX7_tailWithNod RX7 wsX7_tailWithNod (some .int) rmX7_tailWithNod) {Post : Int32 → St → Prop} (hQ : Qi SC Y Z Post)  {K12 : Int32 → Int32 → Int32 → Int32 → Int32 → Int32 → St → Prop} (hK12 : ∀ (v1 : Int32) (v2 : Int32) (v3 : Int32) (v4 : Int32) (v5 : Int32) (v6 : Int32) (σ : St), K12 v1 v2 v3 v4 v5 v6 σ → WW SC 7 Y Z σ 12 [(0, .ref (qa Y 12)), (1, .int v1), (2, .int v2), (3, .int v3), (4, .int v4), (5, .int v5), (6, .int v6)] []) (v1 : Int32) (v2 : Int32) (v3 : Int32) (v4 : Int32) (v5 : Int32) (v6 : Int32) (σ : St) (h : w_X7_tailWithNod_J82 K12 Post v1 v2 v3 v4 v5 v6 σ) : WW SC 7 Y Z σ 82 [(0, .ref (qa Y 12)), (1, .int v1), (2, .int v2), (3, .int v3), (4, .int v4), (5, .int v5), (6, .int v6)] [] := by
  unfold w_X7_tailWithNod_J82 at h
  obtain ⟨x15, ex15⟩ : ∃ y : Int32, y = v6 + (1 : Int32) := ⟨_, rfl⟩
  replace h := h x15 ex15
  refine q_iinc C x15 6 [(6, .int x15), (0, .ref (qa Y 12)), (1, .int v1), (2, .int v2), (3, .int v3), (4, .int v4), (5, .int v5)] dX7_tailWithNod_82 rfl (by rw [ex15]; rfl) (by decide) rfl ?_
  refine q_goto C 12 dX7_tailWithNod_85 (by decide) ?_
  refine q_sub (lv' := [(0, .ref (qa Y 12)), (1, .int v1), (2, .int v2), (3, .int v3), (4, .int v4), (5, .int v5), (6, .int x15)]) [1, 2, 3, 4, 5, 6, 0] rfl ?_
  exact hK12 v1 v2 v3 v4 v5 x15 σ h
set_option maxHeartbeats 4000000 in
set_option maxRecDepth 100000 in
theorem b_X7_tailWithNod_J56 {Y : CY} {Z : CZ} (C : cx SC 7 Y Z cX7_tailWithNod RX7 wsX7_tailWithNod (some .int) rmX7_tailWithNod) {Post : Int32 → St → Prop} (hQ : Qi SC Y Z Post)  {K12 : Int32 → Int32 → Int32 → Int32 → Int32 → Int32 → St → Prop} (hK12 : ∀ (v1 : Int32) (v2 : Int32) (v3 : Int32) (v4 : Int32) (v5 : Int32) (v6 : Int32) (σ : St), K12 v1 v2 v3 v4 v5 v6 σ → WW SC 7 Y Z σ 12 [(0, .ref (qa Y 12)), (1, .int v1), (2, .int v2), (3, .int v3), (4, .int v4), (5, .int v5), (6, .int v6)] []) (v1 : Int32) (v2 : Int32) (v3 : Int32) (v4 : Int32) (v5 : Int32) (v6 : Int32) (σ : St) (h : w_X7_tailWithNod_J56 K12 Post v1 v2 v3 v4 v5 v6 σ) : WW SC 7 Y Z σ 56 [(0, .ref (qa Y 12)), (1, .int v1), (2, .int v2), (3, .int v3), (4, .int v4), (5, .int v5), (6, .int v6)] [] := by
  unfold w_X7_tailWithNod_J56 at h
  refine q_aload_n C 0 dX7_tailWithNod_56 rfl ?_
  refine q_getr (T := TX7) C kC12 iC12 inX7_tailWithNod_X7 rfl 2 (by decide) (List.mem_of_getElem? (i := 2) rfl) (fun _ h9 => h9) rfl dX7_tailWithNod_57 ?_
  refine q_aload_n C 0 dX7_tailWithNod_60 rfl ?_
  refine q_getr (T := TX7) C kC12 iC12 inX7_tailWithNod_X7 rfl 3 (by decide) (List.mem_of_getElem? (i := 4) rfl) (fun _ h9 => h9) rfl dX7_tailWithNod_61 ?_
  refine q_iload_n C 1 dX7_tailWithNod_64 rfl ?_
  refine q_iload_n C 2 dX7_tailWithNod_65 rfl ?_
  refine q_callVi (As := [.ref (qa Y 3), .int v1, .int v2]) (st := []) C (c_X4_passByRule Y kC13 iC13 v1 v2 σ _ h) gX7_tailWithNod_X4_passByRule rfl ⟨rfl, nkX4_passByRule⟩ rmOk_X7_tailWithNod__X4_passByRule kC13 iC13 rfl rfl (Nat.le_of_ble_eq_true rfl) dX7_tailWithNod_66 rfl (fun x12 σ11 h => ?_)
  refine q_if_eq C 82 dX7_tailWithNod_69 (by decide) (fun c13 => ?_) (fun c13 => ?_)
  · replace h := h.1 c13
    exact b_X7_tailWithNod_J82 C hQ hK12 v1 v2 v3 v4 v5 v6 σ11 h
  · replace h := h.2 c13
    refine q_aload_n C 0 dX7_tailWithNod_72 rfl ?_
    refine q_dup C dX7_tailWithNod_73 rfl ?_
    refine q_geti (T := TX7) C kC12 iC12 inX7_tailWithNod_X7 rfl 5 (by decide) (List.mem_of_getElem? (i := 1) rfl) (fun _ h9 => h9) rfl dX7_tailWithNod_74 ?_
    refine q_iconst (v := (1 : Int32)) C dX7_tailWithNod_77 (by decide) ?_
    refine q_iadd C dX7_tailWithNod_78 ?_
    refine q_puti (T := TX7) C kC12 iC12 inX7_tailWithNod_X7 rfl tyX7 tyX7_ok nmX7 5 (by decide) (List.mem_of_getElem? (i := 1) rfl) (fun _ h9 => h9) rfl dgC12 rfl (ni_n _) (ni_f _) dX7_tailWithNod_79 ?_
    refine q_nmS (fun σ14 eσ14 => ?_)
    replace h := h σ14 eσ14
    exact b_X7_tailWithNod_J82 C hQ hK12 v1 v2 v3 v4 v5 v6 σ14 h
set_option maxHeartbeats 4000000 in
set_option maxRecDepth 100000 in
theorem b_X7_tailWithNod_J88 {Y : CY} {Z : CZ} (C : cx SC 7 Y Z cX7_tailWithNod RX7 wsX7_tailWithNod (some .int) rmX7_tailWithNod) {Post : Int32 → St → Prop} (hQ : Qi SC Y Z Post)  (σ : St) (h : w_X7_tailWithNod_J88  Post σ) : WW SC 7 Y Z σ 88 [(0, .ref (qa Y 12))] [] := by
  unfold w_X7_tailWithNod_J88 at h
  refine q_aload_n C 0 dX7_tailWithNod_88 rfl ?_
  refine q_getr (T := TX7) C kC12 iC12 inX7_tailWithNod_X7 rfl 2 (by decide) (List.mem_of_getElem? (i := 2) rfl) (fun _ h9 => h9) rfl dX7_tailWithNod_89 ?_
  refine q_geti (T := TX4) C kC13 iC13 inX7_tailWithNod_X4 rfl 3 (by decide) (List.mem_of_getElem? (i := 3) rfl) (fun _ h9 => h9) rfl dX7_tailWithNod_92 ?_
  refine q_if_eq C 104 dX7_tailWithNod_95 (by decide) (fun c8 => ?_) (fun c8 => ?_)
  · replace h := h.1 c8
    refine q_aload_n C 0 dX7_tailWithNod_104 rfl ?_
    refine q_getr (T := TX7) C kC12 iC12 inX7_tailWithNod_X7 rfl 2 (by decide) (List.mem_of_getElem? (i := 2) rfl) (fun _ h9 => h9) rfl dX7_tailWithNod_105 ?_
    refine q_callVi (As := []) (st := []) C (c_X4_tailLength Y kC13 iC13 σ _ h) gX7_tailWithNod_X4_tailLength rfl ⟨rfl, nkX4_tailLength⟩ rmOk_X7_tailWithNod__X4_tailLength kC13 iC13 rfl rfl (Nat.le_of_ble_eq_true rfl) dX7_tailWithNod_108 rfl (fun x10 σ9 h => ?_)
    exact q_iret C hQ dX7_tailWithNod_111 h
  · replace h := h.2 c8
    refine q_sipush (v := (9999 : Int32)) C dX7_tailWithNod_98 (by decide) ?_
    refine q_goto C 111 dX7_tailWithNod_101 (by decide) ?_
    exact q_iret C hQ dX7_tailWithNod_111 h
set_option maxHeartbeats 4000000 in
set_option maxRecDepth 100000 in
theorem b_X7_tailWithNod_B12 {Y : CY} {Z : CZ} (C : cx SC 7 Y Z cX7_tailWithNod RX7 wsX7_tailWithNod (some .int) rmX7_tailWithNod) {Post : Int32 → St → Prop} (hQ : Qi SC Y Z Post)  {K12 : Int32 → Int32 → Int32 → Int32 → Int32 → Int32 → St → Prop} (hK12 : ∀ (v1 : Int32) (v2 : Int32) (v3 : Int32) (v4 : Int32) (v5 : Int32) (v6 : Int32) (σ : St), K12 v1 v2 v3 v4 v5 v6 σ → WW SC 7 Y Z σ 12 [(0, .ref (qa Y 12)), (1, .int v1), (2, .int v2), (3, .int v3), (4, .int v4), (5, .int v5), (6, .int v6)] []) (v1 : Int32) (v2 : Int32) (v3 : Int32) (v4 : Int32) (v5 : Int32) (v6 : Int32) (σ : St) (h : w_X7_tailWithNod_B12  Post K12 v1 v2 v3 v4 v5 v6 σ) : WW SC 7 Y Z σ 12 [(0, .ref (qa Y 12)), (1, .int v1), (2, .int v2), (3, .int v3), (4, .int v4), (5, .int v5), (6, .int v6)] [] := by
  unfold w_X7_tailWithNod_B12 at h
  refine q_iload C 6 dX7_tailWithNod_12 rfl ?_
  refine q_iload_n C 3 dX7_tailWithNod_14 rfl ?_
  refine q_icmp_ge C 88 dX7_tailWithNod_15 (by decide) (fun c3 => ?_) (fun c3 => ?_)
  · replace h := h.1 c3
    refine q_sub (lv' := [(0, .ref (qa Y 12))]) [0] rfl ?_
    exact b_X7_tailWithNod_J88 C hQ σ h
  · replace h := h.2 c3
    refine q_aload_n C 0 dX7_tailWithNod_18 rfl ?_
    refine q_getr (T := TX7) C kC12 iC12 inX7_tailWithNod_X7 rfl 2 (by decide) (List.mem_of_getElem? (i := 2) rfl) (fun _ h9 => h9) rfl dX7_tailWithNod_19 ?_
    refine q_geti (T := TX4) C kC13 iC13 inX7_tailWithNod_X4 rfl 3 (by decide) (List.mem_of_getElem? (i := 3) rfl) (fun _ h9 => h9) rfl dX7_tailWithNod_22 ?_
    refine q_if_ne C 88 dX7_tailWithNod_25 (by decide) (fun c4 => ?_) (fun c4 => ?_)
    · replace h := h.1 c4
      refine q_sub (lv' := [(0, .ref (qa Y 12))]) [0] rfl ?_
      exact b_X7_tailWithNod_J88 C hQ σ h
    · replace h := h.2 c4
      refine q_iload C 6 dX7_tailWithNod_28 rfl ?_
      refine q_iload C 4 dX7_tailWithNod_30 rfl ?_
      refine q_icmp_lt C 56 dX7_tailWithNod_32 (by decide) (fun c5 => ?_) (fun c5 => ?_)
      · replace h := h.1 c5
        exact b_X7_tailWithNod_J56 C hQ hK12 v1 v2 v3 v4 v5 v6 σ h
      · replace h := h.2 c5
        refine q_iload C 6 dX7_tailWithNod_35 rfl ?_
        refine q_iload C 5 dX7_tailWithNod_37 rfl ?_
        refine q_icmp_ge C 56 dX7_tailWithNod_39 (by decide) (fun c6 => ?_) (fun c6 => ?_)
        · replace h := h.1 c6
          exact b_X7_tailWithNod_J56 C hQ hK12 v1 v2 v3 v4 v5 v6 σ h
        · replace h := h.2 c6
          refine q_aload_n C 0 dX7_tailWithNod_42 rfl ?_
          refine q_getr (T := TX7) C kC12 iC12 inX7_tailWithNod_X7 rfl 2 (by decide) (List.mem_of_getElem? (i := 2) rfl) (fun _ h9 => h9) rfl dX7_tailWithNod_43 ?_
          refine q_aload_n C 0 dX7_tailWithNod_46 rfl ?_
          refine q_getr (T := TX7) C kC12 iC12 inX7_tailWithNod_X7 rfl 3 (by decide) (List.mem_of_getElem? (i := 4) rfl) (fun _ h9 => h9) rfl dX7_tailWithNod_47 ?_
          refine q_callVv (As := [.ref (qa Y 3)]) (st := []) C (c_X4_passOne Y kC13 iC13 σ _ h) gX7_tailWithNod_X4_passOne rfl ⟨rfl, nkX4_passOne⟩ rmOk_X7_tailWithNod__X4_passOne kC13 iC13 rfl rfl (Nat.le_of_ble_eq_true rfl) dX7_tailWithNod_50 rfl (fun σ7 h => ?_)
          refine q_goto C 82 dX7_tailWithNod_53 (by decide) ?_
          exact b_X7_tailWithNod_J82 C hQ hK12 v1 v2 v3 v4 v5 v6 σ7 h
theorem b_X7_tailWithNod_L12 {Y : CY} {Z : CZ} (C : cx SC 7 Y Z cX7_tailWithNod RX7 wsX7_tailWithNod (some .int) rmX7_tailWithNod) {Post : Int32 → St → Prop} (hQ : Qi SC Y Z Post)  : ∀ (n : Nat) (v1 : Int32) (v2 : Int32) (v3 : Int32) (v4 : Int32) (v5 : Int32) (v6 : Int32) (σ : St) (h : w_X7_tailWithNod_L12  Post n v1 v2 v3 v4 v5 v6 σ), WW SC 7 Y Z σ 12 [(0, .ref (qa Y 12)), (1, .int v1), (2, .int v2), (3, .int v3), (4, .int v4), (5, .int v5), (6, .int v6)] [] := by
  intro n
  induction n with
  | zero => intro v1 v2 v3 v4 v5 v6 σ h; exact h.elim
  | succ n ih => intro v1 v2 v3 v4 v5 v6 σ h; exact b_X7_tailWithNod_B12 C hQ  ih v1 v2 v3 v4 v5 v6 σ h
set_option maxHeartbeats 4000000 in
set_option maxRecDepth 100000 in
theorem b_X7_tailWithNod {Y : CY} {Z : CZ} (C : cx SC 7 Y Z cX7_tailWithNod RX7 wsX7_tailWithNod (some .int) rmX7_tailWithNod) {Post : Int32 → St → Prop} (hQ : Qi SC Y Z Post)  (p1 : Int32) (p2 : Int32) (p3 : Int32) (p4 : Int32) (p5 : Int32) (σ : St) (h : w_X7_tailWithNod p1 p2 p3 p4 p5 σ Post) : WW SC 7 Y Z σ 0 [(0, .ref (qa Y 12)), (1, .int p1), (2, .int p2), (3, .int p3), (4, .int p4), (5, .int p5)] [] := by
  unfold w_X7_tailWithNod at h
  refine q_aload_n C 0 dX7_tailWithNod_0 rfl ?_
  refine q_callVv (As := []) (st := []) C (c_X7_startFresh Y σ _ h) gX7_tailWithNod_X7_startFresh rfl ⟨rfl, nkX7_startFresh⟩ rmOk_X7_tailWithNod__X7_startFresh kC12 iC12 rfl rfl (Nat.le_of_ble_eq_true rfl) dX7_tailWithNod_1 rfl (fun σ1 h => ?_)
  refine q_aload_n C 0 dX7_tailWithNod_4 rfl ?_
  refine q_iconst (v := (0 : Int32)) C dX7_tailWithNod_5 (by decide) ?_
  refine q_puti (T := TX7) C kC12 iC12 inX7_tailWithNod_X7 rfl tyX7 tyX7_ok nmX7 5 (by decide) (List.mem_of_getElem? (i := 1) rfl) (fun _ h9 => h9) rfl dgC12 rfl (ni_n _) (ni_f _) dX7_tailWithNod_6 ?_
  refine q_nmS (fun σ2 eσ2 => ?_)
  replace h := h σ2 eσ2
  refine q_iconst (v := (0 : Int32)) C dX7_tailWithNod_9 (by decide) ?_
  refine q_istore C [(6, .int (0 : Int32)), (0, .ref (qa Y 12)), (1, .int p1), (2, .int p2), (3, .int p3), (4, .int p4), (5, .int p5)] dX7_tailWithNod_10 (by decide) rfl ?_
  refine q_sub (lv' := [(0, .ref (qa Y 12)), (1, .int p1), (2, .int p2), (3, .int p3), (4, .int p4), (5, .int p5), (6, .int (0 : Int32))]) [1, 2, 3, 4, 5, 6, 0] rfl ?_
  exact b_X7_tailWithNod_L12 C hQ FU p1 p2 p3 p4 p5 (0 : Int32) σ2 h
theorem c_X7_tailWithNod (Y : CY)  (p1 : Int32) (p2 : Int32) (p3 : Int32) (p4 : Int32) (p5 : Int32) (σ : St) (Post : Int32 → St → Prop) (h : w_X7_tailWithNod p1 p2 p3 p4 p5 σ Post) : Ki SC Y yX7_tailWithNod wsX7_tailWithNod rmX7_tailWithNod [.ref (qa Y 12), .int p1, .int p2, .int p3, .int p4, .int p5] σ Post :=
  Ki_of (cc := cX7_tailWithNod) (nL := 7) (ret := (some .int)) (by decide +kernel) rfl (Nat.le_of_ble_eq_true rfl) (fun Z C hQ => b_X7_tailWithNod C hQ  p1 p2 p3 p4 p5 σ h)
abbrev rmX7_findBestRule : Room := { frames := 5, cells := 0, slots := 0, locals := 116 }
theorem nkX7_findBestRule : NmOk yX7_findBestRule 1 := by decide +kernel
theorem rmOk_X7_findBestRule__X7_tailWithNod : RmOk rmX7_tailWithNod rmX7_findBestRule 7 := ⟨rfl, rfl, by decide, by decide⟩
theorem inX7_findBestRule_X7 : ∀ w ∈ u_ws RX7 TX7 6, w ∈ wsX7_findBestRule := fun _ h => List.mem_cons_of_mem _ (List.mem_append_left _ (List.mem_append_left _ (List.mem_append_right _ h)))
def w_X7_findBestRule_J87 (K11 : Int32 → Int32 → Int32 → St → Prop) (K20 : Int32 → Int32 → Int32 → Int32 → St → Prop) (Post : St → Prop) (v1 : Int32) (v2 : Int32) (v3 : Int32) (v4 : Int32) (σ : St) : Prop := ∀ x13 : Int32, x13 = v4 + (1 : Int32) → K20 v1 v2 v3 x13 σ
def w_X7_findBestRule_J65 (K11 : Int32 → Int32 → Int32 → St → Prop) (K20 : Int32 → Int32 → Int32 → Int32 → St → Prop) (Post : St → Prop) (v1 : Int32) (v3 : Int32) (v4 : Int32) (v5 : Int32) (σ : St) : Prop := ∀ σ10 : St, σ10 = up σ 12 1 v5 → ∀ x11 : Int32, x11 = (σ10 12 5) → ∀ σ12 : St, σ12 = up σ10 12 0 ((((100 : Int32) * v3) + v4)) → w_X7_findBestRule_J87 K11 K20 Post v1 x11 v3 v4 σ12
def w_X7_findBestRule_B20 (K11 : Int32 → Int32 → Int32 → St → Prop) (Post : St → Prop) (K20 : Int32 → Int32 → Int32 → Int32 → St → Prop) (v1 : Int32) (v2 : Int32) (v3 : Int32) (v4 : Int32) (σ : St) : Prop := ((10 : Int32) < v4 → ∀ x4 : Int32, x4 = v3 + (1 : Int32) → K11 v1 v2 x4 σ) ∧ (¬ (10 : Int32) < v4 → w_X7_tailWithNod v3 v4 v1 (-1 : Int32) (-1 : Int32) σ (fun x6 σ5 => (x6 < (σ5 12 1) → w_X7_findBestRule_J65 K11 K20 Post v1 v3 v4 x6 σ5) ∧ (¬ x6 < (σ5 12 1) → (¬ x6 = (σ5 12 1) → w_X7_findBestRule_J87 K11 K20 Post v1 v2 v3 v4 σ5) ∧ (x6 = (σ5 12 1) → (v2 ≤ (σ5 12 5) → w_X7_findBestRule_J87 K11 K20 Post v1 v2 v3 v4 σ5) ∧ (¬ v2 ≤ (σ5 12 5) → w_X7_findBestRule_J65 K11 K20 Post v1 v3 v4 x6 σ5)))))
def w_X7_findBestRule_L20 (K11 : Int32 → Int32 → Int32 → St → Prop) (Post : St → Prop) : Nat → Int32 → Int32 → Int32 → Int32 → St → Prop
  | 0 => fun _ _ _ _ _ => False
  | n + 1 => w_X7_findBestRule_B20  K11 Post (w_X7_findBestRule_L20  K11 Post n)
def w_X7_findBestRule_B11 (Post : St → Prop) (K11 : Int32 → Int32 → Int32 → St → Prop) (v1 : Int32) (v2 : Int32) (v3 : Int32) (σ : St) : Prop := ((9 : Int32) < v3 → Post σ) ∧ (¬ (9 : Int32) < v3 → w_X7_findBestRule_L20 K11 Post FU v1 v2 v3 (1 : Int32) σ)
def w_X7_findBestRule_L11 (Post : St → Prop) : Nat → Int32 → Int32 → Int32 → St → Prop
  | 0 => fun _ _ _ _ => False
  | n + 1 => w_X7_findBestRule_B11   Post (w_X7_findBestRule_L11   Post n)
def w_X7_findBestRule (p1 : Int32) (σ : St) (Post : St → Prop) : Prop := ∀ σ1 : St, σ1 = up σ 12 1 (10000 : Int32) → w_X7_findBestRule_L11 Post FU p1 (0 : Int32) (0 : Int32) σ1
set_option maxHeartbeats 4000000 in
set_option maxRecDepth 100000 in
theorem b_X7_findBestRule_J87 {Y : CY} {Z : CZ} (C : cx SC 6 Y Z cX7_findBestRule RX7 wsX7_findBestRule none rmX7_findBestRule) {Post : St → Prop} (hQ : Qv SC Y Z Post)  {K11 : Int32 → Int32 → Int32 → St → Prop} (hK11 : ∀ (v1 : Int32) (v2 : Int32) (v3 : Int32) (σ : St), K11 v1 v2 v3 σ → WW SC 6 Y Z σ 11 [(0, .ref (qa Y 12)), (1, .int v1), (2, .int v2), (3, .int v3)] []) {K20 : Int32 → Int32 → Int32 → Int32 → St → Prop} (hK20 : ∀ (v1 : Int32) (v2 : Int32) (v3 : Int32) (v4 : Int32) (σ : St), K20 v1 v2 v3 v4 σ → WW SC 6 Y Z σ 20 [(0, .ref (qa Y 12)), (1, .int v1), (2, .int v2), (3, .int v3), (4, .int v4)] []) (v1 : Int32) (v2 : Int32) (v3 : Int32) (v4 : Int32) (σ : St) (h : w_X7_findBestRule_J87 K11 K20 Post v1 v2 v3 v4 σ) : WW SC 6 Y Z σ 87 [(0, .ref (qa Y 12)), (1, .int v1), (2, .int v2), (3, .int v3), (4, .int v4)] [] := by
  unfold w_X7_findBestRule_J87 at h
  obtain ⟨x13, ex13⟩ : ∃ y : Int32, y = v4 + (1 : Int32) := ⟨_, rfl⟩
  replace h := h x13 ex13
  refine q_iinc C x13 4 [(4, .int x13), (0, .ref (qa Y 12)), (1, .int v1), (2, .int v2), (3, .int v3)] dX7_findBestRule_87 rfl (by rw [ex13]; rfl) (by decide) rfl ?_
  refine q_goto C 20 dX7_findBestRule_90 (by decide) ?_
  refine q_sub (lv' := [(0, .ref (qa Y 12)), (1, .int v1), (2, .int v2), (3, .int v3), (4, .int x13)]) [1, 2, 3, 4, 0] rfl ?_
  exact hK20 v1 v2 v3 x13 σ h
set_option maxHeartbeats 4000000 in
set_option maxRecDepth 100000 in
theorem b_X7_findBestRule_J65 {Y : CY} {Z : CZ} (C : cx SC 6 Y Z cX7_findBestRule RX7 wsX7_findBestRule none rmX7_findBestRule) {Post : St → Prop} (hQ : Qv SC Y Z Post)  {K11 : Int32 → Int32 → Int32 → St → Prop} (hK11 : ∀ (v1 : Int32) (v2 : Int32) (v3 : Int32) (σ : St), K11 v1 v2 v3 σ → WW SC 6 Y Z σ 11 [(0, .ref (qa Y 12)), (1, .int v1), (2, .int v2), (3, .int v3)] []) {K20 : Int32 → Int32 → Int32 → Int32 → St → Prop} (hK20 : ∀ (v1 : Int32) (v2 : Int32) (v3 : Int32) (v4 : Int32) (σ : St), K20 v1 v2 v3 v4 σ → WW SC 6 Y Z σ 20 [(0, .ref (qa Y 12)), (1, .int v1), (2, .int v2), (3, .int v3), (4, .int v4)] []) (v1 : Int32) (v3 : Int32) (v4 : Int32) (v5 : Int32) (σ : St) (h : w_X7_findBestRule_J65 K11 K20 Post v1 v3 v4 v5 σ) : WW SC 6 Y Z σ 65 [(0, .ref (qa Y 12)), (1, .int v1), (3, .int v3), (4, .int v4), (5, .int v5)] [] := by
  unfold w_X7_findBestRule_J65 at h
  refine q_aload_n C 0 dX7_findBestRule_65 rfl ?_
  refine q_iload C 4 dX7_findBestRule_66 rfl ?_
  refine q_puti (T := TX7) C kC12 iC12 inX7_findBestRule_X7 rfl tyX7 tyX7_ok nmX7 1 (by decide) (List.mem_of_getElem? (i := 1) rfl) (fun _ h9 => h9) rfl dgC12 rfl (ni_n _) (ni_f _) dX7_findBestRule_68 ?_
  refine q_nmS (fun σ10 eσ10 => ?_)
  replace h := h σ10 eσ10
  refine q_aload_n C 0 dX7_findBestRule_71 rfl ?_
  refine q_geti (T := TX7) C kC12 iC12 inX7_findBestRule_X7 rfl 5 (by decide) (List.mem_of_getElem? (i := 2) rfl) (fun _ h9 => h9) rfl dX7_findBestRule_72 ?_
  refine q_topi (fun x11 ex11 => ?_)
  replace h := h x11 ex11
  refine q_istore_n C [(2, .int x11), (0, .ref (qa Y 12)), (1, .int v1), (3, .int v3), (4, .int v4), (5, .int v5)] dX7_findBestRule_75 (by decide) rfl ?_
  refine q_aload_n C 1 dX7_findBestRule_76 rfl ?_
  refine q_bipush (v := (100 : Int32)) C dX7_findBestRule_77 (by decide) ?_
  refine q_iload_n C 3 dX7_findBestRule_79 rfl ?_
  refine q_imul C dX7_findBestRule_80 ?_
  refine q_iload C 4 dX7_findBestRule_81 rfl ?_
  refine q_iadd C dX7_findBestRule_83 ?_
  refine q_puti (T := TX7) C kC12 iC12 inX7_findBestRule_X7 rfl tyX7 tyX7_ok nmX7 0 (by decide) (List.mem_of_getElem? (i := 3) rfl) (fun _ h9 => h9) rfl dgC12 rfl (ni_n _) (ni_f _) dX7_findBestRule_84 ?_
  refine q_nmS (fun σ12 eσ12 => ?_)
  replace h := h σ12 eσ12
  refine q_sub (lv' := [(0, .ref (qa Y 12)), (1, .int v1), (2, .int x11), (3, .int v3), (4, .int v4)]) [1, 2, 0, 3, 4] rfl ?_
  exact b_X7_findBestRule_J87 C hQ hK11 hK20 v1 x11 v3 v4 σ12 h
set_option maxHeartbeats 4000000 in
set_option maxRecDepth 100000 in
theorem b_X7_findBestRule_B20 {Y : CY} {Z : CZ} (C : cx SC 6 Y Z cX7_findBestRule RX7 wsX7_findBestRule none rmX7_findBestRule) {Post : St → Prop} (hQ : Qv SC Y Z Post)  {K11 : Int32 → Int32 → Int32 → St → Prop} (hK11 : ∀ (v1 : Int32) (v2 : Int32) (v3 : Int32) (σ : St), K11 v1 v2 v3 σ → WW SC 6 Y Z σ 11 [(0, .ref (qa Y 12)), (1, .int v1), (2, .int v2), (3, .int v3)] []) {K20 : Int32 → Int32 → Int32 → Int32 → St → Prop} (hK20 : ∀ (v1 : Int32) (v2 : Int32) (v3 : Int32) (v4 : Int32) (σ : St), K20 v1 v2 v3 v4 σ → WW SC 6 Y Z σ 20 [(0, .ref (qa Y 12)), (1, .int v1), (2, .int v2), (3, .int v3), (4, .int v4)] []) (v1 : Int32) (v2 : Int32) (v3 : Int32) (v4 : Int32) (σ : St) (h : w_X7_findBestRule_B20 K11 Post K20 v1 v2 v3 v4 σ) : WW SC 6 Y Z σ 20 [(0, .ref (qa Y 12)), (1, .int v1), (2, .int v2), (3, .int v3), (4, .int v4)] [] := by
  unfold w_X7_findBestRule_B20 at h
  refine q_iload C 4 dX7_findBestRule_20 rfl ?_
  refine q_bipush (v := (10 : Int32)) C dX7_findBestRule_22 (by decide) ?_
  refine q_icmp_gt C 93 dX7_findBestRule_24 (by decide) (fun c3 => ?_) (fun c3 => ?_)
  · replace h := h.1 c3
    obtain ⟨x4, ex4⟩ : ∃ y : Int32, y = v3 + (1 : Int32) := ⟨_, rfl⟩
    replace h := h x4 ex4
    refine q_iinc C x4 3 [(3, .int x4), (0, .ref (qa Y 12)), (1, .int v1), (2, .int v2), (4, .int v4)] dX7_findBestRule_93 rfl (by rw [ex4]; rfl) (by decide) rfl ?_
    refine q_goto C 11 dX7_findBestRule_96 (by decide) ?_
    refine q_sub (lv' := [(0, .ref (qa Y 12)), (1, .int v1), (2, .int v2), (3, .int x4)]) [1, 2, 3, 0] rfl ?_
    exact hK11 v1 v2 x4 σ h
  · replace h := h.2 c3
    refine q_aload_n C 0 dX7_findBestRule_27 rfl ?_
    refine q_iload_n C 3 dX7_findBestRule_28 rfl ?_
    refine q_iload C 4 dX7_findBestRule_29 rfl ?_
    refine q_iload_n C 1 dX7_findBestRule_31 rfl ?_
    refine q_iconst (v := (-1 : Int32)) C dX7_findBestRule_32 (by decide) ?_
    refine q_iconst (v := (-1 : Int32)) C dX7_findBestRule_33 (by decide) ?_
    refine q_callVi (As := [.int v3, .int v4, .int v1, .int (-1 : Int32), .int (-1 : Int32)]) (st := []) C (c_X7_tailWithNod Y v3 v4 v1 (-1 : Int32) (-1 : Int32) σ _ h) gX7_findBestRule_X7_tailWithNod rfl ⟨rfl, nkX7_tailWithNod⟩ rmOk_X7_findBestRule__X7_tailWithNod kC12 iC12 rfl rfl (Nat.le_of_ble_eq_true rfl) dX7_findBestRule_34 rfl (fun x6 σ5 h => ?_)
    refine q_istore C [(5, .int x6), (0, .ref (qa Y 12)), (1, .int v1), (2, .int v2), (3, .int v3), (4, .int v4)] dX7_findBestRule_37 (by decide) rfl ?_
    refine q_iload C 0 dX7_findBestRule_39 rfl ?_
    refine q_aload_n C 1 dX7_findBestRule_41 rfl ?_
    refine q_geti (T := TX7) C kC12 iC12 inX7_findBestRule_X7 rfl 1 (by decide) (List.mem_of_getElem? (i := 1) rfl) (fun _ h9 => h9) rfl dX7_findBestRule_42 ?_
    refine q_icmp_lt C 65 dX7_findBestRule_45 (by decide) (fun c7 => ?_) (fun c7 => ?_)
    · replace h := h.1 c7
      refine q_sub (lv' := [(0, .ref (qa Y 12)), (1, .int v1), (3, .int v3), (4, .int v4), (5, .int x6)]) [1, 2, 4, 5, 0] rfl ?_
      exact b_X7_findBestRule_J65 C hQ hK11 hK20 v1 v3 v4 x6 σ5 h
    · replace h := h.2 c7
      refine q_iload C 0 dX7_findBestRule_48 rfl ?_
      refine q_aload_n C 1 dX7_findBestRule_50 rfl ?_
      refine q_geti (T := TX7) C kC12 iC12 inX7_findBestRule_X7 rfl 1 (by decide) (List.mem_of_getElem? (i := 1) rfl) (fun _ h9 => h9) rfl dX7_findBestRule_51 ?_
      refine q_icmp_ne C 87 dX7_findBestRule_54 (by decide) (fun c8 => ?_) (fun c8 => ?_)
      · replace h := h.1 c8
        refine q_sub (lv' := [(0, .ref (qa Y 12)), (1, .int v1), (2, .int v2), (3, .int v3), (4, .int v4)]) [1, 2, 3, 4, 5] rfl ?_
        exact b_X7_findBestRule_J87 C hQ hK11 hK20 v1 v2 v3 v4 σ5 h
      · replace h := h.2 c8
        refine q_aload_n C 1 dX7_findBestRule_57 rfl ?_
        refine q_geti (T := TX7) C kC12 iC12 inX7_findBestRule_X7 rfl 5 (by decide) (List.mem_of_getElem? (i := 2) rfl) (fun _ h9 => h9) rfl dX7_findBestRule_58 ?_
        refine q_iload_n C 3 dX7_findBestRule_61 rfl ?_
        refine q_icmp_ge C 87 dX7_findBestRule_62 (by decide) (fun c9 => ?_) (fun c9 => ?_)
        · replace h := h.1 c9
          refine q_sub (lv' := [(0, .ref (qa Y 12)), (1, .int v1), (2, .int v2), (3, .int v3), (4, .int v4)]) [1, 2, 3, 4, 5] rfl ?_
          exact b_X7_findBestRule_J87 C hQ hK11 hK20 v1 v2 v3 v4 σ5 h
        · replace h := h.2 c9
          refine q_sub (lv' := [(0, .ref (qa Y 12)), (1, .int v1), (3, .int v3), (4, .int v4), (5, .int x6)]) [1, 2, 4, 5, 0] rfl ?_
          exact b_X7_findBestRule_J65 C hQ hK11 hK20 v1 v3 v4 x6 σ5 h
theorem b_X7_findBestRule_L20 {Y : CY} {Z : CZ} (C : cx SC 6 Y Z cX7_findBestRule RX7 wsX7_findBestRule none rmX7_findBestRule) {Post : St → Prop} (hQ : Qv SC Y Z Post)  {K11 : Int32 → Int32 → Int32 → St → Prop} (hK11 : ∀ (v1 : Int32) (v2 : Int32) (v3 : Int32) (σ : St), K11 v1 v2 v3 σ → WW SC 6 Y Z σ 11 [(0, .ref (qa Y 12)), (1, .int v1), (2, .int v2), (3, .int v3)] []) : ∀ (n : Nat) (v1 : Int32) (v2 : Int32) (v3 : Int32) (v4 : Int32) (σ : St) (h : w_X7_findBestRule_L20 K11 Post n v1 v2 v3 v4 σ), WW SC 6 Y Z σ 20 [(0, .ref (qa Y 12)), (1, .int v1), (2, .int v2), (3, .int v3), (4, .int v4)] [] := by
  intro n
  induction n with
  | zero => intro v1 v2 v3 v4 σ h; exact h.elim
  | succ n ih => intro v1 v2 v3 v4 σ h; exact b_X7_findBestRule_B20 C hQ  hK11 ih v1 v2 v3 v4 σ h
set_option maxHeartbeats 4000000 in
set_option maxRecDepth 100000 in
theorem b_X7_findBestRule_B11 {Y : CY} {Z : CZ} (C : cx SC 6 Y Z cX7_findBestRule RX7 wsX7_findBestRule none rmX7_findBestRule) {Post : St → Prop} (hQ : Qv SC Y Z Post)  {K11 : Int32 → Int32 → Int32 → St → Prop} (hK11 : ∀ (v1 : Int32) (v2 : Int32) (v3 : Int32) (σ : St), K11 v1 v2 v3 σ → WW SC 6 Y Z σ 11 [(0, .ref (qa Y 12)), (1, .int v1), (2, .int v2), (3, .int v3)] []) (v1 : Int32) (v2 : Int32) (v3 : Int32) (σ : St) (h : w_X7_findBestRule_B11  Post K11 v1 v2 v3 σ) : WW SC 6 Y Z σ 11 [(0, .ref (qa Y 12)), (1, .int v1), (2, .int v2), (3, .int v3)] [] := by
  unfold w_X7_findBestRule_B11 at h
  refine q_iload_n C 3 dX7_findBestRule_11 rfl ?_
  refine q_bipush (v := (9 : Int32)) C dX7_findBestRule_12 (by decide) ?_
  refine q_icmp_gt C 99 dX7_findBestRule_14 (by decide) (fun c2 => ?_) (fun c2 => ?_)
  · replace h := h.1 c2
    exact q_vret C hQ dX7_findBestRule_99 h
  · replace h := h.2 c2
    refine q_iconst (v := (1 : Int32)) C dX7_findBestRule_17 (by decide) ?_
    refine q_istore C [(4, .int (1 : Int32)), (0, .ref (qa Y 12)), (1, .int v1), (2, .int v2), (3, .int v3)] dX7_findBestRule_18 (by decide) rfl ?_
    refine q_sub (lv' := [(0, .ref (qa Y 12)), (1, .int v1), (2, .int v2), (3, .int v3), (4, .int (1 : Int32))]) [1, 2, 3, 4, 0] rfl ?_
    exact b_X7_findBestRule_L20 C hQ hK11 FU v1 v2 v3 (1 : Int32) σ h
theorem b_X7_findBestRule_L11 {Y : CY} {Z : CZ} (C : cx SC 6 Y Z cX7_findBestRule RX7 wsX7_findBestRule none rmX7_findBestRule) {Post : St → Prop} (hQ : Qv SC Y Z Post)  : ∀ (n : Nat) (v1 : Int32) (v2 : Int32) (v3 : Int32) (σ : St) (h : w_X7_findBestRule_L11  Post n v1 v2 v3 σ), WW SC 6 Y Z σ 11 [(0, .ref (qa Y 12)), (1, .int v1), (2, .int v2), (3, .int v3)] [] := by
  intro n
  induction n with
  | zero => intro v1 v2 v3 σ h; exact h.elim
  | succ n ih => intro v1 v2 v3 σ h; exact b_X7_findBestRule_B11 C hQ  ih v1 v2 v3 σ h
set_option maxHeartbeats 4000000 in
set_option maxRecDepth 100000 in
theorem b_X7_findBestRule {Y : CY} {Z : CZ} (C : cx SC 6 Y Z cX7_findBestRule RX7 wsX7_findBestRule none rmX7_findBestRule) {Post : St → Prop} (hQ : Qv SC Y Z Post)  (p1 : Int32) (σ : St) (h : w_X7_findBestRule p1 σ Post) : WW SC 6 Y Z σ 0 [(0, .ref (qa Y 12)), (1, .int p1)] [] := by
  unfold w_X7_findBestRule at h
  refine q_aload_n C 0 dX7_findBestRule_0 rfl ?_
  refine q_sipush (v := (10000 : Int32)) C dX7_findBestRule_1 (by decide) ?_
  refine q_puti (T := TX7) C kC12 iC12 inX7_findBestRule_X7 rfl tyX7 tyX7_ok nmX7 1 (by decide) (List.mem_of_getElem? (i := 1) rfl) (fun _ h9 => h9) rfl dgC12 rfl (ni_n _) (ni_f _) dX7_findBestRule_4 ?_
  refine q_nmS (fun σ1 eσ1 => ?_)
  replace h := h σ1 eσ1
  refine q_iconst (v := (0 : Int32)) C dX7_findBestRule_7 (by decide) ?_
  refine q_istore_n C [(2, .int (0 : Int32)), (0, .ref (qa Y 12)), (1, .int p1)] dX7_findBestRule_8 (by decide) rfl ?_
  refine q_iconst (v := (0 : Int32)) C dX7_findBestRule_9 (by decide) ?_
  refine q_istore_n C [(3, .int (0 : Int32)), (2, .int (0 : Int32)), (0, .ref (qa Y 12)), (1, .int p1)] dX7_findBestRule_10 (by decide) rfl ?_
  refine q_sub (lv' := [(0, .ref (qa Y 12)), (1, .int p1), (2, .int (0 : Int32)), (3, .int (0 : Int32))]) [2, 3, 1, 0] rfl ?_
  exact b_X7_findBestRule_L11 C hQ FU p1 (0 : Int32) (0 : Int32) σ1 h
theorem c_X7_findBestRule (Y : CY)  (p1 : Int32) (σ : St) (Post : St → Prop) (h : w_X7_findBestRule p1 σ Post) : Kv SC Y yX7_findBestRule wsX7_findBestRule rmX7_findBestRule [.ref (qa Y 12), .int p1] σ Post :=
  Kv_of (cc := cX7_findBestRule) (nL := 6) (ret := none) (by decide +kernel) rfl (Nat.le_of_ble_eq_true rfl) (fun Z C hQ => b_X7_findBestRule C hQ  p1 σ h)
abbrev rmX7_goOn : Room := { frames := 4, cells := 0, slots := 0, locals := 89 }
theorem nkX7_goOn : NmOk yX7_goOn 1 := by decide +kernel
theorem rmOk_X7_goOn__X4_copyFrom : RmOk rmX4_copyFrom rmX7_goOn 2 := ⟨rfl, rfl, by decide, by decide⟩
theorem rmOk_X7_goOn__X4_passMany : RmOk rmX4_passMany rmX7_goOn 4 := ⟨rfl, rfl, by decide, by decide⟩
theorem inX7_goOn_X7 : ∀ w ∈ u_ws RX7 TX7 6, w ∈ wsX7_goOn := fun _ h => List.mem_cons_of_mem _ (List.mem_append_left _ (List.mem_append_left _ (List.mem_append_right _ h)))
def w_X7_goOn (p1 : Int32) (σ : St) (Post : St → Prop) : Prop := w_X4_copyFrom 13 11 σ (fun σ1 => w_X4_passMany 13 p1 σ1 (fun σ2 => Post σ2))
set_option maxHeartbeats 4000000 in
set_option maxRecDepth 100000 in
theorem b_X7_goOn {Y : CY} {Z : CZ} (C : cx SC 2 Y Z cX7_goOn RX7 wsX7_goOn none rmX7_goOn) {Post : St → Prop} (hQ : Qv SC Y Z Post)  (p1 : Int32) (σ : St) (h : w_X7_goOn p1 σ Post) : WW SC 2 Y Z σ 0 [(0, .ref (qa Y 12)), (1, .int p1)] [] := by
  unfold w_X7_goOn at h
  refine q_aload_n C 0 dX7_goOn_0 rfl ?_
  refine q_getr (T := TX7) C kC12 iC12 inX7_goOn_X7 rfl 2 (by decide) (List.mem_of_getElem? (i := 1) rfl) (fun _ h9 => h9) rfl dX7_goOn_1 ?_
  refine q_aload_n C 0 dX7_goOn_4 rfl ?_
  refine q_getr (T := TX7) C kC12 iC12 inX7_goOn_X7 rfl 4 (by decide) (List.mem_of_getElem? (i := 2) rfl) (fun _ h9 => h9) rfl dX7_goOn_5 ?_
  refine q_callVv (As := [.ref (qa Y 11)]) (st := []) C (c_X4_copyFrom Y kC13 iC13 kC11 iC11 σ _ h) gX7_goOn_X4_copyFrom rfl ⟨rfl, nkX4_copyFrom⟩ rmOk_X7_goOn__X4_copyFrom kC13 iC13 rfl rfl (Nat.le_of_ble_eq_true rfl) dX7_goOn_8 rfl (fun σ1 h => ?_)
  refine q_aload_n C 0 dX7_goOn_11 rfl ?_
  refine q_getr (T := TX7) C kC12 iC12 inX7_goOn_X7 rfl 2 (by decide) (List.mem_of_getElem? (i := 1) rfl) (fun _ h9 => h9) rfl dX7_goOn_12 ?_
  refine q_aload_n C 0 dX7_goOn_15 rfl ?_
  refine q_getr (T := TX7) C kC12 iC12 inX7_goOn_X7 rfl 3 (by decide) (List.mem_of_getElem? (i := 3) rfl) (fun _ h9 => h9) rfl dX7_goOn_16 ?_
  refine q_iload_n C 1 dX7_goOn_19 rfl ?_
  refine q_callVv (As := [.ref (qa Y 3), .int p1]) (st := []) C (c_X4_passMany Y kC13 iC13 p1 σ1 _ h) gX7_goOn_X4_passMany rfl ⟨rfl, nkX4_passMany⟩ rmOk_X7_goOn__X4_passMany kC13 iC13 rfl rfl (Nat.le_of_ble_eq_true rfl) dX7_goOn_20 rfl (fun σ2 h => ?_)
  exact q_vret C hQ dX7_goOn_23 h
theorem c_X7_goOn (Y : CY)  (p1 : Int32) (σ : St) (Post : St → Prop) (h : w_X7_goOn p1 σ Post) : Kv SC Y yX7_goOn wsX7_goOn rmX7_goOn [.ref (qa Y 12), .int p1] σ Post :=
  Kv_of (cc := cX7_goOn) (nL := 2) (ret := none) (by decide +kernel) rfl (Nat.le_of_ble_eq_true rfl) (fun Z C hQ => b_X7_goOn C hQ  p1 σ h)
abbrev rmX7_longestWithin : Room := { frames := 3, cells := 0, slots := 0, locals := 66 }
theorem nkX7_longestWithin : NmOk yX7_longestWithin 1 := by decide +kernel
theorem rmOk_X7_longestWithin__X4_passOne : RmOk rmX4_passOne rmX7_longestWithin 2 := ⟨rfl, rfl, by decide, by decide⟩
theorem rmOk_X7_longestWithin__X4_tailLength : RmOk rmX4_tailLength rmX7_longestWithin 1 := ⟨rfl, rfl, by decide, by decide⟩
theorem rmOk_X7_longestWithin__X7_startFresh : RmOk rmX7_startFresh rmX7_longestWithin 1 := ⟨rfl, rfl, by decide, by decide⟩
theorem inX7_longestWithin_X4 : ∀ w ∈ u_ws RX4 TX4 12, w ∈ wsX7_longestWithin := fun _ h => List.mem_cons_of_mem _ (List.mem_append_left _ (List.mem_append_right _ h))
theorem inX7_longestWithin_X7 : ∀ w ∈ u_ws RX7 TX7 6, w ∈ wsX7_longestWithin := fun _ h => List.mem_cons_of_mem _ (List.mem_append_left _ (List.mem_append_left _ (List.mem_append_right _ h)))
def w_X7_longestWithin_B6 (Post : Int32 → St → Prop) (K6 : Int32 → Int32 → St → Prop) (v1 : Int32) (v2 : Int32) (σ : St) : Prop := ((999 : Int32) ≤ v2 → Post (999 : Int32) σ) ∧ (¬ (999 : Int32) ≤ v2 → w_X4_passOne 13 σ (fun σ3 => (¬ (σ3 13 3) = 0 → Post v2 σ3) ∧ ((σ3 13 3) = 0 → w_X4_tailLength 13 σ3 (fun x6 σ5 => (x6 ≤ v1 → ∀ x8 : Int32, x8 = v2 + (1 : Int32) → K6 v1 x8 σ5) ∧ (¬ x6 ≤ v1 → Post v2 σ5)))))
def w_X7_longestWithin_L6 (Post : Int32 → St → Prop) : Nat → Int32 → Int32 → St → Prop
  | 0 => fun _ _ _ => False
  | n + 1 => w_X7_longestWithin_B6   Post (w_X7_longestWithin_L6   Post n)
def w_X7_longestWithin (p1 : Int32) (σ : St) (Post : Int32 → St → Prop) : Prop := w_X7_startFresh σ (fun σ1 => w_X7_longestWithin_L6 Post FU p1 (0 : Int32) σ1)
set_option maxHeartbeats 4000000 in
set_option maxRecDepth 100000 in
theorem b_X7_longestWithin_B6 {Y : CY} {Z : CZ} (C : cx SC 3 Y Z cX7_longestWithin RX7 wsX7_longestWithin (some .int) rmX7_longestWithin) {Post : Int32 → St → Prop} (hQ : Qi SC Y Z Post)  {K6 : Int32 → Int32 → St → Prop} (hK6 : ∀ (v1 : Int32) (v2 : Int32) (σ : St), K6 v1 v2 σ → WW SC 3 Y Z σ 6 [(0, .ref (qa Y 12)), (1, .int v1), (2, .int v2)] []) (v1 : Int32) (v2 : Int32) (σ : St) (h : w_X7_longestWithin_B6  Post K6 v1 v2 σ) : WW SC 3 Y Z σ 6 [(0, .ref (qa Y 12)), (1, .int v1), (2, .int v2)] [] := by
  unfold w_X7_longestWithin_B6 at h
  refine q_iload_n C 2 dX7_longestWithin_6 rfl ?_
  refine q_sipush (v := (999 : Int32)) C dX7_longestWithin_7 (by decide) ?_
  refine q_icmp_ge C 53 dX7_longestWithin_10 (by decide) (fun c2 => ?_) (fun c2 => ?_)
  · replace h := h.1 c2
    refine q_sipush (v := (999 : Int32)) C dX7_longestWithin_53 (by decide) ?_
    exact q_iret C hQ dX7_longestWithin_56 h
  · replace h := h.2 c2
    refine q_aload_n C 0 dX7_longestWithin_13 rfl ?_
    refine q_getr (T := TX7) C kC12 iC12 inX7_longestWithin_X7 rfl 2 (by decide) (List.mem_of_getElem? (i := 1) rfl) (fun _ h9 => h9) rfl dX7_longestWithin_14 ?_
    refine q_aload_n C 0 dX7_longestWithin_17 rfl ?_
    refine q_getr (T := TX7) C kC12 iC12 inX7_longestWithin_X7 rfl 3 (by decide) (List.mem_of_getElem? (i := 2) rfl) (fun _ h9 => h9) rfl dX7_longestWithin_18 ?_
    refine q_callVv (As := [.ref (qa Y 3)]) (st := []) C (c_X4_passOne Y kC13 iC13 σ _ h) gX7_longestWithin_X4_passOne rfl ⟨rfl, nkX4_passOne⟩ rmOk_X7_longestWithin__X4_passOne kC13 iC13 rfl rfl (Nat.le_of_ble_eq_true rfl) dX7_longestWithin_21 rfl (fun σ3 h => ?_)
    refine q_aload_n C 0 dX7_longestWithin_24 rfl ?_
    refine q_getr (T := TX7) C kC12 iC12 inX7_longestWithin_X7 rfl 2 (by decide) (List.mem_of_getElem? (i := 1) rfl) (fun _ h9 => h9) rfl dX7_longestWithin_25 ?_
    refine q_geti (T := TX4) C kC13 iC13 inX7_longestWithin_X4 rfl 3 (by decide) (List.mem_of_getElem? (i := 3) rfl) (fun _ h9 => h9) rfl dX7_longestWithin_28 ?_
    refine q_if_ne C 45 dX7_longestWithin_31 (by decide) (fun c4 => ?_) (fun c4 => ?_)
    · replace h := h.1 c4
      refine q_iload_n C 2 dX7_longestWithin_45 rfl ?_
      exact q_iret C hQ dX7_longestWithin_46 h
    · replace h := h.2 c4
      refine q_aload_n C 0 dX7_longestWithin_34 rfl ?_
      refine q_getr (T := TX7) C kC12 iC12 inX7_longestWithin_X7 rfl 2 (by decide) (List.mem_of_getElem? (i := 1) rfl) (fun _ h9 => h9) rfl dX7_longestWithin_35 ?_
      refine q_callVi (As := []) (st := []) C (c_X4_tailLength Y kC13 iC13 σ3 _ h) gX7_longestWithin_X4_tailLength rfl ⟨rfl, nkX4_tailLength⟩ rmOk_X7_longestWithin__X4_tailLength kC13 iC13 rfl rfl (Nat.le_of_ble_eq_true rfl) dX7_longestWithin_38 rfl (fun x6 σ5 h => ?_)
      refine q_iload_n C 1 dX7_longestWithin_41 rfl ?_
      refine q_icmp_le C 47 dX7_longestWithin_42 (by decide) (fun c7 => ?_) (fun c7 => ?_)
      · replace h := h.1 c7
        obtain ⟨x8, ex8⟩ : ∃ y : Int32, y = v2 + (1 : Int32) := ⟨_, rfl⟩
        replace h := h x8 ex8
        refine q_iinc C x8 2 [(2, .int x8), (0, .ref (qa Y 12)), (1, .int v1)] dX7_longestWithin_47 rfl (by rw [ex8]; rfl) (by decide) rfl ?_
        refine q_goto C 6 dX7_longestWithin_50 (by decide) ?_
        refine q_sub (lv' := [(0, .ref (qa Y 12)), (1, .int v1), (2, .int x8)]) [1, 2, 0] rfl ?_
        exact hK6 v1 x8 σ5 h
      · replace h := h.2 c7
        refine q_iload_n C 2 dX7_longestWithin_45 rfl ?_
        exact q_iret C hQ dX7_longestWithin_46 h
theorem b_X7_longestWithin_L6 {Y : CY} {Z : CZ} (C : cx SC 3 Y Z cX7_longestWithin RX7 wsX7_longestWithin (some .int) rmX7_longestWithin) {Post : Int32 → St → Prop} (hQ : Qi SC Y Z Post)  : ∀ (n : Nat) (v1 : Int32) (v2 : Int32) (σ : St) (h : w_X7_longestWithin_L6  Post n v1 v2 σ), WW SC 3 Y Z σ 6 [(0, .ref (qa Y 12)), (1, .int v1), (2, .int v2)] [] := by
  intro n
  induction n with
  | zero => intro v1 v2 σ h; exact h.elim
  | succ n ih => intro v1 v2 σ h; exact b_X7_longestWithin_B6 C hQ  ih v1 v2 σ h
set_option maxHeartbeats 4000000 in
set_option maxRecDepth 100000 in
theorem b_X7_longestWithin {Y : CY} {Z : CZ} (C : cx SC 3 Y Z cX7_longestWithin RX7 wsX7_longestWithin (some .int) rmX7_longestWithin) {Post : Int32 → St → Prop} (hQ : Qi SC Y Z Post)  (p1 : Int32) (σ : St) (h : w_X7_longestWithin p1 σ Post) : WW SC 3 Y Z σ 0 [(0, .ref (qa Y 12)), (1, .int p1)] [] := by
  unfold w_X7_longestWithin at h
  refine q_aload_n C 0 dX7_longestWithin_0 rfl ?_
  refine q_callVv (As := []) (st := []) C (c_X7_startFresh Y σ _ h) gX7_longestWithin_X7_startFresh rfl ⟨rfl, nkX7_startFresh⟩ rmOk_X7_longestWithin__X7_startFresh kC12 iC12 rfl rfl (Nat.le_of_ble_eq_true rfl) dX7_longestWithin_1 rfl (fun σ1 h => ?_)
  refine q_iconst (v := (0 : Int32)) C dX7_longestWithin_4 (by decide) ?_
  refine q_istore_n C [(2, .int (0 : Int32)), (0, .ref (qa Y 12)), (1, .int p1)] dX7_longestWithin_5 (by decide) rfl ?_
  refine q_sub (lv' := [(0, .ref (qa Y 12)), (1, .int p1), (2, .int (0 : Int32))]) [1, 2, 0] rfl ?_
  exact b_X7_longestWithin_L6 C hQ FU p1 (0 : Int32) σ1 h
theorem c_X7_longestWithin (Y : CY)  (p1 : Int32) (σ : St) (Post : Int32 → St → Prop) (h : w_X7_longestWithin p1 σ Post) : Ki SC Y yX7_longestWithin wsX7_longestWithin rmX7_longestWithin [.ref (qa Y 12), .int p1] σ Post :=
  Ki_of (cc := cX7_longestWithin) (nL := 3) (ret := (some .int)) (by decide +kernel) rfl (Nat.le_of_ble_eq_true rfl) (fun Z C hQ => b_X7_longestWithin C hQ  p1 σ h)
abbrev rmX7_minuteOfLoss : Room := { frames := 5, cells := 0, slots := 0, locals := 110 }
theorem nkX7_minuteOfLoss : NmOk yX7_minuteOfLoss 0 := by decide +kernel
theorem rmOk_X7_minuteOfLoss__X7_goOn : RmOk rmX7_goOn rmX7_minuteOfLoss 2 := ⟨rfl, rfl, by decide, by decide⟩
theorem inX7_minuteOfLoss_X4 : ∀ w ∈ u_ws RX4 TX4 12, w ∈ wsX7_minuteOfLoss := fun _ h => List.mem_cons_of_mem _ (List.mem_append_left _ (List.mem_append_right _ h))
theorem inX7_minuteOfLoss_X7 : ∀ w ∈ u_ws RX7 TX7 6, w ∈ wsX7_minuteOfLoss := fun _ h => List.mem_cons_of_mem _ (List.mem_append_left _ (List.mem_append_left _ (List.mem_append_right _ h)))
def w_X7_minuteOfLoss (σ : St) (Post : Int32 → St → Prop) : Prop := w_X7_goOn (999 : Int32) σ (fun σ1 => ((σ1 13 3) = 0 → Post (-1 : Int32) σ1) ∧ (¬ (σ1 13 3) = 0 → Post (((σ1 13 0) - (1 : Int32))) σ1))
set_option maxHeartbeats 4000000 in
set_option maxRecDepth 100000 in
theorem b_X7_minuteOfLoss {Y : CY} {Z : CZ} (C : cx SC 1 Y Z cX7_minuteOfLoss RX7 wsX7_minuteOfLoss (some .int) rmX7_minuteOfLoss) {Post : Int32 → St → Prop} (hQ : Qi SC Y Z Post)  (σ : St) (h : w_X7_minuteOfLoss  σ Post) : WW SC 1 Y Z σ 0 [(0, .ref (qa Y 12))] [] := by
  unfold w_X7_minuteOfLoss at h
  refine q_aload_n C 0 dX7_minuteOfLoss_0 rfl ?_
  refine q_sipush (v := (999 : Int32)) C dX7_minuteOfLoss_1 (by decide) ?_
  refine q_callVv (As := [.int (999 : Int32)]) (st := []) C (c_X7_goOn Y (999 : Int32) σ _ h) gX7_minuteOfLoss_X7_goOn rfl ⟨rfl, nkX7_goOn⟩ rmOk_X7_minuteOfLoss__X7_goOn kC12 iC12 rfl rfl (Nat.le_of_ble_eq_true rfl) dX7_minuteOfLoss_4 rfl (fun σ1 h => ?_)
  refine q_aload_n C 0 dX7_minuteOfLoss_7 rfl ?_
  refine q_getr (T := TX7) C kC12 iC12 inX7_minuteOfLoss_X7 rfl 2 (by decide) (List.mem_of_getElem? (i := 1) rfl) (fun _ h9 => h9) rfl dX7_minuteOfLoss_8 ?_
  refine q_geti (T := TX4) C kC13 iC13 inX7_minuteOfLoss_X4 rfl 3 (by decide) (List.mem_of_getElem? (i := 2) rfl) (fun _ h9 => h9) rfl dX7_minuteOfLoss_11 ?_
  refine q_if_eq C 29 dX7_minuteOfLoss_14 (by decide) (fun c2 => ?_) (fun c2 => ?_)
  · replace h := h.1 c2
    refine q_iconst (v := (-1 : Int32)) C dX7_minuteOfLoss_29 (by decide) ?_
    exact q_iret C hQ dX7_minuteOfLoss_30 h
  · replace h := h.2 c2
    refine q_aload_n C 0 dX7_minuteOfLoss_17 rfl ?_
    refine q_getr (T := TX7) C kC12 iC12 inX7_minuteOfLoss_X7 rfl 2 (by decide) (List.mem_of_getElem? (i := 1) rfl) (fun _ h9 => h9) rfl dX7_minuteOfLoss_18 ?_
    refine q_geti (T := TX4) C kC13 iC13 inX7_minuteOfLoss_X4 rfl 0 (by decide) (List.mem_of_getElem? (i := 3) rfl) (fun _ h9 => h9) rfl dX7_minuteOfLoss_21 ?_
    refine q_iconst (v := (1 : Int32)) C dX7_minuteOfLoss_24 (by decide) ?_
    refine q_isub C dX7_minuteOfLoss_25 ?_
    refine q_goto C 30 dX7_minuteOfLoss_26 (by decide) ?_
    exact q_iret C hQ dX7_minuteOfLoss_30 h
theorem c_X7_minuteOfLoss (Y : CY)  (σ : St) (Post : Int32 → St → Prop) (h : w_X7_minuteOfLoss  σ Post) : Ki SC Y yX7_minuteOfLoss wsX7_minuteOfLoss rmX7_minuteOfLoss [.ref (qa Y 12)] σ Post :=
  Ki_of (cc := cX7_minuteOfLoss) (nL := 1) (ret := (some .int)) (by decide +kernel) rfl (Nat.le_of_ble_eq_true rfl) (fun Z C hQ => b_X7_minuteOfLoss C hQ  σ h)
abbrev rmX7_minutesToLight : Room := { frames := 5, cells := 0, slots := 0, locals := 110 }
theorem nkX7_minutesToLight : NmOk yX7_minutesToLight 1 := by decide +kernel
theorem rmOk_X7_minutesToLight__X7_goOn : RmOk rmX7_goOn rmX7_minutesToLight 2 := ⟨rfl, rfl, by decide, by decide⟩
theorem inX7_minutesToLight_X4 : ∀ w ∈ u_ws RX4 TX4 12, w ∈ wsX7_minutesToLight := fun _ h => List.mem_cons_of_mem _ (List.mem_append_left _ (List.mem_append_right _ h))
theorem inX7_minutesToLight_X7 : ∀ w ∈ u_ws RX7 TX7 6, w ∈ wsX7_minutesToLight := fun _ h => List.mem_cons_of_mem _ (List.mem_append_left _ (List.mem_append_left _ (List.mem_append_right _ h)))
def w_X7_minutesToLight (p1 : Int32) (σ : St) (Post : Int32 → St → Prop) : Prop := ∀ x1 : Int32, x1 = (if (p1 - (σ 11 7)) < (0 : Int32) then (0 : Int32) else (p1 - (σ 11 7))) → w_X7_goOn x1 σ (fun σ2 => ((σ2 13 3) = 0 → Post x1 σ2) ∧ (¬ (σ2 13 3) = 0 → Post (-1 : Int32) σ2))
set_option maxHeartbeats 4000000 in
set_option maxRecDepth 100000 in
theorem b_X7_minutesToLight {Y : CY} {Z : CZ} (C : cx SC 3 Y Z cX7_minutesToLight RX7 wsX7_minutesToLight (some .int) rmX7_minutesToLight) {Post : Int32 → St → Prop} (hQ : Qi SC Y Z Post)  (p1 : Int32) (σ : St) (h : w_X7_minutesToLight p1 σ Post) : WW SC 3 Y Z σ 0 [(0, .ref (qa Y 12)), (1, .int p1)] [] := by
  unfold w_X7_minutesToLight at h
  refine q_iload_n C 1 dX7_minutesToLight_0 rfl ?_
  refine q_aload_n C 0 dX7_minutesToLight_1 rfl ?_
  refine q_getr (T := TX7) C kC12 iC12 inX7_minutesToLight_X7 rfl 4 (by decide) (List.mem_of_getElem? (i := 1) rfl) (fun _ h9 => h9) rfl dX7_minutesToLight_2 ?_
  refine q_geti (T := TX4) C kC11 iC11 inX7_minutesToLight_X4 rfl 7 (by decide) (List.mem_of_getElem? (i := 2) rfl) (fun _ h9 => h9) rfl dX7_minutesToLight_5 ?_
  refine q_isub C dX7_minutesToLight_8 ?_
  refine q_iconst (v := (0 : Int32)) C dX7_minutesToLight_9 (by decide) ?_
  refine q_mmax C (List.mem_of_getElem? (i := 3) rfl) (List.mem_of_getElem? (i := 4) rfl) (List.mem_of_getElem? (i := 5) rfl) (List.mem_of_getElem? (i := 6) rfl) (by decide) (Nat.le_of_ble_eq_true rfl) dX7_minutesToLight_10 ?_
  refine q_topi (fun x1 ex1 => ?_)
  replace h := h x1 ex1
  refine q_istore_n C [(2, .int x1), (0, .ref (qa Y 12)), (1, .int p1)] dX7_minutesToLight_13 (by decide) rfl ?_
  refine q_aload_n C 1 dX7_minutesToLight_14 rfl ?_
  refine q_iload_n C 0 dX7_minutesToLight_15 rfl ?_
  refine q_callVv (As := [.int x1]) (st := []) C (c_X7_goOn Y x1 σ _ h) gX7_minutesToLight_X7_goOn rfl ⟨rfl, nkX7_goOn⟩ rmOk_X7_minutesToLight__X7_goOn kC12 iC12 rfl rfl (Nat.le_of_ble_eq_true rfl) dX7_minutesToLight_16 rfl (fun σ2 h => ?_)
  refine q_aload_n C 1 dX7_minutesToLight_19 rfl ?_
  refine q_getr (T := TX7) C kC12 iC12 inX7_minutesToLight_X7 rfl 2 (by decide) (List.mem_of_getElem? (i := 7) rfl) (fun _ h9 => h9) rfl dX7_minutesToLight_20 ?_
  refine q_geti (T := TX4) C kC13 iC13 inX7_minutesToLight_X4 rfl 3 (by decide) (List.mem_of_getElem? (i := 8) rfl) (fun _ h9 => h9) rfl dX7_minutesToLight_23 ?_
  refine q_if_eq C 33 dX7_minutesToLight_26 (by decide) (fun c3 => ?_) (fun c3 => ?_)
  · replace h := h.1 c3
    refine q_iload_n C 0 dX7_minutesToLight_33 rfl ?_
    exact q_iret C hQ dX7_minutesToLight_34 h
  · replace h := h.2 c3
    refine q_iconst (v := (-1 : Int32)) C dX7_minutesToLight_29 (by decide) ?_
    refine q_goto C 34 dX7_minutesToLight_30 (by decide) ?_
    exact q_iret C hQ dX7_minutesToLight_34 h
theorem c_X7_minutesToLight (Y : CY)  (p1 : Int32) (σ : St) (Post : Int32 → St → Prop) (h : w_X7_minutesToLight p1 σ Post) : Ki SC Y yX7_minutesToLight wsX7_minutesToLight rmX7_minutesToLight [.ref (qa Y 12), .int p1] σ Post :=
  Ki_of (cc := cX7_minutesToLight) (nL := 3) (ret := (some .int)) (by decide +kernel) rfl (Nat.le_of_ble_eq_true rfl) (fun Z C hQ => b_X7_minutesToLight C hQ  p1 σ h)
abbrev rmX8_axes : Room := { frames := 2, cells := 0, slots := 0, locals := 43 }
theorem nkX8_axes : NmOk yX8_axes 0 := by decide +kernel
theorem rmOk_X8_axes__X5_isAxisFit : RmOk rmX5_isAxisFit rmX8_axes 3 := ⟨rfl, rfl, by decide, by decide⟩
theorem inX8_axes_X8 : ∀ w ∈ u_ws RX8 TX8 10, w ∈ wsX8_axes := fun _ h => List.mem_cons_of_mem _ (List.mem_append_left _ (List.mem_append_right _ h))
def w_X8_axes_J31 (K5 : Int32 → Int32 → St → Prop) (Post : Int32 → St → Prop) (v1 : Int32) (v2 : Int32) (σ : St) : Prop := ∀ x6 : Int32, x6 = v2 + (1 : Int32) → K5 v1 x6 σ
def w_X8_axes_B5 (Post : Int32 → St → Prop) (K5 : Int32 → Int32 → St → Prop) (v1 : Int32) (v2 : Int32) (σ : St) : Prop := ((9 : Int32) < v2 → Post v1 σ) ∧ (¬ (9 : Int32) < v2 → w_X5_isAxisFit v2 σ (fun x3 σ2 => (x3 = 0 → w_X8_axes_J31 K5 Post v1 v2 σ2) ∧ (¬ x3 = 0 → ∀ x5 : Int32, x5 = (v1 ||| ((1 : Int32) <<< ((v2 + (9 : Int32)) &&& 31))) → w_X8_axes_J31 K5 Post x5 v2 σ2)))
def w_X8_axes_L5 (Post : Int32 → St → Prop) : Nat → Int32 → Int32 → St → Prop
  | 0 => fun _ _ _ => False
  | n + 1 => w_X8_axes_B5   Post (w_X8_axes_L5   Post n)
def w_X8_axes (σ : St) (Post : Int32 → St → Prop) : Prop := w_X8_axes_L5 Post FU (0 : Int32) (-9 : Int32) σ
set_option maxHeartbeats 4000000 in
set_option maxRecDepth 100000 in
theorem b_X8_axes_J31 {Y : CY} {Z : CZ} (C : cx SC 3 Y Z cX8_axes RX8 wsX8_axes (some .int) rmX8_axes) {Post : Int32 → St → Prop} (hQ : Qi SC Y Z Post)  {K5 : Int32 → Int32 → St → Prop} (hK5 : ∀ (v1 : Int32) (v2 : Int32) (σ : St), K5 v1 v2 σ → WW SC 3 Y Z σ 5 [(0, .ref (qa Y 0)), (1, .int v1), (2, .int v2)] []) (v1 : Int32) (v2 : Int32) (σ : St) (h : w_X8_axes_J31 K5 Post v1 v2 σ) : WW SC 3 Y Z σ 31 [(0, .ref (qa Y 0)), (1, .int v1), (2, .int v2)] [] := by
  unfold w_X8_axes_J31 at h
  obtain ⟨x6, ex6⟩ : ∃ y : Int32, y = v2 + (1 : Int32) := ⟨_, rfl⟩
  replace h := h x6 ex6
  refine q_iinc C x6 2 [(2, .int x6), (0, .ref (qa Y 0)), (1, .int v1)] dX8_axes_31 rfl (by rw [ex6]; rfl) (by decide) rfl ?_
  refine q_goto C 5 dX8_axes_34 (by decide) ?_
  refine q_sub (lv' := [(0, .ref (qa Y 0)), (1, .int v1), (2, .int x6)]) [1, 2, 0] rfl ?_
  exact hK5 v1 x6 σ h
set_option maxHeartbeats 4000000 in
set_option maxRecDepth 100000 in
theorem b_X8_axes_B5 {Y : CY} {Z : CZ} (C : cx SC 3 Y Z cX8_axes RX8 wsX8_axes (some .int) rmX8_axes) {Post : Int32 → St → Prop} (hQ : Qi SC Y Z Post)  {K5 : Int32 → Int32 → St → Prop} (hK5 : ∀ (v1 : Int32) (v2 : Int32) (σ : St), K5 v1 v2 σ → WW SC 3 Y Z σ 5 [(0, .ref (qa Y 0)), (1, .int v1), (2, .int v2)] []) (v1 : Int32) (v2 : Int32) (σ : St) (h : w_X8_axes_B5  Post K5 v1 v2 σ) : WW SC 3 Y Z σ 5 [(0, .ref (qa Y 0)), (1, .int v1), (2, .int v2)] [] := by
  unfold w_X8_axes_B5 at h
  refine q_iload_n C 2 dX8_axes_5 rfl ?_
  refine q_bipush (v := (9 : Int32)) C dX8_axes_6 (by decide) ?_
  refine q_icmp_gt C 37 dX8_axes_8 (by decide) (fun c1 => ?_) (fun c1 => ?_)
  · replace h := h.1 c1
    refine q_iload_n C 1 dX8_axes_37 rfl ?_
    exact q_iret C hQ dX8_axes_38 h
  · replace h := h.2 c1
    refine q_aload_n C 0 dX8_axes_11 rfl ?_
    refine q_getr (T := TX8) C kC0 iC0 inX8_axes_X8 rfl 6 (by decide) (List.mem_of_getElem? (i := 1) rfl) (fun _ h9 => h9) rfl dX8_axes_12 ?_
    refine q_iload_n C 2 dX8_axes_15 rfl ?_
    refine q_callVi (As := [.int v2]) (st := []) C (c_X5_isAxisFit Y v2 σ _ h) gX8_axes_X5_isAxisFit rfl ⟨rfl, nkX5_isAxisFit⟩ rmOk_X8_axes__X5_isAxisFit kC36 iC36 rfl rfl (Nat.le_of_ble_eq_true rfl) dX8_axes_16 rfl (fun x3 σ2 h => ?_)
    refine q_if_eq C 31 dX8_axes_19 (by decide) (fun c4 => ?_) (fun c4 => ?_)
    · replace h := h.1 c4
      exact b_X8_axes_J31 C hQ hK5 v1 v2 σ2 h
    · replace h := h.2 c4
      refine q_iload_n C 1 dX8_axes_22 rfl ?_
      refine q_iconst (v := (1 : Int32)) C dX8_axes_23 (by decide) ?_
      refine q_iload_n C 2 dX8_axes_24 rfl ?_
      refine q_bipush (v := (9 : Int32)) C dX8_axes_25 (by decide) ?_
      refine q_iadd C dX8_axes_27 ?_
      refine q_ishl C dX8_axes_28 ?_
      refine q_ior C dX8_axes_29 ?_
      refine q_topi (fun x5 ex5 => ?_)
      replace h := h x5 ex5
      refine q_istore_n C [(1, .int x5), (0, .ref (qa Y 0)), (2, .int v2)] dX8_axes_30 (by decide) rfl ?_
      refine q_sub (lv' := [(0, .ref (qa Y 0)), (1, .int x5), (2, .int v2)]) [1, 0, 2] rfl ?_
      exact b_X8_axes_J31 C hQ hK5 x5 v2 σ2 h
theorem b_X8_axes_L5 {Y : CY} {Z : CZ} (C : cx SC 3 Y Z cX8_axes RX8 wsX8_axes (some .int) rmX8_axes) {Post : Int32 → St → Prop} (hQ : Qi SC Y Z Post)  : ∀ (n : Nat) (v1 : Int32) (v2 : Int32) (σ : St) (h : w_X8_axes_L5  Post n v1 v2 σ), WW SC 3 Y Z σ 5 [(0, .ref (qa Y 0)), (1, .int v1), (2, .int v2)] [] := by
  intro n
  induction n with
  | zero => intro v1 v2 σ h; exact h.elim
  | succ n ih => intro v1 v2 σ h; exact b_X8_axes_B5 C hQ  ih v1 v2 σ h
set_option maxHeartbeats 4000000 in
set_option maxRecDepth 100000 in
theorem b_X8_axes {Y : CY} {Z : CZ} (C : cx SC 3 Y Z cX8_axes RX8 wsX8_axes (some .int) rmX8_axes) {Post : Int32 → St → Prop} (hQ : Qi SC Y Z Post)  (σ : St) (h : w_X8_axes  σ Post) : WW SC 3 Y Z σ 0 [(0, .ref (qa Y 0))] [] := by
  unfold w_X8_axes at h
  refine q_iconst (v := (0 : Int32)) C dX8_axes_0 (by decide) ?_
  refine q_istore_n C [(1, .int (0 : Int32)), (0, .ref (qa Y 0))] dX8_axes_1 (by decide) rfl ?_
  refine q_bipush (v := (-9 : Int32)) C dX8_axes_2 (by decide) ?_
  refine q_istore_n C [(2, .int (-9 : Int32)), (1, .int (0 : Int32)), (0, .ref (qa Y 0))] dX8_axes_4 (by decide) rfl ?_
  refine q_sub (lv' := [(0, .ref (qa Y 0)), (1, .int (0 : Int32)), (2, .int (-9 : Int32))]) [2, 1, 0] rfl ?_
  exact b_X8_axes_L5 C hQ FU (0 : Int32) (-9 : Int32) σ h
theorem c_X8_axes (Y : CY)  (σ : St) (Post : Int32 → St → Prop) (h : w_X8_axes  σ Post) : Ki SC Y yX8_axes wsX8_axes rmX8_axes [.ref (qa Y 0)] σ Post :=
  Ki_of (cc := cX8_axes) (nL := 3) (ret := (some .int)) (by decide +kernel) rfl (Nat.le_of_ble_eq_true rfl) (fun Z C hQ => b_X8_axes C hQ  σ h)
abbrev rmX8_bestRule : Room := { frames := 6, cells := 0, slots := 0, locals := 141 }
theorem nkX8_bestRule : NmOk yX8_bestRule 2 := by decide +kernel
theorem rmOk_X8_bestRule__X7_findBestRule : RmOk rmX7_findBestRule rmX8_bestRule 6 := ⟨rfl, rfl, by decide, by decide⟩
theorem rmOk_X8_bestRule__X8_isWithin : RmOk rmX8_isWithin rmX8_bestRule 3 := ⟨rfl, rfl, by decide, by decide⟩
theorem inX8_bestRule_X3 : ∀ w ∈ u_ws RX3 TX3 12, w ∈ wsX8_bestRule := fun _ h => List.mem_cons_of_mem _ (List.mem_append_left _ (List.mem_append_left _ (List.mem_append_right _ h)))
theorem inX8_bestRule_X7 : ∀ w ∈ u_ws RX7 TX7 6, w ∈ wsX8_bestRule := fun _ h => List.mem_cons_of_mem _ (List.mem_append_left _ (List.mem_append_right _ h))
theorem inX8_bestRule_X8 : ∀ w ∈ u_ws RX8 TX8 10, w ∈ wsX8_bestRule := fun _ h => List.mem_cons_of_mem _ (List.mem_append_left _ (List.mem_append_left _ (List.mem_append_left _ (List.mem_append_right _ h))))
def w_X8_bestRule (p1 : Int32) (p2 : Int32) (σ : St) (Post : Int32 → St → Prop) : Prop := w_X8_isWithin p1 (1 : Int32) (200 : Int32) σ (fun x2 σ1 => (x2 = 0 → Post (-1000000002 : Int32) σ1) ∧ (¬ x2 = 0 → w_X8_isWithin p2 (0 : Int32) (1 : Int32) σ1 (fun x5 σ4 => (¬ x5 = 0 → (¬ (σ4 3 0) = 0 → w_X7_findBestRule p1 σ4 (fun σ8 => (¬ p2 = 0 → Post ((σ8 12 1)) σ8) ∧ (p2 = 0 → Post ((σ8 12 0)) σ8))) ∧ ((σ4 3 0) = 0 → Post (-1000000003 : Int32) σ4)) ∧ (x5 = 0 → Post (-1000000002 : Int32) σ4))))
set_option maxHeartbeats 4000000 in
set_option maxRecDepth 100000 in
theorem b_X8_bestRule {Y : CY} {Z : CZ} (C : cx SC 3 Y Z cX8_bestRule RX8 wsX8_bestRule (some .int) rmX8_bestRule) {Post : Int32 → St → Prop} (hQ : Qi SC Y Z Post)  (p1 : Int32) (p2 : Int32) (σ : St) (h : w_X8_bestRule p1 p2 σ Post) : WW SC 3 Y Z σ 0 [(0, .ref (qa Y 0)), (1, .int p1), (2, .int p2)] [] := by
  unfold w_X8_bestRule at h
  refine q_iload_n C 1 dX8_bestRule_0 rfl ?_
  refine q_iconst (v := (1 : Int32)) C dX8_bestRule_1 (by decide) ?_
  refine q_sipush (v := (200 : Int32)) C dX8_bestRule_2 (by decide) ?_
  refine q_callSi (As := [.int p1, .int (1 : Int32), .int (200 : Int32)]) (st := []) C (c_X8_isWithin Y p1 (1 : Int32) (200 : Int32) σ _ h) gX8_bestRule_X8_isWithin rfl nkX8_isWithin rmOk_X8_bestRule__X8_isWithin rfl (Nat.le_of_ble_eq_true rfl) dX8_bestRule_5 rfl (fun x2 σ1 h => ?_)
  refine q_if_eq C 20 dX8_bestRule_8 (by decide) (fun c3 => ?_) (fun c3 => ?_)
  · replace h := h.1 c3
    refine q_ldc (v := (-1000000002 : Int32)) C (List.mem_of_getElem? (i := 1) rfl) dX8_bestRule_20 ?_
    exact q_iret C hQ dX8_bestRule_22 h
  · replace h := h.2 c3
    refine q_iload_n C 2 dX8_bestRule_11 rfl ?_
    refine q_iconst (v := (0 : Int32)) C dX8_bestRule_12 (by decide) ?_
    refine q_iconst (v := (1 : Int32)) C dX8_bestRule_13 (by decide) ?_
    refine q_callSi (As := [.int p2, .int (0 : Int32), .int (1 : Int32)]) (st := []) C (c_X8_isWithin Y p2 (0 : Int32) (1 : Int32) σ1 _ h) gX8_bestRule_X8_isWithin rfl nkX8_isWithin rmOk_X8_bestRule__X8_isWithin rfl (Nat.le_of_ble_eq_true rfl) dX8_bestRule_14 rfl (fun x5 σ4 h => ?_)
    refine q_if_ne C 23 dX8_bestRule_17 (by decide) (fun c6 => ?_) (fun c6 => ?_)
    · replace h := h.1 c6
      refine q_aload_n C 0 dX8_bestRule_23 rfl ?_
      refine q_getr (T := TX8) C kC0 iC0 inX8_bestRule_X8 rfl 1 (by decide) (List.mem_of_getElem? (i := 2) rfl) (fun _ h9 => h9) rfl dX8_bestRule_24 ?_
      refine q_geti (T := TX3) C kC3 iC3 inX8_bestRule_X3 rfl 0 (by decide) (List.mem_of_getElem? (i := 3) rfl) (fun _ h9 => h9) rfl dX8_bestRule_27 ?_
      refine q_if_ne C 36 dX8_bestRule_30 (by decide) (fun c7 => ?_) (fun c7 => ?_)
      · replace h := h.1 c7
        refine q_aload_n C 0 dX8_bestRule_36 rfl ?_
        refine q_getr (T := TX8) C kC0 iC0 inX8_bestRule_X8 rfl 4 (by decide) (List.mem_of_getElem? (i := 5) rfl) (fun _ h9 => h9) rfl dX8_bestRule_37 ?_
        refine q_iload_n C 1 dX8_bestRule_40 rfl ?_
        refine q_callVv (As := [.int p1]) (st := []) C (c_X7_findBestRule Y p1 σ4 _ h) gX8_bestRule_X7_findBestRule rfl ⟨rfl, nkX7_findBestRule⟩ rmOk_X8_bestRule__X7_findBestRule kC12 iC12 rfl rfl (Nat.le_of_ble_eq_true rfl) dX8_bestRule_41 rfl (fun σ8 h => ?_)
        refine q_iload_n C 2 dX8_bestRule_44 rfl ?_
        refine q_if_ne C 58 dX8_bestRule_45 (by decide) (fun c9 => ?_) (fun c9 => ?_)
        · replace h := h.1 c9
          refine q_aload_n C 0 dX8_bestRule_58 rfl ?_
          refine q_getr (T := TX8) C kC0 iC0 inX8_bestRule_X8 rfl 4 (by decide) (List.mem_of_getElem? (i := 5) rfl) (fun _ h9 => h9) rfl dX8_bestRule_59 ?_
          refine q_geti (T := TX7) C kC12 iC12 inX8_bestRule_X7 rfl 1 (by decide) (List.mem_of_getElem? (i := 7) rfl) (fun _ h9 => h9) rfl dX8_bestRule_62 ?_
          exact q_iret C hQ dX8_bestRule_65 h
        · replace h := h.2 c9
          refine q_aload_n C 0 dX8_bestRule_48 rfl ?_
          refine q_getr (T := TX8) C kC0 iC0 inX8_bestRule_X8 rfl 4 (by decide) (List.mem_of_getElem? (i := 5) rfl) (fun _ h9 => h9) rfl dX8_bestRule_49 ?_
          refine q_geti (T := TX7) C kC12 iC12 inX8_bestRule_X7 rfl 0 (by decide) (List.mem_of_getElem? (i := 6) rfl) (fun _ h9 => h9) rfl dX8_bestRule_52 ?_
          refine q_goto C 65 dX8_bestRule_55 (by decide) ?_
          exact q_iret C hQ dX8_bestRule_65 h
      · replace h := h.2 c7
        refine q_ldc (v := (-1000000003 : Int32)) C (List.mem_of_getElem? (i := 4) rfl) dX8_bestRule_33 ?_
        exact q_iret C hQ dX8_bestRule_35 h
    · replace h := h.2 c6
      refine q_ldc (v := (-1000000002 : Int32)) C (List.mem_of_getElem? (i := 1) rfl) dX8_bestRule_20 ?_
      exact q_iret C hQ dX8_bestRule_22 h
theorem c_X8_bestRule (Y : CY)  (p1 : Int32) (p2 : Int32) (σ : St) (Post : Int32 → St → Prop) (h : w_X8_bestRule p1 p2 σ Post) : Ki SC Y yX8_bestRule wsX8_bestRule rmX8_bestRule [.ref (qa Y 0), .int p1, .int p2] σ Post :=
  Ki_of (cc := cX8_bestRule) (nL := 3) (ret := (some .int)) (by decide +kernel) rfl (Nat.le_of_ble_eq_true rfl) (fun Z C hQ => b_X8_bestRule C hQ  p1 p2 σ h)
abbrev rmX8_cannotGoOn : Room := { frames := 0, cells := 0, slots := 0, locals := 0 }
theorem nkX8_cannotGoOn : NmOk yX8_cannotGoOn 0 := by decide +kernel
theorem inX8_cannotGoOn_X3 : ∀ w ∈ u_ws RX3 TX3 12, w ∈ wsX8_cannotGoOn := fun _ h => List.mem_cons_of_mem _ (List.mem_append_left _ (List.mem_append_right _ h))
theorem inX8_cannotGoOn_X4 : ∀ w ∈ u_ws RX4 TX4 12, w ∈ wsX8_cannotGoOn := fun _ h => List.mem_cons_of_mem _ (List.mem_append_right _ h)
theorem inX8_cannotGoOn_X8 : ∀ w ∈ u_ws RX8 TX8 10, w ∈ wsX8_cannotGoOn := fun _ h => List.mem_cons_of_mem _ (List.mem_append_left _ (List.mem_append_left _ (List.mem_append_right _ h)))
def w_X8_cannotGoOn (σ : St) (Post : Int32 → St → Prop) : Prop := ((σ 3 0) = 0 → Post (1 : Int32) σ) ∧ (¬ (σ 3 0) = 0 → ((σ 11 3) = 0 → Post (0 : Int32) σ) ∧ (¬ (σ 11 3) = 0 → Post (1 : Int32) σ))
set_option maxHeartbeats 4000000 in
set_option maxRecDepth 100000 in
theorem b_X8_cannotGoOn {Y : CY} {Z : CZ} (C : cx SC 1 Y Z cX8_cannotGoOn RX8 wsX8_cannotGoOn (some .boolean) rmX8_cannotGoOn) {Post : Int32 → St → Prop} (hQ : Qi SC Y Z Post)  (σ : St) (h : w_X8_cannotGoOn  σ Post) : WW SC 1 Y Z σ 0 [(0, .ref (qa Y 0))] [] := by
  unfold w_X8_cannotGoOn at h
  refine q_aload_n C 0 dX8_cannotGoOn_0 rfl ?_
  refine q_getr (T := TX8) C kC0 iC0 inX8_cannotGoOn_X8 rfl 1 (by decide) (List.mem_of_getElem? (i := 1) rfl) (fun _ h9 => h9) rfl dX8_cannotGoOn_1 ?_
  refine q_geti (T := TX3) C kC3 iC3 inX8_cannotGoOn_X3 rfl 0 (by decide) (List.mem_of_getElem? (i := 2) rfl) (fun _ h9 => h9) rfl dX8_cannotGoOn_4 ?_
  refine q_if_eq C 20 dX8_cannotGoOn_7 (by decide) (fun c1 => ?_) (fun c1 => ?_)
  · replace h := h.1 c1
    refine q_iconst (v := (1 : Int32)) C dX8_cannotGoOn_20 (by decide) ?_
    refine q_goto C 25 dX8_cannotGoOn_21 (by decide) ?_
    exact q_zret C hQ (zb_n (by decide)) dX8_cannotGoOn_25 h
  · replace h := h.2 c1
    refine q_aload_n C 0 dX8_cannotGoOn_10 rfl ?_
    refine q_getr (T := TX8) C kC0 iC0 inX8_cannotGoOn_X8 rfl 3 (by decide) (List.mem_of_getElem? (i := 3) rfl) (fun _ h9 => h9) rfl dX8_cannotGoOn_11 ?_
    refine q_geti (T := TX4) C kC11 iC11 inX8_cannotGoOn_X4 rfl 3 (by decide) (List.mem_of_getElem? (i := 4) rfl) (fun _ h9 => h9) rfl dX8_cannotGoOn_14 ?_
    refine q_if_eq C 24 dX8_cannotGoOn_17 (by decide) (fun c2 => ?_) (fun c2 => ?_)
    · replace h := h.1 c2
      refine q_iconst (v := (0 : Int32)) C dX8_cannotGoOn_24 (by decide) ?_
      exact q_zret C hQ (zb_n (by decide)) dX8_cannotGoOn_25 h
    · replace h := h.2 c2
      refine q_iconst (v := (1 : Int32)) C dX8_cannotGoOn_20 (by decide) ?_
      refine q_goto C 25 dX8_cannotGoOn_21 (by decide) ?_
      exact q_zret C hQ (zb_n (by decide)) dX8_cannotGoOn_25 h
theorem c_X8_cannotGoOn (Y : CY)  (σ : St) (Post : Int32 → St → Prop) (h : w_X8_cannotGoOn  σ Post) : Ki SC Y yX8_cannotGoOn wsX8_cannotGoOn rmX8_cannotGoOn [.ref (qa Y 0)] σ Post :=
  Ki_of (cc := cX8_cannotGoOn) (nL := 1) (ret := (some .boolean)) (by decide +kernel) rfl (Nat.le_of_ble_eq_true rfl) (fun Z C hQ => b_X8_cannotGoOn C hQ  σ h)
abbrev rmX8_refusalOfMinutes : Room := { frames := 1, cells := 0, slots := 0, locals := 22 }
theorem nkX8_refusalOfMinutes : NmOk yX8_refusalOfMinutes 1 := by decide +kernel
theorem rmOk_X8_refusalOfMinutes__X8_cannotGoOn : RmOk rmX8_cannotGoOn rmX8_refusalOfMinutes 1 := ⟨rfl, rfl, by decide, by decide⟩
theorem rmOk_X8_refusalOfMinutes__X8_isWithin : RmOk rmX8_isWithin rmX8_refusalOfMinutes 3 := ⟨rfl, rfl, by decide, by decide⟩
theorem inX8_refusalOfMinutes_X4 : ∀ w ∈ u_ws RX4 TX4 12, w ∈ wsX8_refusalOfMinutes := fun _ h => List.mem_cons_of_mem _ (List.mem_append_left _ (List.mem_append_right _ h))
theorem inX8_refusalOfMinutes_X8 : ∀ w ∈ u_ws RX8 TX8 10, w ∈ wsX8_refusalOfMinutes := fun _ h => List.mem_cons_of_mem _ (List.mem_append_left _ (List.mem_append_left _ (List.mem_append_right _ h)))
def w_X8_refusalOfMinutes (p1 : Int32) (σ : St) (Post : Int32 → St → Prop) : Prop := w_X8_isWithin p1 (1 : Int32) (99 : Int32) σ (fun x2 σ1 => (¬ x2 = 0 → w_X8_cannotGoOn σ1 (fun x5 σ4 => (x5 = 0 → ((σ4 11 0) ≤ (9000 : Int32) → Post (0 : Int32) σ4) ∧ (¬ (σ4 11 0) ≤ (9000 : Int32) → Post (-1000000004 : Int32) σ4)) ∧ (¬ x5 = 0 → Post (-1000000003 : Int32) σ4))) ∧ (x2 = 0 → Post (-1000000002 : Int32) σ1))
set_option maxHeartbeats 4000000 in
set_option maxRecDepth 100000 in
theorem b_X8_refusalOfMinutes {Y : CY} {Z : CZ} (C : cx SC 2 Y Z cX8_refusalOfMinutes RX8 wsX8_refusalOfMinutes (some .int) rmX8_refusalOfMinutes) {Post : Int32 → St → Prop} (hQ : Qi SC Y Z Post)  (p1 : Int32) (σ : St) (h : w_X8_refusalOfMinutes p1 σ Post) : WW SC 2 Y Z σ 0 [(0, .ref (qa Y 0)), (1, .int p1)] [] := by
  unfold w_X8_refusalOfMinutes at h
  refine q_iload_n C 1 dX8_refusalOfMinutes_0 rfl ?_
  refine q_iconst (v := (1 : Int32)) C dX8_refusalOfMinutes_1 (by decide) ?_
  refine q_bipush (v := (99 : Int32)) C dX8_refusalOfMinutes_2 (by decide) ?_
  refine q_callSi (As := [.int p1, .int (1 : Int32), .int (99 : Int32)]) (st := []) C (c_X8_isWithin Y p1 (1 : Int32) (99 : Int32) σ _ h) gX8_refusalOfMinutes_X8_isWithin rfl nkX8_isWithin rmOk_X8_refusalOfMinutes__X8_isWithin rfl (Nat.le_of_ble_eq_true rfl) dX8_refusalOfMinutes_4 rfl (fun x2 σ1 h => ?_)
  refine q_if_ne C 13 dX8_refusalOfMinutes_7 (by decide) (fun c3 => ?_) (fun c3 => ?_)
  · replace h := h.1 c3
    refine q_aload_n C 0 dX8_refusalOfMinutes_13 rfl ?_
    refine q_callVi (As := []) (st := []) C (c_X8_cannotGoOn Y σ1 _ h) gX8_refusalOfMinutes_X8_cannotGoOn rfl ⟨rfl, nkX8_cannotGoOn⟩ rmOk_X8_refusalOfMinutes__X8_cannotGoOn kC0 iC0 rfl rfl (Nat.le_of_ble_eq_true rfl) dX8_refusalOfMinutes_14 rfl (fun x5 σ4 h => ?_)
    refine q_if_eq C 23 dX8_refusalOfMinutes_17 (by decide) (fun c6 => ?_) (fun c6 => ?_)
    · replace h := h.1 c6
      refine q_aload_n C 0 dX8_refusalOfMinutes_23 rfl ?_
      refine q_getr (T := TX8) C kC0 iC0 inX8_refusalOfMinutes_X8 rfl 3 (by decide) (List.mem_of_getElem? (i := 3) rfl) (fun _ h9 => h9) rfl dX8_refusalOfMinutes_24 ?_
      refine q_geti (T := TX4) C kC11 iC11 inX8_refusalOfMinutes_X4 rfl 0 (by decide) (List.mem_of_getElem? (i := 4) rfl) (fun _ h9 => h9) rfl dX8_refusalOfMinutes_27 ?_
      refine q_sipush (v := (9000 : Int32)) C dX8_refusalOfMinutes_30 (by decide) ?_
      refine q_icmp_le C 41 dX8_refusalOfMinutes_33 (by decide) (fun c7 => ?_) (fun c7 => ?_)
      · replace h := h.1 c7
        refine q_iconst (v := (0 : Int32)) C dX8_refusalOfMinutes_41 (by decide) ?_
        exact q_iret C hQ dX8_refusalOfMinutes_42 h
      · replace h := h.2 c7
        refine q_ldc (v := (-1000000004 : Int32)) C (List.mem_of_getElem? (i := 5) rfl) dX8_refusalOfMinutes_36 ?_
        refine q_goto C 42 dX8_refusalOfMinutes_38 (by decide) ?_
        exact q_iret C hQ dX8_refusalOfMinutes_42 h
    · replace h := h.2 c6
      refine q_ldc (v := (-1000000003 : Int32)) C (List.mem_of_getElem? (i := 2) rfl) dX8_refusalOfMinutes_20 ?_
      exact q_iret C hQ dX8_refusalOfMinutes_22 h
  · replace h := h.2 c3
    refine q_ldc (v := (-1000000002 : Int32)) C (List.mem_of_getElem? (i := 1) rfl) dX8_refusalOfMinutes_10 ?_
    exact q_iret C hQ dX8_refusalOfMinutes_12 h
theorem c_X8_refusalOfMinutes (Y : CY)  (p1 : Int32) (σ : St) (Post : Int32 → St → Prop) (h : w_X8_refusalOfMinutes p1 σ Post) : Ki SC Y yX8_refusalOfMinutes wsX8_refusalOfMinutes rmX8_refusalOfMinutes [.ref (qa Y 0), .int p1] σ Post :=
  Ki_of (cc := cX8_refusalOfMinutes) (nL := 2) (ret := (some .int)) (by decide +kernel) rfl (Nat.le_of_ble_eq_true rfl) (fun Z C hQ => b_X8_refusalOfMinutes C hQ  p1 σ h)
abbrev rmX8_drift : Room := { frames := 3, cells := 0, slots := 0, locals := 66 }
theorem nkX8_drift : NmOk yX8_drift 1 := by decide +kernel
theorem rmOk_X8_drift__X0_drawOf : RmOk rmX0_drawOf rmX8_drift 2 := ⟨rfl, rfl, by decide, by decide⟩
theorem rmOk_X8_drift__X1_push : RmOk rmX1_push rmX8_drift 3 := ⟨rfl, rfl, by decide, by decide⟩
theorem rmOk_X8_drift__X4_passOne : RmOk rmX4_passOne rmX8_drift 2 := ⟨rfl, rfl, by decide, by decide⟩
theorem rmOk_X8_drift__X8_refusalOfMinutes : RmOk rmX8_refusalOfMinutes rmX8_drift 2 := ⟨rfl, rfl, by decide, by decide⟩
theorem inX8_drift_X4 : ∀ w ∈ u_ws RX4 TX4 12, w ∈ wsX8_drift := fun _ h => List.mem_cons_of_mem _ (List.mem_append_left _ (List.mem_append_left _ (List.mem_append_left _ (List.mem_append_right _ h))))
theorem inX8_drift_X8 : ∀ w ∈ u_ws RX8 TX8 10, w ∈ wsX8_drift := fun _ h => List.mem_cons_of_mem _ (List.mem_append_left _ (List.mem_append_left _ (List.mem_append_left _ (List.mem_append_left _ (List.mem_append_right _ h)))))
def w_X8_drift_J101 (Post : Int32 → St → Prop) (σ : St) : Prop := Post (((σ 11 1) + (10000 : Int32))) σ
def w_X8_drift_B25 (Post : Int32 → St → Prop) (K25 : Int32 → Int32 → St → Prop) (v1 : Int32) (v3 : Int32) (σ : St) : Prop := (v1 ≤ v3 → w_X8_drift_J101 Post σ) ∧ (¬ v1 ≤ v3 → (¬ (σ 11 3) = 0 → w_X8_drift_J101 Post σ) ∧ ((σ 11 3) = 0 → w_X0_drawOf (5 : Int32) σ (fun x8 σ7 => ∀ σ9 : St, σ9 = up σ7 11 1 (((σ 11 1) + (x8 - (2 : Int32)))) → w_X0_drawOf (5 : Int32) σ9 (fun x11 σ10 => ∀ σ12 : St, σ12 = up σ10 11 2 (((σ9 11 2) + (x11 - (2 : Int32)))) → w_X4_passOne 11 σ12 (fun σ13 => ∀ x14 : Int32, x14 = v3 + (1 : Int32) → K25 v1 x14 σ13)))))
def w_X8_drift_L25 (Post : Int32 → St → Prop) : Nat → Int32 → Int32 → St → Prop
  | 0 => fun _ _ _ => False
  | n + 1 => w_X8_drift_B25   Post (w_X8_drift_L25   Post n)
def w_X8_drift (p1 : Int32) (σ : St) (Post : Int32 → St → Prop) : Prop := w_X8_refusalOfMinutes p1 σ (fun x2 σ1 => (x2 = 0 → w_X1_push σ1 (fun σ4 => w_X8_drift_L25 Post FU p1 (0 : Int32) σ4)) ∧ (¬ x2 = 0 → Post x2 σ1))
set_option maxHeartbeats 4000000 in
set_option maxRecDepth 100000 in
theorem b_X8_drift_J101 {Y : CY} {Z : CZ} (C : cx SC 4 Y Z cX8_drift RX8 wsX8_drift (some .int) rmX8_drift) {Post : Int32 → St → Prop} (hQ : Qi SC Y Z Post)  (σ : St) (h : w_X8_drift_J101  Post σ) : WW SC 4 Y Z σ 101 [(0, .ref (qa Y 0))] [] := by
  unfold w_X8_drift_J101 at h
  refine q_aload_n C 0 dX8_drift_101 rfl ?_
  refine q_getr (T := TX8) C kC0 iC0 inX8_drift_X8 rfl 3 (by decide) (List.mem_of_getElem? (i := 2) rfl) (fun _ h9 => h9) rfl dX8_drift_102 ?_
  refine q_geti (T := TX4) C kC11 iC11 inX8_drift_X4 rfl 1 (by decide) (List.mem_of_getElem? (i := 4) rfl) (fun _ h9 => h9) rfl dX8_drift_105 ?_
  refine q_sipush (v := (10000 : Int32)) C dX8_drift_108 (by decide) ?_
  refine q_iadd C dX8_drift_111 ?_
  exact q_iret C hQ dX8_drift_112 h
set_option maxHeartbeats 4000000 in
set_option maxRecDepth 100000 in
theorem b_X8_drift_B25 {Y : CY} {Z : CZ} (C : cx SC 4 Y Z cX8_drift RX8 wsX8_drift (some .int) rmX8_drift) {Post : Int32 → St → Prop} (hQ : Qi SC Y Z Post)  {K25 : Int32 → Int32 → St → Prop} (hK25 : ∀ (v1 : Int32) (v3 : Int32) (σ : St), K25 v1 v3 σ → WW SC 4 Y Z σ 25 [(0, .ref (qa Y 0)), (1, .int v1), (3, .int v3)] []) (v1 : Int32) (v3 : Int32) (σ : St) (h : w_X8_drift_B25  Post K25 v1 v3 σ) : WW SC 4 Y Z σ 25 [(0, .ref (qa Y 0)), (1, .int v1), (3, .int v3)] [] := by
  unfold w_X8_drift_B25 at h
  refine q_iload_n C 2 dX8_drift_25 rfl ?_
  refine q_iload_n C 1 dX8_drift_26 rfl ?_
  refine q_icmp_ge C 101 dX8_drift_27 (by decide) (fun c5 => ?_) (fun c5 => ?_)
  · replace h := h.1 c5
    refine q_sub (lv' := [(0, .ref (qa Y 0))]) [0] rfl ?_
    exact b_X8_drift_J101 C hQ σ h
  · replace h := h.2 c5
    refine q_aload_n C 0 dX8_drift_30 rfl ?_
    refine q_getr (T := TX8) C kC0 iC0 inX8_drift_X8 rfl 3 (by decide) (List.mem_of_getElem? (i := 2) rfl) (fun _ h9 => h9) rfl dX8_drift_31 ?_
    refine q_geti (T := TX4) C kC11 iC11 inX8_drift_X4 rfl 3 (by decide) (List.mem_of_getElem? (i := 3) rfl) (fun _ h9 => h9) rfl dX8_drift_34 ?_
    refine q_if_ne C 101 dX8_drift_37 (by decide) (fun c6 => ?_) (fun c6 => ?_)
    · replace h := h.1 c6
      refine q_sub (lv' := [(0, .ref (qa Y 0))]) [0] rfl ?_
      exact b_X8_drift_J101 C hQ σ h
    · replace h := h.2 c6
      refine q_aload_n C 0 dX8_drift_40 rfl ?_
      refine q_getr (T := TX8) C kC0 iC0 inX8_drift_X8 rfl 3 (by decide) (List.mem_of_getElem? (i := 2) rfl) (fun _ h9 => h9) rfl dX8_drift_41 ?_
      refine q_dup C dX8_drift_44 rfl ?_
      refine q_geti (T := TX4) C kC11 iC11 inX8_drift_X4 rfl 1 (by decide) (List.mem_of_getElem? (i := 4) rfl) (fun _ h9 => h9) rfl dX8_drift_45 ?_
      refine q_aload_n C 0 dX8_drift_48 rfl ?_
      refine q_getr (T := TX8) C kC0 iC0 inX8_drift_X8 rfl 7 (by decide) (List.mem_of_getElem? (i := 5) rfl) (fun _ h9 => h9) rfl dX8_drift_49 ?_
      refine q_iconst (v := (5 : Int32)) C dX8_drift_52 (by decide) ?_
      refine q_callVi (As := [.int (5 : Int32)]) (st := [.int (σ 11 1), .ref (qa Y 11)]) C (c_X0_drawOf Y (5 : Int32) σ _ h) gX8_drift_X0_drawOf rfl ⟨rfl, nkX0_drawOf⟩ rmOk_X8_drift__X0_drawOf kC43 iC43 rfl rfl (Nat.le_of_ble_eq_true rfl) dX8_drift_53 rfl (fun x8 σ7 h => ?_)
      refine q_iconst (v := (2 : Int32)) C dX8_drift_56 (by decide) ?_
      refine q_isub C dX8_drift_57 ?_
      refine q_iadd C dX8_drift_58 ?_
      refine q_puti (T := TX4) C kC11 iC11 inX8_drift_X4 rfl tyX4 tyX4_ok nmX4 1 (by decide) (List.mem_of_getElem? (i := 4) rfl) (fun _ h9 => h9) rfl dgN rfl (ni_n _) (ni_f _) dX8_drift_59 ?_
      refine q_nmS (fun σ9 eσ9 => ?_)
      replace h := h σ9 eσ9
      refine q_aload_n C 0 dX8_drift_62 rfl ?_
      refine q_getr (T := TX8) C kC0 iC0 inX8_drift_X8 rfl 3 (by decide) (List.mem_of_getElem? (i := 2) rfl) (fun _ h9 => h9) rfl dX8_drift_63 ?_
      refine q_dup C dX8_drift_66 rfl ?_
      refine q_geti (T := TX4) C kC11 iC11 inX8_drift_X4 rfl 2 (by decide) (List.mem_of_getElem? (i := 6) rfl) (fun _ h9 => h9) rfl dX8_drift_67 ?_
      refine q_aload_n C 0 dX8_drift_70 rfl ?_
      refine q_getr (T := TX8) C kC0 iC0 inX8_drift_X8 rfl 7 (by decide) (List.mem_of_getElem? (i := 5) rfl) (fun _ h9 => h9) rfl dX8_drift_71 ?_
      refine q_iconst (v := (5 : Int32)) C dX8_drift_74 (by decide) ?_
      refine q_callVi (As := [.int (5 : Int32)]) (st := [.int (σ9 11 2), .ref (qa Y 11)]) C (c_X0_drawOf Y (5 : Int32) σ9 _ h) gX8_drift_X0_drawOf rfl ⟨rfl, nkX0_drawOf⟩ rmOk_X8_drift__X0_drawOf kC43 iC43 rfl rfl (Nat.le_of_ble_eq_true rfl) dX8_drift_75 rfl (fun x11 σ10 h => ?_)
      refine q_iconst (v := (2 : Int32)) C dX8_drift_78 (by decide) ?_
      refine q_isub C dX8_drift_79 ?_
      refine q_iadd C dX8_drift_80 ?_
      refine q_puti (T := TX4) C kC11 iC11 inX8_drift_X4 rfl tyX4 tyX4_ok nmX4 2 (by decide) (List.mem_of_getElem? (i := 6) rfl) (fun _ h9 => h9) rfl dgN rfl (ni_n _) (ni_f _) dX8_drift_81 ?_
      refine q_nmS (fun σ12 eσ12 => ?_)
      replace h := h σ12 eσ12
      refine q_aload_n C 0 dX8_drift_84 rfl ?_
      refine q_getr (T := TX8) C kC0 iC0 inX8_drift_X8 rfl 3 (by decide) (List.mem_of_getElem? (i := 2) rfl) (fun _ h9 => h9) rfl dX8_drift_85 ?_
      refine q_aload_n C 0 dX8_drift_88 rfl ?_
      refine q_getr (T := TX8) C kC0 iC0 inX8_drift_X8 rfl 1 (by decide) (List.mem_of_getElem? (i := 7) rfl) (fun _ h9 => h9) rfl dX8_drift_89 ?_
      refine q_callVv (As := [.ref (qa Y 3)]) (st := []) C (c_X4_passOne Y kC11 iC11 σ12 _ h) gX8_drift_X4_passOne rfl ⟨rfl, nkX4_passOne⟩ rmOk_X8_drift__X4_passOne kC11 iC11 rfl rfl (Nat.le_of_ble_eq_true rfl) dX8_drift_92 rfl (fun σ13 h => ?_)
      obtain ⟨x14, ex14⟩ : ∃ y : Int32, y = v3 + (1 : Int32) := ⟨_, rfl⟩
      replace h := h x14 ex14
      refine q_iinc C x14 2 [(3, .int x14), (0, .ref (qa Y 0)), (1, .int v1)] dX8_drift_95 rfl (by rw [ex14]; rfl) (by decide) rfl ?_
      refine q_goto C 25 dX8_drift_98 (by decide) ?_
      refine q_sub (lv' := [(0, .ref (qa Y 0)), (1, .int v1), (3, .int x14)]) [1, 2, 0] rfl ?_
      exact hK25 v1 x14 σ13 h
theorem b_X8_drift_L25 {Y : CY} {Z : CZ} (C : cx SC 4 Y Z cX8_drift RX8 wsX8_drift (some .int) rmX8_drift) {Post : Int32 → St → Prop} (hQ : Qi SC Y Z Post)  : ∀ (n : Nat) (v1 : Int32) (v3 : Int32) (σ : St) (h : w_X8_drift_L25  Post n v1 v3 σ), WW SC 4 Y Z σ 25 [(0, .ref (qa Y 0)), (1, .int v1), (3, .int v3)] [] := by
  intro n
  induction n with
  | zero => intro v1 v3 σ h; exact h.elim
  | succ n ih => intro v1 v3 σ h; exact b_X8_drift_B25 C hQ  ih v1 v3 σ h
set_option maxHeartbeats 4000000 in
set_option maxRecDepth 100000 in
theorem b_X8_drift {Y : CY} {Z : CZ} (C : cx SC 4 Y Z cX8_drift RX8 wsX8_drift (some .int) rmX8_drift) {Post : Int32 → St → Prop} (hQ : Qi SC Y Z Post)  (p1 : Int32) (σ : St) (h : w_X8_drift p1 σ Post) : WW SC 4 Y Z σ 0 [(0, .ref (qa Y 0)), (1, .int p1)] [] := by
  unfold w_X8_drift at h
  refine q_aload_n C 0 dX8_drift_0 rfl ?_
  refine q_iload_n C 1 dX8_drift_1 rfl ?_
  refine q_callVi (As := [.int p1]) (st := []) C (c_X8_refusalOfMinutes Y p1 σ _ h) gX8_drift_X8_refusalOfMinutes rfl ⟨rfl, nkX8_refusalOfMinutes⟩ rmOk_X8_drift__X8_refusalOfMinutes kC0 iC0 rfl rfl (Nat.le_of_ble_eq_true rfl) dX8_drift_2 rfl (fun x2 σ1 h => ?_)
  refine q_istore_n C [(2, .int x2), (0, .ref (qa Y 0)), (1, .int p1)] dX8_drift_5 (by decide) rfl ?_
  refine q_iload_n C 0 dX8_drift_6 rfl ?_
  refine q_if_eq C 12 dX8_drift_7 (by decide) (fun c3 => ?_) (fun c3 => ?_)
  · replace h := h.1 c3
    refine q_aload_n C 1 dX8_drift_12 rfl ?_
    refine q_getr (T := TX8) C kC0 iC0 inX8_drift_X8 rfl 5 (by decide) (List.mem_of_getElem? (i := 1) rfl) (fun _ h9 => h9) rfl dX8_drift_13 ?_
    refine q_aload_n C 1 dX8_drift_16 rfl ?_
    refine q_getr (T := TX8) C kC0 iC0 inX8_drift_X8 rfl 3 (by decide) (List.mem_of_getElem? (i := 2) rfl) (fun _ h9 => h9) rfl dX8_drift_17 ?_
    refine q_callVv (As := [.ref (qa Y 11)]) (st := []) C (c_X1_push Y σ1 _ h) gX8_drift_X1_push rfl ⟨rfl, nkX1_push⟩ rmOk_X8_drift__X1_push kC14 iC14 rfl rfl (Nat.le_of_ble_eq_true rfl) dX8_drift_20 rfl (fun σ4 h => ?_)
    refine q_iconst (v := (0 : Int32)) C dX8_drift_23 (by decide) ?_
    refine q_istore_n C [(3, .int (0 : Int32)), (2, .int x2), (0, .ref (qa Y 0)), (1, .int p1)] dX8_drift_24 (by decide) rfl ?_
    refine q_sub (lv' := [(0, .ref (qa Y 0)), (1, .int p1), (3, .int (0 : Int32))]) [2, 3, 0] rfl ?_
    exact b_X8_drift_L25 C hQ FU p1 (0 : Int32) σ4 h
  · replace h := h.2 c3
    refine q_iload_n C 0 dX8_drift_10 rfl ?_
    exact q_iret C hQ dX8_drift_11 h
theorem c_X8_drift (Y : CY)  (p1 : Int32) (σ : St) (Post : Int32 → St → Prop) (h : w_X8_drift p1 σ Post) : Ki SC Y yX8_drift wsX8_drift rmX8_drift [.ref (qa Y 0), .int p1] σ Post :=
  Ki_of (cc := cX8_drift) (nL := 4) (ret := (some .int)) (by decide +kernel) rfl (Nat.le_of_ble_eq_true rfl) (fun Z C hQ => b_X8_drift C hQ  p1 σ h)
abbrev rmX8_fault : Room := { frames := 0, cells := 0, slots := 0, locals := 0 }
theorem nkX8_fault : NmOk yX8_fault 0 := by decide +kernel
theorem inX8_fault_X6 : ∀ w ∈ u_ws RX6 TX6 8, w ∈ wsX8_fault := fun _ h => List.mem_cons_of_mem _ (List.mem_append_right _ h)
theorem inX8_fault_X8 : ∀ w ∈ u_ws RX8 TX8 10, w ∈ wsX8_fault := fun _ h => List.mem_cons_of_mem _ (List.mem_append_left _ (List.mem_append_right _ h))
def w_X8_fault (σ : St) (Post : Int32 → St → Prop) : Prop := Post ((σ 1 2)) σ
set_option maxHeartbeats 4000000 in
set_option maxRecDepth 100000 in
theorem b_X8_fault {Y : CY} {Z : CZ} (C : cx SC 1 Y Z cX8_fault RX8 wsX8_fault (some .int) rmX8_fault) {Post : Int32 → St → Prop} (hQ : Qi SC Y Z Post)  (σ : St) (h : w_X8_fault  σ Post) : WW SC 1 Y Z σ 0 [(0, .ref (qa Y 0))] [] := by
  unfold w_X8_fault at h
  refine q_aload_n C 0 dX8_fault_0 rfl ?_
  refine q_getr (T := TX8) C kC0 iC0 inX8_fault_X8 rfl 0 (by decide) (List.mem_of_getElem? (i := 1) rfl) (fun _ h9 => h9) rfl dX8_fault_1 ?_
  refine q_geti (T := TX6) C kC1 iC1 inX8_fault_X6 rfl 2 (by decide) (List.mem_of_getElem? (i := 2) rfl) (fun _ h9 => h9) rfl dX8_fault_4 ?_
  exact q_iret C hQ dX8_fault_7 h
theorem c_X8_fault (Y : CY)  (σ : St) (Post : Int32 → St → Prop) (h : w_X8_fault  σ Post) : Ki SC Y yX8_fault wsX8_fault rmX8_fault [.ref (qa Y 0)] σ Post :=
  Ki_of (cc := cX8_fault) (nL := 1) (ret := (some .int)) (by decide +kernel) rfl (Nat.le_of_ble_eq_true rfl) (fun Z C hQ => b_X8_fault C hQ  σ h)
abbrev rmX8_feed : Room := { frames := 1, cells := 0, slots := 0, locals := 22 }
theorem nkX8_feed : NmOk yX8_feed 1 := by decide +kernel
theorem rmOk_X8_feed__X6_addLetter : RmOk rmX6_addLetter rmX8_feed 2 := ⟨rfl, rfl, by decide, by decide⟩
theorem rmOk_X8_feed__X8_isWithin : RmOk rmX8_isWithin rmX8_feed 3 := ⟨rfl, rfl, by decide, by decide⟩
theorem inX8_feed_X6 : ∀ w ∈ u_ws RX6 TX6 8, w ∈ wsX8_feed := fun _ h => List.mem_cons_of_mem _ (List.mem_append_right _ h)
theorem inX8_feed_X8 : ∀ w ∈ u_ws RX8 TX8 10, w ∈ wsX8_feed := fun _ h => List.mem_cons_of_mem _ (List.mem_append_left _ (List.mem_append_right _ h))
def w_X8_feed (p1 : Int32) (σ : St) (Post : Int32 → St → Prop) : Prop := w_X8_isWithin p1 (0 : Int32) (255 : Int32) σ (fun x2 σ1 => (¬ x2 = 0 → w_X6_addLetter p1 σ1 (fun x5 σ4 => (x5 = 0 → Post (-1000000004 : Int32) σ4) ∧ (¬ x5 = 0 → Post ((σ4 1 0)) σ4))) ∧ (x2 = 0 → Post (-1000000002 : Int32) σ1))
set_option maxHeartbeats 4000000 in
set_option maxRecDepth 100000 in
theorem b_X8_feed {Y : CY} {Z : CZ} (C : cx SC 2 Y Z cX8_feed RX8 wsX8_feed (some .int) rmX8_feed) {Post : Int32 → St → Prop} (hQ : Qi SC Y Z Post)  (p1 : Int32) (σ : St) (h : w_X8_feed p1 σ Post) : WW SC 2 Y Z σ 0 [(0, .ref (qa Y 0)), (1, .int p1)] [] := by
  unfold w_X8_feed at h
  refine q_iload_n C 1 dX8_feed_0 rfl ?_
  refine q_iconst (v := (0 : Int32)) C dX8_feed_1 (by decide) ?_
  refine q_sipush (v := (255 : Int32)) C dX8_feed_2 (by decide) ?_
  refine q_callSi (As := [.int p1, .int (0 : Int32), .int (255 : Int32)]) (st := []) C (c_X8_isWithin Y p1 (0 : Int32) (255 : Int32) σ _ h) gX8_feed_X8_isWithin rfl nkX8_isWithin rmOk_X8_feed__X8_isWithin rfl (Nat.le_of_ble_eq_true rfl) dX8_feed_5 rfl (fun x2 σ1 h => ?_)
  refine q_if_ne C 14 dX8_feed_8 (by decide) (fun c3 => ?_) (fun c3 => ?_)
  · replace h := h.1 c3
    refine q_aload_n C 0 dX8_feed_14 rfl ?_
    refine q_getr (T := TX8) C kC0 iC0 inX8_feed_X8 rfl 0 (by decide) (List.mem_of_getElem? (i := 2) rfl) (fun _ h9 => h9) rfl dX8_feed_15 ?_
    refine q_iload_n C 1 dX8_feed_18 rfl ?_
    refine q_callVi (As := [.int p1]) (st := []) C (c_X6_addLetter Y p1 σ1 _ h) gX8_feed_X6_addLetter rfl ⟨rfl, nkX6_addLetter⟩ rmOk_X8_feed__X6_addLetter kC1 iC1 rfl rfl (Nat.le_of_ble_eq_true rfl) dX8_feed_19 rfl (fun x5 σ4 h => ?_)
    refine q_if_eq C 35 dX8_feed_22 (by decide) (fun c6 => ?_) (fun c6 => ?_)
    · replace h := h.1 c6
      refine q_ldc (v := (-1000000004 : Int32)) C (List.mem_of_getElem? (i := 4) rfl) dX8_feed_35 ?_
      exact q_iret C hQ dX8_feed_37 h
    · replace h := h.2 c6
      refine q_aload_n C 0 dX8_feed_25 rfl ?_
      refine q_getr (T := TX8) C kC0 iC0 inX8_feed_X8 rfl 0 (by decide) (List.mem_of_getElem? (i := 2) rfl) (fun _ h9 => h9) rfl dX8_feed_26 ?_
      refine q_geti (T := TX6) C kC1 iC1 inX8_feed_X6 rfl 0 (by decide) (List.mem_of_getElem? (i := 3) rfl) (fun _ h9 => h9) rfl dX8_feed_29 ?_
      refine q_goto C 37 dX8_feed_32 (by decide) ?_
      exact q_iret C hQ dX8_feed_37 h
  · replace h := h.2 c3
    refine q_ldc (v := (-1000000002 : Int32)) C (List.mem_of_getElem? (i := 1) rfl) dX8_feed_11 ?_
    exact q_iret C hQ dX8_feed_13 h
theorem c_X8_feed (Y : CY)  (p1 : Int32) (σ : St) (Post : Int32 → St → Prop) (h : w_X8_feed p1 σ Post) : Ki SC Y yX8_feed wsX8_feed rmX8_feed [.ref (qa Y 0), .int p1] σ Post :=
  Ki_of (cc := cX8_feed) (nL := 2) (ret := (some .int)) (by decide +kernel) rfl (Nat.le_of_ble_eq_true rfl) (fun Z C hQ => b_X8_feed C hQ  p1 σ h)
abbrev rmX8_fits : Room := { frames := 2, cells := 0, slots := 0, locals := 47 }
theorem nkX8_fits : NmOk yX8_fits 2 := by decide +kernel
theorem rmOk_X8_fits__X5_isWormFit : RmOk rmX5_isWormFit rmX8_fits 7 := ⟨rfl, rfl, by decide, by decide⟩
theorem rmOk_X8_fits__X8_isWithin : RmOk rmX8_isWithin rmX8_fits 3 := ⟨rfl, rfl, by decide, by decide⟩
theorem inX8_fits_X3 : ∀ w ∈ u_ws RX3 TX3 12, w ∈ wsX8_fits := fun _ h => List.mem_cons_of_mem _ (List.mem_append_left _ (List.mem_append_right _ h))
theorem inX8_fits_X8 : ∀ w ∈ u_ws RX8 TX8 10, w ∈ wsX8_fits := fun _ h => List.mem_cons_of_mem _ (List.mem_append_left _ (List.mem_append_left _ (List.mem_append_right _ h)))
def w_X8_fits_J88 (K38 : Int32 → Int32 → Int32 → Int32 → Int32 → St → Prop) (Post : Int32 → St → Prop) (v1 : Int32) (v2 : Int32) (v3 : Int32) (v4 : Int32) (v5 : Int32) (σ : St) : Prop := ∀ x13 : Int32, x13 = v5 + (1 : Int32) → K38 v1 v2 v3 v4 x13 σ
def w_X8_fits_J83 (K38 : Int32 → Int32 → Int32 → Int32 → Int32 → St → Prop) (Post : Int32 → St → Prop) (v1 : Int32) (v2 : Int32) (v3 : Int32) (v5 : Int32) (s0 : Int32) (σ : St) : Prop := ∀ x14 : Int32, x14 = v3 + (1 : Int32) → w_X8_fits_J88 K38 Post v1 v2 x14 s0 v5 σ
def w_X8_fits_B38 (Post : Int32 → St → Prop) (K38 : Int32 → Int32 → Int32 → Int32 → Int32 → St → Prop) (v1 : Int32) (v2 : Int32) (v3 : Int32) (v4 : Int32) (v5 : Int32) (σ : St) : Prop := ((9 : Int32) < v5 → (¬ v2 = 0 → Post v4 σ) ∧ (v2 = 0 → Post v3 σ)) ∧ (¬ (9 : Int32) < v5 → w_X5_isWormFit ((σ 3 4)) v1 v5 σ (fun x10 σ9 => (x10 = 0 → w_X8_fits_J88 K38 Post v1 v2 v3 v4 v5 σ9) ∧ (¬ x10 = 0 → (¬ v3 = 0 → w_X8_fits_J83 K38 Post v1 v2 v3 v5 v4 σ9) ∧ (v3 = 0 → w_X8_fits_J83 K38 Post v1 v2 v3 v5 ((v5 + (9 : Int32))) σ9))))
def w_X8_fits_L38 (Post : Int32 → St → Prop) : Nat → Int32 → Int32 → Int32 → Int32 → Int32 → St → Prop
  | 0 => fun _ _ _ _ _ _ => False
  | n + 1 => w_X8_fits_B38   Post (w_X8_fits_L38   Post n)
def w_X8_fits (p1 : Int32) (p2 : Int32) (σ : St) (Post : Int32 → St → Prop) : Prop := w_X8_isWithin p1 (0 : Int32) (((σ 3 4) - (1 : Int32))) σ (fun x2 σ1 => (x2 = 0 → Post (-1000000002 : Int32) σ1) ∧ (¬ x2 = 0 → w_X8_isWithin p2 (0 : Int32) (1 : Int32) σ1 (fun x5 σ4 => (¬ x5 = 0 → w_X8_fits_L38 Post FU p1 p2 (0 : Int32) (-1 : Int32) (-9 : Int32) σ4) ∧ (x5 = 0 → Post (-1000000002 : Int32) σ4))))
set_option maxHeartbeats 4000000 in
set_option maxRecDepth 100000 in
theorem b_X8_fits_J88 {Y : CY} {Z : CZ} (C : cx SC 6 Y Z cX8_fits RX8 wsX8_fits (some .int) rmX8_fits) {Post : Int32 → St → Prop} (hQ : Qi SC Y Z Post)  {K38 : Int32 → Int32 → Int32 → Int32 → Int32 → St → Prop} (hK38 : ∀ (v1 : Int32) (v2 : Int32) (v3 : Int32) (v4 : Int32) (v5 : Int32) (σ : St), K38 v1 v2 v3 v4 v5 σ → WW SC 6 Y Z σ 38 [(0, .ref (qa Y 0)), (1, .int v1), (2, .int v2), (3, .int v3), (4, .int v4), (5, .int v5)] []) (v1 : Int32) (v2 : Int32) (v3 : Int32) (v4 : Int32) (v5 : Int32) (σ : St) (h : w_X8_fits_J88 K38 Post v1 v2 v3 v4 v5 σ) : WW SC 6 Y Z σ 88 [(0, .ref (qa Y 0)), (1, .int v1), (2, .int v2), (3, .int v3), (4, .int v4), (5, .int v5)] [] := by
  unfold w_X8_fits_J88 at h
  obtain ⟨x13, ex13⟩ : ∃ y : Int32, y = v5 + (1 : Int32) := ⟨_, rfl⟩
  replace h := h x13 ex13
  refine q_iinc C x13 5 [(5, .int x13), (0, .ref (qa Y 0)), (1, .int v1), (2, .int v2), (3, .int v3), (4, .int v4)] dX8_fits_88 rfl (by rw [ex13]; rfl) (by decide) rfl ?_
  refine q_goto C 38 dX8_fits_91 (by decide) ?_
  refine q_sub (lv' := [(0, .ref (qa Y 0)), (1, .int v1), (2, .int v2), (3, .int v3), (4, .int v4), (5, .int x13)]) [1, 2, 3, 4, 5, 0] rfl ?_
  exact hK38 v1 v2 v3 v4 x13 σ h
set_option maxHeartbeats 4000000 in
set_option maxRecDepth 100000 in
theorem b_X8_fits_J83 {Y : CY} {Z : CZ} (C : cx SC 6 Y Z cX8_fits RX8 wsX8_fits (some .int) rmX8_fits) {Post : Int32 → St → Prop} (hQ : Qi SC Y Z Post)  {K38 : Int32 → Int32 → Int32 → Int32 → Int32 → St → Prop} (hK38 : ∀ (v1 : Int32) (v2 : Int32) (v3 : Int32) (v4 : Int32) (v5 : Int32) (σ : St), K38 v1 v2 v3 v4 v5 σ → WW SC 6 Y Z σ 38 [(0, .ref (qa Y 0)), (1, .int v1), (2, .int v2), (3, .int v3), (4, .int v4), (5, .int v5)] []) (v1 : Int32) (v2 : Int32) (v3 : Int32) (v5 : Int32) (s0 : Int32) (σ : St) (h : w_X8_fits_J83 K38 Post v1 v2 v3 v5 s0 σ) : WW SC 6 Y Z σ 83 [(0, .ref (qa Y 0)), (1, .int v1), (2, .int v2), (3, .int v3), (5, .int v5)] [.int s0] := by
  unfold w_X8_fits_J83 at h
  refine q_istore C [(4, .int s0), (0, .ref (qa Y 0)), (1, .int v1), (2, .int v2), (3, .int v3), (5, .int v5)] dX8_fits_83 (by decide) rfl ?_
  obtain ⟨x14, ex14⟩ : ∃ y : Int32, y = v3 + (1 : Int32) := ⟨_, rfl⟩
  replace h := h x14 ex14
  refine q_iinc C x14 4 [(3, .int x14), (4, .int s0), (0, .ref (qa Y 0)), (1, .int v1), (2, .int v2), (5, .int v5)] dX8_fits_85 rfl (by rw [ex14]; rfl) (by decide) rfl ?_
  refine q_sub (lv' := [(0, .ref (qa Y 0)), (1, .int v1), (2, .int v2), (3, .int x14), (4, .int s0), (5, .int v5)]) [2, 3, 4, 0, 1, 5] rfl ?_
  exact b_X8_fits_J88 C hQ hK38 v1 v2 x14 s0 v5 σ h
set_option maxHeartbeats 4000000 in
set_option maxRecDepth 100000 in
theorem b_X8_fits_B38 {Y : CY} {Z : CZ} (C : cx SC 6 Y Z cX8_fits RX8 wsX8_fits (some .int) rmX8_fits) {Post : Int32 → St → Prop} (hQ : Qi SC Y Z Post)  {K38 : Int32 → Int32 → Int32 → Int32 → Int32 → St → Prop} (hK38 : ∀ (v1 : Int32) (v2 : Int32) (v3 : Int32) (v4 : Int32) (v5 : Int32) (σ : St), K38 v1 v2 v3 v4 v5 σ → WW SC 6 Y Z σ 38 [(0, .ref (qa Y 0)), (1, .int v1), (2, .int v2), (3, .int v3), (4, .int v4), (5, .int v5)] []) (v1 : Int32) (v2 : Int32) (v3 : Int32) (v4 : Int32) (v5 : Int32) (σ : St) (h : w_X8_fits_B38  Post K38 v1 v2 v3 v4 v5 σ) : WW SC 6 Y Z σ 38 [(0, .ref (qa Y 0)), (1, .int v1), (2, .int v2), (3, .int v3), (4, .int v4), (5, .int v5)] [] := by
  unfold w_X8_fits_B38 at h
  refine q_iload C 5 dX8_fits_38 rfl ?_
  refine q_bipush (v := (9 : Int32)) C dX8_fits_40 (by decide) ?_
  refine q_icmp_gt C 94 dX8_fits_42 (by decide) (fun c7 => ?_) (fun c7 => ?_)
  · replace h := h.1 c7
    refine q_iload_n C 2 dX8_fits_94 rfl ?_
    refine q_if_ne C 102 dX8_fits_95 (by decide) (fun c8 => ?_) (fun c8 => ?_)
    · replace h := h.1 c8
      refine q_iload C 4 dX8_fits_102 rfl ?_
      exact q_iret C hQ dX8_fits_104 h
    · replace h := h.2 c8
      refine q_iload_n C 3 dX8_fits_98 rfl ?_
      refine q_goto C 104 dX8_fits_99 (by decide) ?_
      exact q_iret C hQ dX8_fits_104 h
  · replace h := h.2 c7
    refine q_aload_n C 0 dX8_fits_45 rfl ?_
    refine q_getr (T := TX8) C kC0 iC0 inX8_fits_X8 rfl 6 (by decide) (List.mem_of_getElem? (i := 4) rfl) (fun _ h9 => h9) rfl dX8_fits_46 ?_
    refine q_aload_n C 0 dX8_fits_49 rfl ?_
    refine q_getr (T := TX8) C kC0 iC0 inX8_fits_X8 rfl 1 (by decide) (List.mem_of_getElem? (i := 1) rfl) (fun _ h9 => h9) rfl dX8_fits_50 ?_
    refine q_aload_n C 0 dX8_fits_53 rfl ?_
    refine q_getr (T := TX8) C kC0 iC0 inX8_fits_X8 rfl 1 (by decide) (List.mem_of_getElem? (i := 1) rfl) (fun _ h9 => h9) rfl dX8_fits_54 ?_
    refine q_geti (T := TX3) C kC3 iC3 inX8_fits_X3 rfl 4 (by decide) (List.mem_of_getElem? (i := 2) rfl) (fun _ h9 => h9) rfl dX8_fits_57 ?_
    refine q_iload_n C 1 dX8_fits_60 rfl ?_
    refine q_iload C 5 dX8_fits_61 rfl ?_
    refine q_callVi (As := [.ref (qa Y 3), .int (σ 3 4), .int v1, .int v5]) (st := []) C (c_X5_isWormFit Y ((σ 3 4)) v1 v5 σ _ h) gX8_fits_X5_isWormFit rfl ⟨rfl, nkX5_isWormFit⟩ rmOk_X8_fits__X5_isWormFit kC36 iC36 rfl rfl (Nat.le_of_ble_eq_true rfl) dX8_fits_63 rfl (fun x10 σ9 h => ?_)
    refine q_if_eq C 88 dX8_fits_66 (by decide) (fun c11 => ?_) (fun c11 => ?_)
    · replace h := h.1 c11
      exact b_X8_fits_J88 C hQ hK38 v1 v2 v3 v4 v5 σ9 h
    · replace h := h.2 c11
      refine q_iload_n C 3 dX8_fits_69 rfl ?_
      refine q_if_ne C 81 dX8_fits_70 (by decide) (fun c12 => ?_) (fun c12 => ?_)
      · replace h := h.1 c12
        refine q_iload C 4 dX8_fits_81 rfl ?_
        refine q_sub (lv' := [(0, .ref (qa Y 0)), (1, .int v1), (2, .int v2), (3, .int v3), (5, .int v5)]) [0, 1, 2, 3, 5] rfl ?_
        exact b_X8_fits_J83 C hQ hK38 v1 v2 v3 v5 v4 σ9 h
      · replace h := h.2 c12
        refine q_iload C 5 dX8_fits_73 rfl ?_
        refine q_bipush (v := (9 : Int32)) C dX8_fits_75 (by decide) ?_
        refine q_iadd C dX8_fits_77 ?_
        refine q_goto C 83 dX8_fits_78 (by decide) ?_
        refine q_sub (lv' := [(0, .ref (qa Y 0)), (1, .int v1), (2, .int v2), (3, .int v3), (5, .int v5)]) [0, 1, 2, 3, 5] rfl ?_
        exact b_X8_fits_J83 C hQ hK38 v1 v2 v3 v5 ((v5 + (9 : Int32))) σ9 h
theorem b_X8_fits_L38 {Y : CY} {Z : CZ} (C : cx SC 6 Y Z cX8_fits RX8 wsX8_fits (some .int) rmX8_fits) {Post : Int32 → St → Prop} (hQ : Qi SC Y Z Post)  : ∀ (n : Nat) (v1 : Int32) (v2 : Int32) (v3 : Int32) (v4 : Int32) (v5 : Int32) (σ : St) (h : w_X8_fits_L38  Post n v1 v2 v3 v4 v5 σ), WW SC 6 Y Z σ 38 [(0, .ref (qa Y 0)), (1, .int v1), (2, .int v2), (3, .int v3), (4, .int v4), (5, .int v5)] [] := by
  intro n
  induction n with
  | zero => intro v1 v2 v3 v4 v5 σ h; exact h.elim
  | succ n ih => intro v1 v2 v3 v4 v5 σ h; exact b_X8_fits_B38 C hQ  ih v1 v2 v3 v4 v5 σ h
set_option maxHeartbeats 4000000 in
set_option maxRecDepth 100000 in
theorem b_X8_fits {Y : CY} {Z : CZ} (C : cx SC 6 Y Z cX8_fits RX8 wsX8_fits (some .int) rmX8_fits) {Post : Int32 → St → Prop} (hQ : Qi SC Y Z Post)  (p1 : Int32) (p2 : Int32) (σ : St) (h : w_X8_fits p1 p2 σ Post) : WW SC 6 Y Z σ 0 [(0, .ref (qa Y 0)), (1, .int p1), (2, .int p2)] [] := by
  unfold w_X8_fits at h
  refine q_iload_n C 1 dX8_fits_0 rfl ?_
  refine q_iconst (v := (0 : Int32)) C dX8_fits_1 (by decide) ?_
  refine q_aload_n C 0 dX8_fits_2 rfl ?_
  refine q_getr (T := TX8) C kC0 iC0 inX8_fits_X8 rfl 1 (by decide) (List.mem_of_getElem? (i := 1) rfl) (fun _ h9 => h9) rfl dX8_fits_3 ?_
  refine q_geti (T := TX3) C kC3 iC3 inX8_fits_X3 rfl 4 (by decide) (List.mem_of_getElem? (i := 2) rfl) (fun _ h9 => h9) rfl dX8_fits_6 ?_
  refine q_iconst (v := (1 : Int32)) C dX8_fits_9 (by decide) ?_
  refine q_isub C dX8_fits_10 ?_
  refine q_callSi (As := [.int p1, .int (0 : Int32), .int ((σ 3 4) - (1 : Int32))]) (st := []) C (c_X8_isWithin Y p1 (0 : Int32) (((σ 3 4) - (1 : Int32))) σ _ h) gX8_fits_X8_isWithin rfl nkX8_isWithin rmOk_X8_fits__X8_isWithin rfl (Nat.le_of_ble_eq_true rfl) dX8_fits_11 rfl (fun x2 σ1 h => ?_)
  refine q_if_eq C 26 dX8_fits_14 (by decide) (fun c3 => ?_) (fun c3 => ?_)
  · replace h := h.1 c3
    refine q_ldc (v := (-1000000002 : Int32)) C (List.mem_of_getElem? (i := 3) rfl) dX8_fits_26 ?_
    exact q_iret C hQ dX8_fits_28 h
  · replace h := h.2 c3
    refine q_iload_n C 2 dX8_fits_17 rfl ?_
    refine q_iconst (v := (0 : Int32)) C dX8_fits_18 (by decide) ?_
    refine q_iconst (v := (1 : Int32)) C dX8_fits_19 (by decide) ?_
    refine q_callSi (As := [.int p2, .int (0 : Int32), .int (1 : Int32)]) (st := []) C (c_X8_isWithin Y p2 (0 : Int32) (1 : Int32) σ1 _ h) gX8_fits_X8_isWithin rfl nkX8_isWithin rmOk_X8_fits__X8_isWithin rfl (Nat.le_of_ble_eq_true rfl) dX8_fits_20 rfl (fun x5 σ4 h => ?_)
    refine q_if_ne C 29 dX8_fits_23 (by decide) (fun c6 => ?_) (fun c6 => ?_)
    · replace h := h.1 c6
      refine q_iconst (v := (0 : Int32)) C dX8_fits_29 (by decide) ?_
      refine q_istore_n C [(3, .int (0 : Int32)), (0, .ref (qa Y 0)), (1, .int p1), (2, .int p2)] dX8_fits_30 (by decide) rfl ?_
      refine q_iconst (v := (-1 : Int32)) C dX8_fits_31 (by decide) ?_
      refine q_istore C [(4, .int (-1 : Int32)), (3, .int (0 : Int32)), (0, .ref (qa Y 0)), (1, .int p1), (2, .int p2)] dX8_fits_32 (by decide) rfl ?_
      refine q_bipush (v := (-9 : Int32)) C dX8_fits_34 (by decide) ?_
      refine q_istore C [(5, .int (-9 : Int32)), (4, .int (-1 : Int32)), (3, .int (0 : Int32)), (0, .ref (qa Y 0)), (1, .int p1), (2, .int p2)] dX8_fits_36 (by decide) rfl ?_
      refine q_sub (lv' := [(0, .ref (qa Y 0)), (1, .int p1), (2, .int p2), (3, .int (0 : Int32)), (4, .int (-1 : Int32)), (5, .int (-9 : Int32))]) [3, 4, 5, 2, 1, 0] rfl ?_
      exact b_X8_fits_L38 C hQ FU p1 p2 (0 : Int32) (-1 : Int32) (-9 : Int32) σ4 h
    · replace h := h.2 c6
      refine q_ldc (v := (-1000000002 : Int32)) C (List.mem_of_getElem? (i := 3) rfl) dX8_fits_26 ?_
      exact q_iret C hQ dX8_fits_28 h
theorem c_X8_fits (Y : CY)  (p1 : Int32) (p2 : Int32) (σ : St) (Post : Int32 → St → Prop) (h : w_X8_fits p1 p2 σ Post) : Ki SC Y yX8_fits wsX8_fits rmX8_fits [.ref (qa Y 0), .int p1, .int p2] σ Post :=
  Ki_of (cc := cX8_fits) (nL := 6) (ret := (some .int)) (by decide +kernel) rfl (Nat.le_of_ble_eq_true rfl) (fun Z C hQ => b_X8_fits C hQ  p1 p2 σ h)
abbrev rmX8_imageAt : Room := { frames := 0, cells := 0, slots := 0, locals := 0 }
theorem nkX8_imageAt : NmOk yX8_imageAt 1 := by decide +kernel
theorem inX8_imageAt_X8 : ∀ w ∈ u_ws RX8 TX8 10, w ∈ wsX8_imageAt := fun _ h => List.mem_cons_of_mem _ (List.mem_append_right _ h)
def w_X8_imageAt (p1 : Int32) (σ : St) (Post : Option Nat → St → Prop) : Prop := (¬ p1 = 0 → (¬ p1 = (1 : Int32) → Post none σ) ∧ (p1 = (1 : Int32) → Post ((some 46)) σ)) ∧ (p1 = 0 → Post ((some 44)) σ)
set_option maxHeartbeats 4000000 in
set_option maxRecDepth 100000 in
theorem b_X8_imageAt {Y : CY} {Z : CZ} (C : cx SC 2 Y Z cX8_imageAt RX8 wsX8_imageAt (some (.object "HeldOnCross$Image")) rmX8_imageAt) {Post : Option Nat → St → Prop} (hQ : Qq SC Y Z Post)  (p1 : Int32) (σ : St) (h : w_X8_imageAt p1 σ Post) : WW SC 2 Y Z σ 0 [(0, .ref (qa Y 0)), (1, .int p1)] [] := by
  unfold w_X8_imageAt at h
  refine q_iload_n C 1 dX8_imageAt_0 rfl ?_
  refine q_if_ne C 9 dX8_imageAt_1 (by decide) (fun c1 => ?_) (fun c1 => ?_)
  · replace h := h.1 c1
    refine q_iload_n C 1 dX8_imageAt_9 rfl ?_
    refine q_iconst (v := (1 : Int32)) C dX8_imageAt_10 (by decide) ?_
    refine q_icmp_ne C 21 dX8_imageAt_11 (by decide) (fun c2 => ?_) (fun c2 => ?_)
    · replace h := h.1 c2
      refine q_aconst_null C dX8_imageAt_21 ?_
      exact q_qret C hQ (r := none) dX8_imageAt_22 h
    · replace h := h.2 c2
      refine q_aload_n C 0 dX8_imageAt_14 rfl ?_
      refine q_getr (T := TX8) C kC0 iC0 inX8_imageAt_X8 rfl 9 (by decide) (List.mem_of_getElem? (i := 2) rfl) (fun _ h9 => h9) rfl dX8_imageAt_15 ?_
      refine q_goto C 22 dX8_imageAt_18 (by decide) ?_
      exact q_qret C hQ (r := (some 46)) dX8_imageAt_22 h
  · replace h := h.2 c1
    refine q_aload_n C 0 dX8_imageAt_4 rfl ?_
    refine q_getr (T := TX8) C kC0 iC0 inX8_imageAt_X8 rfl 8 (by decide) (List.mem_of_getElem? (i := 1) rfl) (fun _ h9 => h9) rfl dX8_imageAt_5 ?_
    exact q_qret C hQ (r := (some 44)) dX8_imageAt_8 h
theorem c_X8_imageAt (Y : CY)  (p1 : Int32) (σ : St) (Post : Option Nat → St → Prop) (h : w_X8_imageAt p1 σ Post) : Kq SC Y yX8_imageAt wsX8_imageAt rmX8_imageAt [.ref (qa Y 0), .int p1] σ Post :=
  Kq_of (cc := cX8_imageAt) (nL := 2) (ret := (some (.object "HeldOnCross$Image"))) (by decide +kernel) rfl (Nat.le_of_ble_eq_true rfl) (fun Z C hQ => b_X8_imageAt C hQ  p1 σ h)
abbrev rmX8_goBack : Room := { frames := 1, cells := 0, slots := 0, locals := 21 }
theorem nkX8_goBack : NmOk yX8_goBack 1 := by decide +kernel
theorem rmOk_X8_goBack__X1_clear : RmOk rmX1_clear rmX8_goBack 1 := ⟨rfl, rfl, by decide, by decide⟩
theorem rmOk_X8_goBack__X4_copyFrom : RmOk rmX4_copyFrom rmX8_goBack 2 := ⟨rfl, rfl, by decide, by decide⟩
theorem rmOk_X8_goBack__X8_imageAt : RmOk rmX8_imageAt rmX8_goBack 2 := ⟨rfl, rfl, by decide, by decide⟩
theorem inX8_goBack_X0 : ∀ w ∈ u_ws RX0 TX0 1, w ∈ wsX8_goBack := fun _ h => List.mem_cons_of_mem _ (List.mem_append_left _ (List.mem_append_left _ (List.mem_append_right _ h)))
theorem inX8_goBack_X2 : ∀ w ∈ u_ws RX2 TX2 3, w ∈ wsX8_goBack := fun _ h => List.mem_cons_of_mem _ (List.mem_append_left _ (List.mem_append_left _ (List.mem_append_left _ (List.mem_append_left _ (List.mem_append_right _ h)))))
theorem inX8_goBack_X8 : ∀ w ∈ u_ws RX8 TX8 10, w ∈ wsX8_goBack := fun _ h => List.mem_cons_of_mem _ (List.mem_append_left _ (List.mem_append_left _ (List.mem_append_left _ (List.mem_append_right _ h))))
def w_X8_goBack (p1 : Int32) (σ : St) (Post : Int32 → St → Prop) : Prop := w_X8_imageAt p1 σ (fun r2 σ1 => (r2 = none → Post (-1000000001 : Int32) σ1) ∧ (∀ i4 : Nat, r2 = some i4 → (i4 = 44 ∧ ((¬ (σ1 44 0) = 0 → w_X4_copyFrom 11 45 σ1 (fun σ6 => ∀ σ7 : St, σ7 = up σ6 43 0 ((σ6 44 1)) → w_X1_clear σ7 (fun σ8 => Post (1 : Int32) σ8))) ∧ ((σ1 44 0) = 0 → Post (-1000000003 : Int32) σ1))) ∨ (i4 = 46 ∧ ((¬ (σ1 46 0) = 0 → w_X4_copyFrom 11 47 σ1 (fun σ10 => ∀ σ11 : St, σ11 = up σ10 43 0 ((σ10 46 1)) → w_X1_clear σ11 (fun σ12 => Post (1 : Int32) σ12))) ∧ ((σ1 46 0) = 0 → Post (-1000000003 : Int32) σ1)))))
set_option maxHeartbeats 4000000 in
set_option maxRecDepth 100000 in
theorem b_X8_goBack {Y : CY} {Z : CZ} (C : cx SC 3 Y Z cX8_goBack RX8 wsX8_goBack (some .int) rmX8_goBack) {Post : Int32 → St → Prop} (hQ : Qi SC Y Z Post)  (p1 : Int32) (σ : St) (h : w_X8_goBack p1 σ Post) : WW SC 3 Y Z σ 0 [(0, .ref (qa Y 0)), (1, .int p1)] [] := by
  unfold w_X8_goBack at h
  refine q_aload_n C 0 dX8_goBack_0 rfl ?_
  refine q_iload_n C 1 dX8_goBack_1 rfl ?_
  refine q_callVq (As := [.int p1]) (st := []) C (c_X8_imageAt Y p1 σ _ h) gX8_goBack_X8_imageAt rfl ⟨rfl, nkX8_imageAt⟩ rmOk_X8_goBack__X8_imageAt kC0 iC0 rfl rfl (Nat.le_of_ble_eq_true rfl) dX8_goBack_2 rfl (fun r2 σ1 h => ?_)
  refine q_astore_nq C [(0, .ref (qa Y 0)), (1, .int p1)] dX8_goBack_5 (by decide) rfl ?_
  refine q_aload_nq C 0 dX8_goBack_6 rfl ?_
  refine q_ifnonnullq C 13 dX8_goBack_7 (by decide) (fun c3 => ?_) (fun i4 c3 => ?_)
  · replace h := h.1 c3
    refine q_ldc (v := (-1000000001 : Int32)) C (List.mem_of_getElem? (i := 1) rfl) dX8_goBack_10 ?_
    exact q_iret C hQ dX8_goBack_12 h
  · replace h := h.2 i4 c3
    subst c3
    rcases h with ⟨ei4, h⟩ | ⟨ei4, h⟩
    · subst ei4
      show WW SC 3 Y Z σ1 13 [(2, .ref (qa Y 44)), (0, .ref (qa Y 0)), (1, .int p1)] []
      refine q_aload_n C 0 dX8_goBack_13 rfl ?_
      refine q_geti (T := TX2) C kC44 iC44 inX8_goBack_X2 rfl 0 (by decide) (List.mem_of_getElem? (i := 2) rfl) (fun _ h9 => h9) rfl dX8_goBack_14 ?_
      refine q_if_ne C 23 dX8_goBack_17 (by decide) (fun c5 => ?_) (fun c5 => ?_)
      · replace h := h.1 c5
        refine q_aload_n C 1 dX8_goBack_23 rfl ?_
        refine q_getr (T := TX8) C kC0 iC0 inX8_goBack_X8 rfl 3 (by decide) (List.mem_of_getElem? (i := 4) rfl) (fun _ h9 => h9) rfl dX8_goBack_24 ?_
        refine q_aload_n C 0 dX8_goBack_27 rfl ?_
        refine q_getr (T := TX2) C kC44 iC44 inX8_goBack_X2 rfl 2 (by decide) (List.mem_of_getElem? (i := 5) rfl) (fun _ h9 => h9) rfl dX8_goBack_28 ?_
        refine q_callVv (As := [.ref (qa Y 45)]) (st := []) C (c_X4_copyFrom Y kC11 iC11 kC45 iC45 σ1 _ h) gX8_goBack_X4_copyFrom rfl ⟨rfl, nkX4_copyFrom⟩ rmOk_X8_goBack__X4_copyFrom kC11 iC11 rfl rfl (Nat.le_of_ble_eq_true rfl) dX8_goBack_31 rfl (fun σ6 h => ?_)
        refine q_aload_n C 1 dX8_goBack_34 rfl ?_
        refine q_getr (T := TX8) C kC0 iC0 inX8_goBack_X8 rfl 7 (by decide) (List.mem_of_getElem? (i := 6) rfl) (fun _ h9 => h9) rfl dX8_goBack_35 ?_
        refine q_aload_n C 0 dX8_goBack_38 rfl ?_
        refine q_geti (T := TX2) C kC44 iC44 inX8_goBack_X2 rfl 1 (by decide) (List.mem_of_getElem? (i := 7) rfl) (fun _ h9 => h9) rfl dX8_goBack_39 ?_
        refine q_puti (T := TX0) C kC43 iC43 inX8_goBack_X0 rfl tyX0 tyX0_ok nmX0 0 (by decide) (List.mem_of_getElem? (i := 8) rfl) (fun _ h9 => h9) rfl dgC43 rfl (ni_n _) (ni_f _) dX8_goBack_42 ?_
        refine q_nmS (fun σ7 eσ7 => ?_)
        replace h := h σ7 eσ7
        refine q_aload_n C 1 dX8_goBack_45 rfl ?_
        refine q_getr (T := TX8) C kC0 iC0 inX8_goBack_X8 rfl 5 (by decide) (List.mem_of_getElem? (i := 9) rfl) (fun _ h9 => h9) rfl dX8_goBack_46 ?_
        refine q_callVv (As := []) (st := []) C (c_X1_clear Y σ7 _ h) gX8_goBack_X1_clear rfl ⟨rfl, nkX1_clear⟩ rmOk_X8_goBack__X1_clear kC14 iC14 rfl rfl (Nat.le_of_ble_eq_true rfl) dX8_goBack_49 rfl (fun σ8 h => ?_)
        refine q_iconst (v := (1 : Int32)) C dX8_goBack_52 (by decide) ?_
        exact q_iret C hQ dX8_goBack_53 h
      · replace h := h.2 c5
        refine q_ldc (v := (-1000000003 : Int32)) C (List.mem_of_getElem? (i := 3) rfl) dX8_goBack_20 ?_
        exact q_iret C hQ dX8_goBack_22 h
    · subst ei4
      show WW SC 3 Y Z σ1 13 [(2, .ref (qa Y 46)), (0, .ref (qa Y 0)), (1, .int p1)] []
      refine q_aload_n C 0 dX8_goBack_13 rfl ?_
      refine q_geti (T := TX2) C kC46 iC46 inX8_goBack_X2 rfl 0 (by decide) (List.mem_of_getElem? (i := 2) rfl) (fun _ h9 => h9) rfl dX8_goBack_14 ?_
      refine q_if_ne C 23 dX8_goBack_17 (by decide) (fun c9 => ?_) (fun c9 => ?_)
      · replace h := h.1 c9
        refine q_aload_n C 1 dX8_goBack_23 rfl ?_
        refine q_getr (T := TX8) C kC0 iC0 inX8_goBack_X8 rfl 3 (by decide) (List.mem_of_getElem? (i := 4) rfl) (fun _ h9 => h9) rfl dX8_goBack_24 ?_
        refine q_aload_n C 0 dX8_goBack_27 rfl ?_
        refine q_getr (T := TX2) C kC46 iC46 inX8_goBack_X2 rfl 2 (by decide) (List.mem_of_getElem? (i := 5) rfl) (fun _ h9 => h9) rfl dX8_goBack_28 ?_
        refine q_callVv (As := [.ref (qa Y 47)]) (st := []) C (c_X4_copyFrom Y kC11 iC11 kC47 iC47 σ1 _ h) gX8_goBack_X4_copyFrom rfl ⟨rfl, nkX4_copyFrom⟩ rmOk_X8_goBack__X4_copyFrom kC11 iC11 rfl rfl (Nat.le_of_ble_eq_true rfl) dX8_goBack_31 rfl (fun σ10 h => ?_)
        refine q_aload_n C 1 dX8_goBack_34 rfl ?_
        refine q_getr (T := TX8) C kC0 iC0 inX8_goBack_X8 rfl 7 (by decide) (List.mem_of_getElem? (i := 6) rfl) (fun _ h9 => h9) rfl dX8_goBack_35 ?_
        refine q_aload_n C 0 dX8_goBack_38 rfl ?_
        refine q_geti (T := TX2) C kC46 iC46 inX8_goBack_X2 rfl 1 (by decide) (List.mem_of_getElem? (i := 7) rfl) (fun _ h9 => h9) rfl dX8_goBack_39 ?_
        refine q_puti (T := TX0) C kC43 iC43 inX8_goBack_X0 rfl tyX0 tyX0_ok nmX0 0 (by decide) (List.mem_of_getElem? (i := 8) rfl) (fun _ h9 => h9) rfl dgC43 rfl (ni_n _) (ni_f _) dX8_goBack_42 ?_
        refine q_nmS (fun σ11 eσ11 => ?_)
        replace h := h σ11 eσ11
        refine q_aload_n C 1 dX8_goBack_45 rfl ?_
        refine q_getr (T := TX8) C kC0 iC0 inX8_goBack_X8 rfl 5 (by decide) (List.mem_of_getElem? (i := 9) rfl) (fun _ h9 => h9) rfl dX8_goBack_46 ?_
        refine q_callVv (As := []) (st := []) C (c_X1_clear Y σ11 _ h) gX8_goBack_X1_clear rfl ⟨rfl, nkX1_clear⟩ rmOk_X8_goBack__X1_clear kC14 iC14 rfl rfl (Nat.le_of_ble_eq_true rfl) dX8_goBack_49 rfl (fun σ12 h => ?_)
        refine q_iconst (v := (1 : Int32)) C dX8_goBack_52 (by decide) ?_
        exact q_iret C hQ dX8_goBack_53 h
      · replace h := h.2 c9
        refine q_ldc (v := (-1000000003 : Int32)) C (List.mem_of_getElem? (i := 3) rfl) dX8_goBack_20 ?_
        exact q_iret C hQ dX8_goBack_22 h
theorem c_X8_goBack (Y : CY)  (p1 : Int32) (σ : St) (Post : Int32 → St → Prop) (h : w_X8_goBack p1 σ Post) : Ki SC Y yX8_goBack wsX8_goBack rmX8_goBack [.ref (qa Y 0), .int p1] σ Post :=
  Ki_of (cc := cX8_goBack) (nL := 3) (ret := (some .int)) (by decide +kernel) rfl (Nat.le_of_ble_eq_true rfl) (fun Z C hQ => b_X8_goBack C hQ  p1 σ h)
abbrev rmX8_guide : Room := { frames := 3, cells := 0, slots := 0, locals := 66 }
theorem nkX8_guide : NmOk yX8_guide 1 := by decide +kernel
theorem rmOk_X8_guide__X3_starToGuideBy : RmOk rmX3_starToGuideBy rmX8_guide 4 := ⟨rfl, rfl, by decide, by decide⟩
theorem rmOk_X8_guide__X8_isWithin : RmOk rmX8_isWithin rmX8_guide 3 := ⟨rfl, rfl, by decide, by decide⟩
theorem inX8_guide_X8 : ∀ w ∈ u_ws RX8 TX8 10, w ∈ wsX8_guide := fun _ h => List.mem_cons_of_mem _ (List.mem_append_left _ (List.mem_append_right _ h))
def w_X8_guide (p1 : Int32) (σ : St) (Post : Int32 → St → Prop) : Prop := w_X8_isWithin p1 (1 : Int32) (9 : Int32) σ (fun x2 σ1 => (x2 = 0 → Post (-1000000002 : Int32) σ1) ∧ (¬ x2 = 0 → w_X3_starToGuideBy p1 σ1 (fun x5 σ4 => Post x5 σ4)))
set_option maxHeartbeats 4000000 in
set_option maxRecDepth 100000 in
theorem b_X8_guide {Y : CY} {Z : CZ} (C : cx SC 2 Y Z cX8_guide RX8 wsX8_guide (some .int) rmX8_guide) {Post : Int32 → St → Prop} (hQ : Qi SC Y Z Post)  (p1 : Int32) (σ : St) (h : w_X8_guide p1 σ Post) : WW SC 2 Y Z σ 0 [(0, .ref (qa Y 0)), (1, .int p1)] [] := by
  unfold w_X8_guide at h
  refine q_iload_n C 1 dX8_guide_0 rfl ?_
  refine q_iconst (v := (1 : Int32)) C dX8_guide_1 (by decide) ?_
  refine q_bipush (v := (9 : Int32)) C dX8_guide_2 (by decide) ?_
  refine q_callSi (As := [.int p1, .int (1 : Int32), .int (9 : Int32)]) (st := []) C (c_X8_isWithin Y p1 (1 : Int32) (9 : Int32) σ _ h) gX8_guide_X8_isWithin rfl nkX8_isWithin rmOk_X8_guide__X8_isWithin rfl (Nat.le_of_ble_eq_true rfl) dX8_guide_4 rfl (fun x2 σ1 h => ?_)
  refine q_if_eq C 21 dX8_guide_7 (by decide) (fun c3 => ?_) (fun c3 => ?_)
  · replace h := h.1 c3
    refine q_ldc (v := (-1000000002 : Int32)) C (List.mem_of_getElem? (i := 2) rfl) dX8_guide_21 ?_
    exact q_iret C hQ dX8_guide_23 h
  · replace h := h.2 c3
    refine q_aload_n C 0 dX8_guide_10 rfl ?_
    refine q_getr (T := TX8) C kC0 iC0 inX8_guide_X8 rfl 1 (by decide) (List.mem_of_getElem? (i := 1) rfl) (fun _ h9 => h9) rfl dX8_guide_11 ?_
    refine q_iload_n C 1 dX8_guide_14 rfl ?_
    refine q_callVi (As := [.int p1]) (st := []) C (c_X3_starToGuideBy Y p1 σ1 _ h) gX8_guide_X3_starToGuideBy rfl ⟨rfl, nkX3_starToGuideBy⟩ rmOk_X8_guide__X3_starToGuideBy kC3 iC3 rfl rfl (Nat.le_of_ble_eq_true rfl) dX8_guide_15 rfl (fun x5 σ4 h => ?_)
    refine q_goto C 23 dX8_guide_18 (by decide) ?_
    exact q_iret C hQ dX8_guide_23 h
theorem c_X8_guide (Y : CY)  (p1 : Int32) (σ : St) (Post : Int32 → St → Prop) (h : w_X8_guide p1 σ Post) : Ki SC Y yX8_guide wsX8_guide rmX8_guide [.ref (qa Y 0), .int p1] σ Post :=
  Ki_of (cc := cX8_guide) (nL := 2) (ret := (some .int)) (by decide +kernel) rfl (Nat.le_of_ble_eq_true rfl) (fun Z C hQ => b_X8_guide C hQ  p1 σ h)
abbrev rmX8_isRule : Room := { frames := 1, cells := 0, slots := 0, locals := 22 }
theorem nkX8_isRule : NmOk yX8_isRule 2 := by decide +kernel
theorem rmOk_X8_isRule__X8_isWithin : RmOk rmX8_isWithin rmX8_isRule 3 := ⟨rfl, rfl, by decide, by decide⟩
def w_X8_isRule (p1 : Int32) (p2 : Int32) (σ : St) (Post : Int32 → St → Prop) : Prop := w_X8_isWithin p1 (0 : Int32) (99 : Int32) σ (fun x2 σ1 => (x2 = 0 → Post (0 : Int32) σ1) ∧ (¬ x2 = 0 → w_X8_isWithin p2 (0 : Int32) (20 : Int32) σ1 (fun x5 σ4 => (x5 = 0 → Post (0 : Int32) σ4) ∧ (¬ x5 = 0 → Post (1 : Int32) σ4))))
set_option maxHeartbeats 4000000 in
set_option maxRecDepth 100000 in
theorem b_X8_isRule {Y : CY} {Z : CZ} (C : cx SC 2 Y Z cX8_isRule RX8 wsX8_isRule (some .boolean) rmX8_isRule) {Post : Int32 → St → Prop} (hQ : Qi SC Y Z Post)  (p1 : Int32) (p2 : Int32) (σ : St) (h : w_X8_isRule p1 p2 σ Post) : WW SC 2 Y Z σ 0 [(0, .int p1), (1, .int p2)] [] := by
  unfold w_X8_isRule at h
  refine q_iload_n C 0 dX8_isRule_0 rfl ?_
  refine q_iconst (v := (0 : Int32)) C dX8_isRule_1 (by decide) ?_
  refine q_bipush (v := (99 : Int32)) C dX8_isRule_2 (by decide) ?_
  refine q_callSi (As := [.int p1, .int (0 : Int32), .int (99 : Int32)]) (st := []) C (c_X8_isWithin Y p1 (0 : Int32) (99 : Int32) σ _ h) gX8_isRule_X8_isWithin rfl nkX8_isWithin rmOk_X8_isRule__X8_isWithin rfl (Nat.le_of_ble_eq_true rfl) dX8_isRule_4 rfl (fun x2 σ1 h => ?_)
  refine q_if_eq C 24 dX8_isRule_7 (by decide) (fun c3 => ?_) (fun c3 => ?_)
  · replace h := h.1 c3
    refine q_iconst (v := (0 : Int32)) C dX8_isRule_24 (by decide) ?_
    exact q_zret C hQ (zb_n (by decide)) dX8_isRule_25 h
  · replace h := h.2 c3
    refine q_iload_n C 1 dX8_isRule_10 rfl ?_
    refine q_iconst (v := (0 : Int32)) C dX8_isRule_11 (by decide) ?_
    refine q_bipush (v := (20 : Int32)) C dX8_isRule_12 (by decide) ?_
    refine q_callSi (As := [.int p2, .int (0 : Int32), .int (20 : Int32)]) (st := []) C (c_X8_isWithin Y p2 (0 : Int32) (20 : Int32) σ1 _ h) gX8_isRule_X8_isWithin rfl nkX8_isWithin rmOk_X8_isRule__X8_isWithin rfl (Nat.le_of_ble_eq_true rfl) dX8_isRule_14 rfl (fun x5 σ4 h => ?_)
    refine q_if_eq C 24 dX8_isRule_17 (by decide) (fun c6 => ?_) (fun c6 => ?_)
    · replace h := h.1 c6
      refine q_iconst (v := (0 : Int32)) C dX8_isRule_24 (by decide) ?_
      exact q_zret C hQ (zb_n (by decide)) dX8_isRule_25 h
    · replace h := h.2 c6
      refine q_iconst (v := (1 : Int32)) C dX8_isRule_20 (by decide) ?_
      refine q_goto C 25 dX8_isRule_21 (by decide) ?_
      exact q_zret C hQ (zb_n (by decide)) dX8_isRule_25 h
theorem c_X8_isRule (Y : CY)  (p1 : Int32) (p2 : Int32) (σ : St) (Post : Int32 → St → Prop) (h : w_X8_isRule p1 p2 σ Post) : Ki SC Y yX8_isRule wsX8_isRule rmX8_isRule [.int p1, .int p2] σ Post :=
  Ki_of (cc := cX8_isRule) (nL := 2) (ret := (some .boolean)) (by decide +kernel) rfl (Nat.le_of_ble_eq_true rfl) (fun Z C hQ => b_X8_isRule C hQ  p1 p2 σ h)
abbrev rmX8_judge : Room := { frames := 2, cells := 0, slots := 0, locals := 44 }
theorem nkX8_judge : NmOk yX8_judge 0 := by decide +kernel
theorem rmOk_X8_judge__X5_firstWrong : RmOk rmX5_firstWrong rmX8_judge 4 := ⟨rfl, rfl, by decide, by decide⟩
theorem inX8_judge_X4 : ∀ w ∈ u_ws RX4 TX4 12, w ∈ wsX8_judge := fun _ h => List.mem_cons_of_mem _ (List.mem_append_left _ (List.mem_append_right _ h))
theorem inX8_judge_X8 : ∀ w ∈ u_ws RX8 TX8 10, w ∈ wsX8_judge := fun _ h => List.mem_cons_of_mem _ (List.mem_append_left _ (List.mem_append_left _ (List.mem_append_right _ h)))
def w_X8_judge (σ : St) (Post : Int32 → St → Prop) : Prop := w_X5_firstWrong ((σ 11 1)) ((σ 11 2)) σ (fun x2 σ1 => Post x2 σ1)
set_option maxHeartbeats 4000000 in
set_option maxRecDepth 100000 in
theorem b_X8_judge {Y : CY} {Z : CZ} (C : cx SC 1 Y Z cX8_judge RX8 wsX8_judge (some .int) rmX8_judge) {Post : Int32 → St → Prop} (hQ : Qi SC Y Z Post)  (σ : St) (h : w_X8_judge  σ Post) : WW SC 1 Y Z σ 0 [(0, .ref (qa Y 0))] [] := by
  unfold w_X8_judge at h
  refine q_aload_n C 0 dX8_judge_0 rfl ?_
  refine q_getr (T := TX8) C kC0 iC0 inX8_judge_X8 rfl 6 (by decide) (List.mem_of_getElem? (i := 1) rfl) (fun _ h9 => h9) rfl dX8_judge_1 ?_
  refine q_aload_n C 0 dX8_judge_4 rfl ?_
  refine q_getr (T := TX8) C kC0 iC0 inX8_judge_X8 rfl 3 (by decide) (List.mem_of_getElem? (i := 2) rfl) (fun _ h9 => h9) rfl dX8_judge_5 ?_
  refine q_geti (T := TX4) C kC11 iC11 inX8_judge_X4 rfl 1 (by decide) (List.mem_of_getElem? (i := 3) rfl) (fun _ h9 => h9) rfl dX8_judge_8 ?_
  refine q_aload_n C 0 dX8_judge_11 rfl ?_
  refine q_getr (T := TX8) C kC0 iC0 inX8_judge_X8 rfl 3 (by decide) (List.mem_of_getElem? (i := 2) rfl) (fun _ h9 => h9) rfl dX8_judge_12 ?_
  refine q_geti (T := TX4) C kC11 iC11 inX8_judge_X4 rfl 2 (by decide) (List.mem_of_getElem? (i := 4) rfl) (fun _ h9 => h9) rfl dX8_judge_15 ?_
  refine q_callVi (As := [.int (σ 11 1), .int (σ 11 2)]) (st := []) C (c_X5_firstWrong Y ((σ 11 1)) ((σ 11 2)) σ _ h) gX8_judge_X5_firstWrong rfl ⟨rfl, nkX5_firstWrong⟩ rmOk_X8_judge__X5_firstWrong kC36 iC36 rfl rfl (Nat.le_of_ble_eq_true rfl) dX8_judge_18 rfl (fun x2 σ1 h => ?_)
  exact q_iret C hQ dX8_judge_21 h
theorem c_X8_judge (Y : CY)  (σ : St) (Post : Int32 → St → Prop) (h : w_X8_judge  σ Post) : Ki SC Y yX8_judge wsX8_judge rmX8_judge [.ref (qa Y 0)] σ Post :=
  Ki_of (cc := cX8_judge) (nL := 1) (ret := (some .int)) (by decide +kernel) rfl (Nat.le_of_ble_eq_true rfl) (fun Z C hQ => b_X8_judge C hQ  σ h)
abbrev rmX8_keep : Room := { frames := 1, cells := 0, slots := 0, locals := 21 }
theorem nkX8_keep : NmOk yX8_keep 1 := by decide +kernel
theorem rmOk_X8_keep__X1_clear : RmOk rmX1_clear rmX8_keep 1 := ⟨rfl, rfl, by decide, by decide⟩
theorem rmOk_X8_keep__X4_copyFrom : RmOk rmX4_copyFrom rmX8_keep 2 := ⟨rfl, rfl, by decide, by decide⟩
theorem rmOk_X8_keep__X8_imageAt : RmOk rmX8_imageAt rmX8_keep 2 := ⟨rfl, rfl, by decide, by decide⟩
theorem inX8_keep_X0 : ∀ w ∈ u_ws RX0 TX0 1, w ∈ wsX8_keep := fun _ h => List.mem_cons_of_mem _ (List.mem_append_left _ (List.mem_append_left _ (List.mem_append_right _ h)))
theorem inX8_keep_X2 : ∀ w ∈ u_ws RX2 TX2 3, w ∈ wsX8_keep := fun _ h => List.mem_cons_of_mem _ (List.mem_append_left _ (List.mem_append_left _ (List.mem_append_left _ (List.mem_append_left _ (List.mem_append_right _ h)))))
theorem inX8_keep_X8 : ∀ w ∈ u_ws RX8 TX8 10, w ∈ wsX8_keep := fun _ h => List.mem_cons_of_mem _ (List.mem_append_left _ (List.mem_append_left _ (List.mem_append_left _ (List.mem_append_right _ h))))
def w_X8_keep (p1 : Int32) (σ : St) (Post : Int32 → St → Prop) : Prop := w_X8_imageAt p1 σ (fun r2 σ1 => (r2 = none → Post (-1000000001 : Int32) σ1) ∧ (∀ i4 : Nat, r2 = some i4 → (i4 = 44 ∧ (∀ σ5 : St, σ5 = up σ1 44 0 (1 : Int32) → w_X4_copyFrom 45 11 σ5 (fun σ6 => ∀ σ7 : St, σ7 = up σ6 44 1 ((σ6 43 0)) → w_X1_clear σ7 (fun σ8 => Post (1 : Int32) σ8)))) ∨ (i4 = 46 ∧ (∀ σ9 : St, σ9 = up σ1 46 0 (1 : Int32) → w_X4_copyFrom 47 11 σ9 (fun σ10 => ∀ σ11 : St, σ11 = up σ10 46 1 ((σ10 43 0)) → w_X1_clear σ11 (fun σ12 => Post (1 : Int32) σ12))))))
set_option maxHeartbeats 4000000 in
set_option maxRecDepth 100000 in
theorem b_X8_keep {Y : CY} {Z : CZ} (C : cx SC 3 Y Z cX8_keep RX8 wsX8_keep (some .int) rmX8_keep) {Post : Int32 → St → Prop} (hQ : Qi SC Y Z Post)  (p1 : Int32) (σ : St) (h : w_X8_keep p1 σ Post) : WW SC 3 Y Z σ 0 [(0, .ref (qa Y 0)), (1, .int p1)] [] := by
  unfold w_X8_keep at h
  refine q_aload_n C 0 dX8_keep_0 rfl ?_
  refine q_iload_n C 1 dX8_keep_1 rfl ?_
  refine q_callVq (As := [.int p1]) (st := []) C (c_X8_imageAt Y p1 σ _ h) gX8_keep_X8_imageAt rfl ⟨rfl, nkX8_imageAt⟩ rmOk_X8_keep__X8_imageAt kC0 iC0 rfl rfl (Nat.le_of_ble_eq_true rfl) dX8_keep_2 rfl (fun r2 σ1 h => ?_)
  refine q_astore_nq C [(0, .ref (qa Y 0)), (1, .int p1)] dX8_keep_5 (by decide) rfl ?_
  refine q_aload_nq C 0 dX8_keep_6 rfl ?_
  refine q_ifnonnullq C 13 dX8_keep_7 (by decide) (fun c3 => ?_) (fun i4 c3 => ?_)
  · replace h := h.1 c3
    refine q_ldc (v := (-1000000001 : Int32)) C (List.mem_of_getElem? (i := 1) rfl) dX8_keep_10 ?_
    exact q_iret C hQ dX8_keep_12 h
  · replace h := h.2 i4 c3
    subst c3
    rcases h with ⟨ei4, h⟩ | ⟨ei4, h⟩
    · subst ei4
      show WW SC 3 Y Z σ1 13 [(2, .ref (qa Y 44)), (0, .ref (qa Y 0)), (1, .int p1)] []
      refine q_aload_n C 0 dX8_keep_13 rfl ?_
      refine q_iconst (v := (1 : Int32)) C dX8_keep_14 (by decide) ?_
      refine q_puti (T := TX2) C kC44 iC44 inX8_keep_X2 rfl tyX2 tyX2_ok nmX2 0 (by decide) (List.mem_of_getElem? (i := 2) rfl) (fun _ h9 => h9) rfl dgC44 rfl (zb_n (by decide)) (zb_f (by decide)) dX8_keep_15 ?_
      refine q_nmS (fun σ5 eσ5 => ?_)
      replace h := h σ5 eσ5
      refine q_aload_n C 0 dX8_keep_18 rfl ?_
      refine q_getr (T := TX2) C kC44 iC44 inX8_keep_X2 rfl 2 (by decide) (List.mem_of_getElem? (i := 3) rfl) (fun _ h9 => h9) rfl dX8_keep_19 ?_
      refine q_aload_n C 1 dX8_keep_22 rfl ?_
      refine q_getr (T := TX8) C kC0 iC0 inX8_keep_X8 rfl 3 (by decide) (List.mem_of_getElem? (i := 4) rfl) (fun _ h9 => h9) rfl dX8_keep_23 ?_
      refine q_callVv (As := [.ref (qa Y 11)]) (st := []) C (c_X4_copyFrom Y kC45 iC45 kC11 iC11 σ5 _ h) gX8_keep_X4_copyFrom rfl ⟨rfl, nkX4_copyFrom⟩ rmOk_X8_keep__X4_copyFrom kC45 iC45 rfl rfl (Nat.le_of_ble_eq_true rfl) dX8_keep_26 rfl (fun σ6 h => ?_)
      refine q_aload_n C 0 dX8_keep_29 rfl ?_
      refine q_aload_n C 1 dX8_keep_30 rfl ?_
      refine q_getr (T := TX8) C kC0 iC0 inX8_keep_X8 rfl 7 (by decide) (List.mem_of_getElem? (i := 5) rfl) (fun _ h9 => h9) rfl dX8_keep_31 ?_
      refine q_geti (T := TX0) C kC43 iC43 inX8_keep_X0 rfl 0 (by decide) (List.mem_of_getElem? (i := 6) rfl) (fun _ h9 => h9) rfl dX8_keep_34 ?_
      refine q_puti (T := TX2) C kC44 iC44 inX8_keep_X2 rfl tyX2 tyX2_ok nmX2 1 (by decide) (List.mem_of_getElem? (i := 7) rfl) (fun _ h9 => h9) rfl dgC44 rfl (ni_n _) (ni_f _) dX8_keep_37 ?_
      refine q_nmS (fun σ7 eσ7 => ?_)
      replace h := h σ7 eσ7
      refine q_aload_n C 1 dX8_keep_40 rfl ?_
      refine q_getr (T := TX8) C kC0 iC0 inX8_keep_X8 rfl 5 (by decide) (List.mem_of_getElem? (i := 8) rfl) (fun _ h9 => h9) rfl dX8_keep_41 ?_
      refine q_callVv (As := []) (st := []) C (c_X1_clear Y σ7 _ h) gX8_keep_X1_clear rfl ⟨rfl, nkX1_clear⟩ rmOk_X8_keep__X1_clear kC14 iC14 rfl rfl (Nat.le_of_ble_eq_true rfl) dX8_keep_44 rfl (fun σ8 h => ?_)
      refine q_iconst (v := (1 : Int32)) C dX8_keep_47 (by decide) ?_
      exact q_iret C hQ dX8_keep_48 h
    · subst ei4
      show WW SC 3 Y Z σ1 13 [(2, .ref (qa Y 46)), (0, .ref (qa Y 0)), (1, .int p1)] []
      refine q_aload_n C 0 dX8_keep_13 rfl ?_
      refine q_iconst (v := (1 : Int32)) C dX8_keep_14 (by decide) ?_
      refine q_puti (T := TX2) C kC46 iC46 inX8_keep_X2 rfl tyX2 tyX2_ok nmX2 0 (by decide) (List.mem_of_getElem? (i := 2) rfl) (fun _ h9 => h9) rfl dgC46 rfl (zb_n (by decide)) (zb_f (by decide)) dX8_keep_15 ?_
      refine q_nmS (fun σ9 eσ9 => ?_)
      replace h := h σ9 eσ9
      refine q_aload_n C 0 dX8_keep_18 rfl ?_
      refine q_getr (T := TX2) C kC46 iC46 inX8_keep_X2 rfl 2 (by decide) (List.mem_of_getElem? (i := 3) rfl) (fun _ h9 => h9) rfl dX8_keep_19 ?_
      refine q_aload_n C 1 dX8_keep_22 rfl ?_
      refine q_getr (T := TX8) C kC0 iC0 inX8_keep_X8 rfl 3 (by decide) (List.mem_of_getElem? (i := 4) rfl) (fun _ h9 => h9) rfl dX8_keep_23 ?_
      refine q_callVv (As := [.ref (qa Y 11)]) (st := []) C (c_X4_copyFrom Y kC47 iC47 kC11 iC11 σ9 _ h) gX8_keep_X4_copyFrom rfl ⟨rfl, nkX4_copyFrom⟩ rmOk_X8_keep__X4_copyFrom kC47 iC47 rfl rfl (Nat.le_of_ble_eq_true rfl) dX8_keep_26 rfl (fun σ10 h => ?_)
      refine q_aload_n C 0 dX8_keep_29 rfl ?_
      refine q_aload_n C 1 dX8_keep_30 rfl ?_
      refine q_getr (T := TX8) C kC0 iC0 inX8_keep_X8 rfl 7 (by decide) (List.mem_of_getElem? (i := 5) rfl) (fun _ h9 => h9) rfl dX8_keep_31 ?_
      refine q_geti (T := TX0) C kC43 iC43 inX8_keep_X0 rfl 0 (by decide) (List.mem_of_getElem? (i := 6) rfl) (fun _ h9 => h9) rfl dX8_keep_34 ?_
      refine q_puti (T := TX2) C kC46 iC46 inX8_keep_X2 rfl tyX2 tyX2_ok nmX2 1 (by decide) (List.mem_of_getElem? (i := 7) rfl) (fun _ h9 => h9) rfl dgC46 rfl (ni_n _) (ni_f _) dX8_keep_37 ?_
      refine q_nmS (fun σ11 eσ11 => ?_)
      replace h := h σ11 eσ11
      refine q_aload_n C 1 dX8_keep_40 rfl ?_
      refine q_getr (T := TX8) C kC0 iC0 inX8_keep_X8 rfl 5 (by decide) (List.mem_of_getElem? (i := 8) rfl) (fun _ h9 => h9) rfl dX8_keep_41 ?_
      refine q_callVv (As := []) (st := []) C (c_X1_clear Y σ11 _ h) gX8_keep_X1_clear rfl ⟨rfl, nkX1_clear⟩ rmOk_X8_keep__X1_clear kC14 iC14 rfl rfl (Nat.le_of_ble_eq_true rfl) dX8_keep_44 rfl (fun σ12 h => ?_)
      refine q_iconst (v := (1 : Int32)) C dX8_keep_47 (by decide) ?_
      exact q_iret C hQ dX8_keep_48 h
theorem c_X8_keep (Y : CY)  (p1 : Int32) (σ : St) (Post : Int32 → St → Prop) (h : w_X8_keep p1 σ Post) : Ki SC Y yX8_keep wsX8_keep rmX8_keep [.ref (qa Y 0), .int p1] σ Post :=
  Ki_of (cc := cX8_keep) (nL := 3) (ret := (some .int)) (by decide +kernel) rfl (Nat.le_of_ble_eq_true rfl) (fun Z C hQ => b_X8_keep C hQ  p1 σ h)
abbrev rmX8_look : Room := { frames := 2, cells := 0, slots := 0, locals := 44 }
theorem nkX8_look : NmOk yX8_look 0 := by decide +kernel
theorem rmOk_X8_look__X5_hasSeenPlaceOf : RmOk rmX5_hasSeenPlaceOf rmX8_look 4 := ⟨rfl, rfl, by decide, by decide⟩
theorem inX8_look_X3 : ∀ w ∈ u_ws RX3 TX3 12, w ∈ wsX8_look := fun _ h => List.mem_cons_of_mem _ (List.mem_append_left _ (List.mem_append_left _ (List.mem_append_right _ h)))
theorem inX8_look_X4 : ∀ w ∈ u_ws RX4 TX4 12, w ∈ wsX8_look := fun _ h => List.mem_cons_of_mem _ (List.mem_append_left _ (List.mem_append_right _ h))
theorem inX8_look_X8 : ∀ w ∈ u_ws RX8 TX8 10, w ∈ wsX8_look := fun _ h => List.mem_cons_of_mem _ (List.mem_append_left _ (List.mem_append_left _ (List.mem_append_left _ (List.mem_append_right _ h))))
def w_X8_look_B21 (Post : Int32 → St → Prop) (K21 : Int32 → St → Prop) (v1 : Int32) (σ : St) : Prop := (((σ 11 0) + (99 : Int32)) ≤ v1 → Post (-1 : Int32) σ) ∧ (¬ ((σ 11 0) + (99 : Int32)) ≤ v1 → w_X5_hasSeenPlaceOf v1 ((σ 3 4)) σ (fun x5 σ4 => (¬ x5 = 0 → ∀ x7 : Int32, x7 = v1 + (1 : Int32) → K21 x7 σ4) ∧ (x5 = 0 → Post v1 σ4)))
def w_X8_look_L21 (Post : Int32 → St → Prop) : Nat → Int32 → St → Prop
  | 0 => fun _ _ => False
  | n + 1 => w_X8_look_B21   Post (w_X8_look_L21   Post n)
def w_X8_look (σ : St) (Post : Int32 → St → Prop) : Prop := (¬ (σ 3 0) = 0 → ∀ x2 : Int32, x2 = (σ 11 0) → w_X8_look_L21 Post FU x2 σ) ∧ ((σ 3 0) = 0 → Post (-1000000003 : Int32) σ)
set_option maxHeartbeats 4000000 in
set_option maxRecDepth 100000 in
theorem b_X8_look_B21 {Y : CY} {Z : CZ} (C : cx SC 2 Y Z cX8_look RX8 wsX8_look (some .int) rmX8_look) {Post : Int32 → St → Prop} (hQ : Qi SC Y Z Post)  {K21 : Int32 → St → Prop} (hK21 : ∀ (v1 : Int32) (σ : St), K21 v1 σ → WW SC 2 Y Z σ 21 [(0, .ref (qa Y 0)), (1, .int v1)] []) (v1 : Int32) (σ : St) (h : w_X8_look_B21  Post K21 v1 σ) : WW SC 2 Y Z σ 21 [(0, .ref (qa Y 0)), (1, .int v1)] [] := by
  unfold w_X8_look_B21 at h
  refine q_iload_n C 1 dX8_look_21 rfl ?_
  refine q_aload_n C 0 dX8_look_22 rfl ?_
  refine q_getr (T := TX8) C kC0 iC0 inX8_look_X8 rfl 3 (by decide) (List.mem_of_getElem? (i := 4) rfl) (fun _ h9 => h9) rfl dX8_look_23 ?_
  refine q_geti (T := TX4) C kC11 iC11 inX8_look_X4 rfl 0 (by decide) (List.mem_of_getElem? (i := 5) rfl) (fun _ h9 => h9) rfl dX8_look_26 ?_
  refine q_bipush (v := (99 : Int32)) C dX8_look_29 (by decide) ?_
  refine q_iadd C dX8_look_31 ?_
  refine q_icmp_ge C 61 dX8_look_32 (by decide) (fun c3 => ?_) (fun c3 => ?_)
  · replace h := h.1 c3
    refine q_iconst (v := (-1 : Int32)) C dX8_look_61 (by decide) ?_
    exact q_iret C hQ dX8_look_62 h
  · replace h := h.2 c3
    refine q_aload_n C 0 dX8_look_35 rfl ?_
    refine q_getr (T := TX8) C kC0 iC0 inX8_look_X8 rfl 6 (by decide) (List.mem_of_getElem? (i := 6) rfl) (fun _ h9 => h9) rfl dX8_look_36 ?_
    refine q_iload_n C 1 dX8_look_39 rfl ?_
    refine q_aload_n C 0 dX8_look_40 rfl ?_
    refine q_getr (T := TX8) C kC0 iC0 inX8_look_X8 rfl 1 (by decide) (List.mem_of_getElem? (i := 1) rfl) (fun _ h9 => h9) rfl dX8_look_41 ?_
    refine q_geti (T := TX3) C kC3 iC3 inX8_look_X3 rfl 4 (by decide) (List.mem_of_getElem? (i := 7) rfl) (fun _ h9 => h9) rfl dX8_look_44 ?_
    refine q_callVi (As := [.int v1, .int (σ 3 4)]) (st := []) C (c_X5_hasSeenPlaceOf Y v1 ((σ 3 4)) σ _ h) gX8_look_X5_hasSeenPlaceOf rfl ⟨rfl, nkX5_hasSeenPlaceOf⟩ rmOk_X8_look__X5_hasSeenPlaceOf kC36 iC36 rfl rfl (Nat.le_of_ble_eq_true rfl) dX8_look_47 rfl (fun x5 σ4 h => ?_)
    refine q_if_ne C 55 dX8_look_50 (by decide) (fun c6 => ?_) (fun c6 => ?_)
    · replace h := h.1 c6
      obtain ⟨x7, ex7⟩ : ∃ y : Int32, y = v1 + (1 : Int32) := ⟨_, rfl⟩
      replace h := h x7 ex7
      refine q_iinc C x7 1 [(1, .int x7), (0, .ref (qa Y 0))] dX8_look_55 rfl (by rw [ex7]; rfl) (by decide) rfl ?_
      refine q_goto C 21 dX8_look_58 (by decide) ?_
      refine q_sub (lv' := [(0, .ref (qa Y 0)), (1, .int x7)]) [1, 0] rfl ?_
      exact hK21 x7 σ4 h
    · replace h := h.2 c6
      refine q_iload_n C 1 dX8_look_53 rfl ?_
      exact q_iret C hQ dX8_look_54 h
theorem b_X8_look_L21 {Y : CY} {Z : CZ} (C : cx SC 2 Y Z cX8_look RX8 wsX8_look (some .int) rmX8_look) {Post : Int32 → St → Prop} (hQ : Qi SC Y Z Post)  : ∀ (n : Nat) (v1 : Int32) (σ : St) (h : w_X8_look_L21  Post n v1 σ), WW SC 2 Y Z σ 21 [(0, .ref (qa Y 0)), (1, .int v1)] [] := by
  intro n
  induction n with
  | zero => intro v1 σ h; exact h.elim
  | succ n ih => intro v1 σ h; exact b_X8_look_B21 C hQ  ih v1 σ h
set_option maxHeartbeats 4000000 in
set_option maxRecDepth 100000 in
theorem b_X8_look {Y : CY} {Z : CZ} (C : cx SC 2 Y Z cX8_look RX8 wsX8_look (some .int) rmX8_look) {Post : Int32 → St → Prop} (hQ : Qi SC Y Z Post)  (σ : St) (h : w_X8_look  σ Post) : WW SC 2 Y Z σ 0 [(0, .ref (qa Y 0))] [] := by
  unfold w_X8_look at h
  refine q_aload_n C 0 dX8_look_0 rfl ?_
  refine q_getr (T := TX8) C kC0 iC0 inX8_look_X8 rfl 1 (by decide) (List.mem_of_getElem? (i := 1) rfl) (fun _ h9 => h9) rfl dX8_look_1 ?_
  refine q_geti (T := TX3) C kC3 iC3 inX8_look_X3 rfl 0 (by decide) (List.mem_of_getElem? (i := 2) rfl) (fun _ h9 => h9) rfl dX8_look_4 ?_
  refine q_if_ne C 13 dX8_look_7 (by decide) (fun c1 => ?_) (fun c1 => ?_)
  · replace h := h.1 c1
    refine q_aload_n C 0 dX8_look_13 rfl ?_
    refine q_getr (T := TX8) C kC0 iC0 inX8_look_X8 rfl 3 (by decide) (List.mem_of_getElem? (i := 4) rfl) (fun _ h9 => h9) rfl dX8_look_14 ?_
    refine q_geti (T := TX4) C kC11 iC11 inX8_look_X4 rfl 0 (by decide) (List.mem_of_getElem? (i := 5) rfl) (fun _ h9 => h9) rfl dX8_look_17 ?_
    refine q_topi (fun x2 ex2 => ?_)
    replace h := h x2 ex2
    refine q_istore_n C [(1, .int x2), (0, .ref (qa Y 0))] dX8_look_20 (by decide) rfl ?_
    refine q_sub (lv' := [(0, .ref (qa Y 0)), (1, .int x2)]) [1, 0] rfl ?_
    exact b_X8_look_L21 C hQ FU x2 σ h
  · replace h := h.2 c1
    refine q_ldc (v := (-1000000003 : Int32)) C (List.mem_of_getElem? (i := 3) rfl) dX8_look_10 ?_
    exact q_iret C hQ dX8_look_12 h
theorem c_X8_look (Y : CY)  (σ : St) (Post : Int32 → St → Prop) (h : w_X8_look  σ Post) : Ki SC Y yX8_look wsX8_look rmX8_look [.ref (qa Y 0)] σ Post :=
  Ki_of (cc := cX8_look) (nL := 2) (ret := (some .int)) (by decide +kernel) rfl (Nat.le_of_ble_eq_true rfl) (fun Z C hQ => b_X8_look C hQ  σ h)
abbrev rmX8_lostWhen : Room := { frames := 6, cells := 0, slots := 0, locals := 130 }
theorem nkX8_lostWhen : NmOk yX8_lostWhen 0 := by decide +kernel
theorem rmOk_X8_lostWhen__X7_minuteOfLoss : RmOk rmX7_minuteOfLoss rmX8_lostWhen 1 := ⟨rfl, rfl, by decide, by decide⟩
theorem rmOk_X8_lostWhen__X8_cannotGoOn : RmOk rmX8_cannotGoOn rmX8_lostWhen 1 := ⟨rfl, rfl, by decide, by decide⟩
theorem inX8_lostWhen_X8 : ∀ w ∈ u_ws RX8 TX8 10, w ∈ wsX8_lostWhen := fun _ h => List.mem_cons_of_mem _ (List.mem_append_left _ (List.mem_append_left _ (List.mem_append_left _ (List.mem_append_right _ h))))
def w_X8_lostWhen (σ : St) (Post : Int32 → St → Prop) : Prop := w_X8_cannotGoOn σ (fun x2 σ1 => (x2 = 0 → w_X7_minuteOfLoss σ1 (fun x5 σ4 => Post x5 σ4)) ∧ (¬ x2 = 0 → Post (-1000000003 : Int32) σ1))
set_option maxHeartbeats 4000000 in
set_option maxRecDepth 100000 in
theorem b_X8_lostWhen {Y : CY} {Z : CZ} (C : cx SC 1 Y Z cX8_lostWhen RX8 wsX8_lostWhen (some .int) rmX8_lostWhen) {Post : Int32 → St → Prop} (hQ : Qi SC Y Z Post)  (σ : St) (h : w_X8_lostWhen  σ Post) : WW SC 1 Y Z σ 0 [(0, .ref (qa Y 0))] [] := by
  unfold w_X8_lostWhen at h
  refine q_aload_n C 0 dX8_lostWhen_0 rfl ?_
  refine q_callVi (As := []) (st := []) C (c_X8_cannotGoOn Y σ _ h) gX8_lostWhen_X8_cannotGoOn rfl ⟨rfl, nkX8_cannotGoOn⟩ rmOk_X8_lostWhen__X8_cannotGoOn kC0 iC0 rfl rfl (Nat.le_of_ble_eq_true rfl) dX8_lostWhen_1 rfl (fun x2 σ1 h => ?_)
  refine q_if_eq C 12 dX8_lostWhen_4 (by decide) (fun c3 => ?_) (fun c3 => ?_)
  · replace h := h.1 c3
    refine q_aload_n C 0 dX8_lostWhen_12 rfl ?_
    refine q_getr (T := TX8) C kC0 iC0 inX8_lostWhen_X8 rfl 4 (by decide) (List.mem_of_getElem? (i := 2) rfl) (fun _ h9 => h9) rfl dX8_lostWhen_13 ?_
    refine q_callVi (As := []) (st := []) C (c_X7_minuteOfLoss Y σ1 _ h) gX8_lostWhen_X7_minuteOfLoss rfl ⟨rfl, nkX7_minuteOfLoss⟩ rmOk_X8_lostWhen__X7_minuteOfLoss kC12 iC12 rfl rfl (Nat.le_of_ble_eq_true rfl) dX8_lostWhen_16 rfl (fun x5 σ4 h => ?_)
    exact q_iret C hQ dX8_lostWhen_19 h
  · replace h := h.2 c3
    refine q_ldc (v := (-1000000003 : Int32)) C (List.mem_of_getElem? (i := 1) rfl) dX8_lostWhen_7 ?_
    refine q_goto C 19 dX8_lostWhen_9 (by decide) ?_
    exact q_iret C hQ dX8_lostWhen_19 h
theorem c_X8_lostWhen (Y : CY)  (σ : St) (Post : Int32 → St → Prop) (h : w_X8_lostWhen  σ Post) : Ki SC Y yX8_lostWhen wsX8_lostWhen rmX8_lostWhen [.ref (qa Y 0)] σ Post :=
  Ki_of (cc := cX8_lostWhen) (nL := 1) (ret := (some .int)) (by decide +kernel) rfl (Nat.le_of_ble_eq_true rfl) (fun Z C hQ => b_X8_lostWhen C hQ  σ h)
abbrev rmX8_minute : Room := { frames := 4, cells := 0, slots := 0, locals := 89 }
theorem nkX8_minute : NmOk yX8_minute 1 := by decide +kernel
theorem rmOk_X8_minute__X1_push : RmOk rmX1_push rmX8_minute 3 := ⟨rfl, rfl, by decide, by decide⟩
theorem rmOk_X8_minute__X4_passMany : RmOk rmX4_passMany rmX8_minute 4 := ⟨rfl, rfl, by decide, by decide⟩
theorem rmOk_X8_minute__X8_refusalOfMinutes : RmOk rmX8_refusalOfMinutes rmX8_minute 2 := ⟨rfl, rfl, by decide, by decide⟩
theorem inX8_minute_X4 : ∀ w ∈ u_ws RX4 TX4 12, w ∈ wsX8_minute := fun _ h => List.mem_cons_of_mem _ (List.mem_append_left _ (List.mem_append_left _ (List.mem_append_right _ h)))
theorem inX8_minute_X8 : ∀ w ∈ u_ws RX8 TX8 10, w ∈ wsX8_minute := fun _ h => List.mem_cons_of_mem _ (List.mem_append_left _ (List.mem_append_left _ (List.mem_append_left _ (List.mem_append_right _ h))))
def w_X8_minute (p1 : Int32) (σ : St) (Post : Int32 → St → Prop) : Prop := w_X8_refusalOfMinutes p1 σ (fun x2 σ1 => (x2 = 0 → w_X1_push σ1 (fun σ4 => w_X4_passMany 11 p1 σ4 (fun σ5 => Post (((σ5 11 1) + (10000 : Int32))) σ5))) ∧ (¬ x2 = 0 → Post x2 σ1))
set_option maxHeartbeats 4000000 in
set_option maxRecDepth 100000 in
theorem b_X8_minute {Y : CY} {Z : CZ} (C : cx SC 3 Y Z cX8_minute RX8 wsX8_minute (some .int) rmX8_minute) {Post : Int32 → St → Prop} (hQ : Qi SC Y Z Post)  (p1 : Int32) (σ : St) (h : w_X8_minute p1 σ Post) : WW SC 3 Y Z σ 0 [(0, .ref (qa Y 0)), (1, .int p1)] [] := by
  unfold w_X8_minute at h
  refine q_aload_n C 0 dX8_minute_0 rfl ?_
  refine q_iload_n C 1 dX8_minute_1 rfl ?_
  refine q_callVi (As := [.int p1]) (st := []) C (c_X8_refusalOfMinutes Y p1 σ _ h) gX8_minute_X8_refusalOfMinutes rfl ⟨rfl, nkX8_refusalOfMinutes⟩ rmOk_X8_minute__X8_refusalOfMinutes kC0 iC0 rfl rfl (Nat.le_of_ble_eq_true rfl) dX8_minute_2 rfl (fun x2 σ1 h => ?_)
  refine q_istore_n C [(2, .int x2), (0, .ref (qa Y 0)), (1, .int p1)] dX8_minute_5 (by decide) rfl ?_
  refine q_iload_n C 0 dX8_minute_6 rfl ?_
  refine q_if_eq C 12 dX8_minute_7 (by decide) (fun c3 => ?_) (fun c3 => ?_)
  · replace h := h.1 c3
    refine q_aload_n C 1 dX8_minute_12 rfl ?_
    refine q_getr (T := TX8) C kC0 iC0 inX8_minute_X8 rfl 5 (by decide) (List.mem_of_getElem? (i := 1) rfl) (fun _ h9 => h9) rfl dX8_minute_13 ?_
    refine q_aload_n C 1 dX8_minute_16 rfl ?_
    refine q_getr (T := TX8) C kC0 iC0 inX8_minute_X8 rfl 3 (by decide) (List.mem_of_getElem? (i := 2) rfl) (fun _ h9 => h9) rfl dX8_minute_17 ?_
    refine q_callVv (As := [.ref (qa Y 11)]) (st := []) C (c_X1_push Y σ1 _ h) gX8_minute_X1_push rfl ⟨rfl, nkX1_push⟩ rmOk_X8_minute__X1_push kC14 iC14 rfl rfl (Nat.le_of_ble_eq_true rfl) dX8_minute_20 rfl (fun σ4 h => ?_)
    refine q_aload_n C 1 dX8_minute_23 rfl ?_
    refine q_getr (T := TX8) C kC0 iC0 inX8_minute_X8 rfl 3 (by decide) (List.mem_of_getElem? (i := 2) rfl) (fun _ h9 => h9) rfl dX8_minute_24 ?_
    refine q_aload_n C 1 dX8_minute_27 rfl ?_
    refine q_getr (T := TX8) C kC0 iC0 inX8_minute_X8 rfl 1 (by decide) (List.mem_of_getElem? (i := 3) rfl) (fun _ h9 => h9) rfl dX8_minute_28 ?_
    refine q_iload_n C 2 dX8_minute_31 rfl ?_
    refine q_callVv (As := [.ref (qa Y 3), .int p1]) (st := []) C (c_X4_passMany Y kC11 iC11 p1 σ4 _ h) gX8_minute_X4_passMany rfl ⟨rfl, nkX4_passMany⟩ rmOk_X8_minute__X4_passMany kC11 iC11 rfl rfl (Nat.le_of_ble_eq_true rfl) dX8_minute_32 rfl (fun σ5 h => ?_)
    refine q_aload_n C 1 dX8_minute_35 rfl ?_
    refine q_getr (T := TX8) C kC0 iC0 inX8_minute_X8 rfl 3 (by decide) (List.mem_of_getElem? (i := 2) rfl) (fun _ h9 => h9) rfl dX8_minute_36 ?_
    refine q_geti (T := TX4) C kC11 iC11 inX8_minute_X4 rfl 1 (by decide) (List.mem_of_getElem? (i := 4) rfl) (fun _ h9 => h9) rfl dX8_minute_39 ?_
    refine q_sipush (v := (10000 : Int32)) C dX8_minute_42 (by decide) ?_
    refine q_iadd C dX8_minute_45 ?_
    exact q_iret C hQ dX8_minute_46 h
  · replace h := h.2 c3
    refine q_iload_n C 0 dX8_minute_10 rfl ?_
    exact q_iret C hQ dX8_minute_11 h
theorem c_X8_minute (Y : CY)  (p1 : Int32) (σ : St) (Post : Int32 → St → Prop) (h : w_X8_minute p1 σ Post) : Ki SC Y yX8_minute wsX8_minute rmX8_minute [.ref (qa Y 0), .int p1] σ Post :=
  Ki_of (cc := cX8_minute) (nL := 3) (ret := (some .int)) (by decide +kernel) rfl (Nat.le_of_ble_eq_true rfl) (fun Z C hQ => b_X8_minute C hQ  p1 σ h)
abbrev rmX8_mount : Room := { frames := 6, cells := 0, slots := 0, locals := 134 }
theorem nkX8_mount : NmOk yX8_mount 0 := by decide +kernel
theorem rmOk_X8_mount__X1_clear : RmOk rmX1_clear rmX8_mount 1 := ⟨rfl, rfl, by decide, by decide⟩
theorem rmOk_X8_mount__X3_copyFrom : RmOk rmX3_copyFrom rmX8_mount 3 := ⟨rfl, rfl, by decide, by decide⟩
theorem rmOk_X8_mount__X4_takeFreshPlate : RmOk rmX4_takeFreshPlate rmX8_mount 1 := ⟨rfl, rfl, by decide, by decide⟩
theorem rmOk_X8_mount__X5_clear : RmOk rmX5_clear rmX8_mount 1 := ⟨rfl, rfl, by decide, by decide⟩
theorem rmOk_X8_mount__X6_readInto : RmOk rmX6_readInto rmX8_mount 3 := ⟨rfl, rfl, by decide, by decide⟩
theorem inX8_mount_X2 : ∀ w ∈ u_ws RX2 TX2 3, w ∈ wsX8_mount := fun _ h => List.mem_cons_of_mem _ (List.mem_append_left _ (List.mem_append_left _ (List.mem_append_left _ (List.mem_append_right _ h))))
theorem inX8_mount_X3 : ∀ w ∈ u_ws RX3 TX3 12, w ∈ wsX8_mount := fun _ h => List.mem_cons_of_mem _ (List.mem_append_left _ (List.mem_append_left _ (List.mem_append_right _ h)))
theorem inX8_mount_X4 : ∀ w ∈ u_ws RX4 TX4 12, w ∈ wsX8_mount := fun _ h => List.mem_cons_of_mem _ (List.mem_append_left _ (List.mem_append_left _ (List.mem_append_left _ (List.mem_append_left _ (List.mem_append_right _ h)))))
theorem inX8_mount_X6 : ∀ w ∈ u_ws RX6 TX6 8, w ∈ wsX8_mount := fun _ h => List.mem_cons_of_mem _ (List.mem_append_left _ (List.mem_append_left _ (List.mem_append_left _ (List.mem_append_left _ (List.mem_append_left _ (List.mem_append_right _ h))))))
theorem inX8_mount_X8 : ∀ w ∈ u_ws RX8 TX8 10, w ∈ wsX8_mount := fun _ h => List.mem_cons_of_mem _ (List.mem_append_left _ (List.mem_append_left _ (List.mem_append_left _ (List.mem_append_left _ (List.mem_append_left _ (List.mem_append_left _ (List.mem_append_right _ h)))))))
def w_X8_mount (σ : St) (Post : Int32 → St → Prop) : Prop := w_X6_readInto σ (fun σ1 => ((σ1 1 1) = 0 → w_X3_copyFrom σ1 (fun σ3 => ∀ σ4 : St, σ4 = up σ3 11 0 (0 : Int32) → w_X4_takeFreshPlate 11 σ4 (fun σ5 => w_X5_clear σ5 (fun σ6 => w_X1_clear σ6 (fun σ7 => ∀ σ8 : St, σ8 = up σ7 44 0 (0 : Int32) → ∀ σ9 : St, σ9 = up σ8 46 0 (0 : Int32) → Post ((σ9 3 8)) σ9))))) ∧ (¬ (σ1 1 1) = 0 → Post (((-10 : Int32) - (σ1 1 1))) σ1))
set_option maxHeartbeats 4000000 in
set_option maxRecDepth 100000 in
theorem b_X8_mount {Y : CY} {Z : CZ} (C : cx SC 1 Y Z cX8_mount RX8 wsX8_mount (some .int) rmX8_mount) {Post : Int32 → St → Prop} (hQ : Qi SC Y Z Post)  (σ : St) (h : w_X8_mount  σ Post) : WW SC 1 Y Z σ 0 [(0, .ref (qa Y 0))] [] := by
  unfold w_X8_mount at h
  refine q_aload_n C 0 dX8_mount_0 rfl ?_
  refine q_getr (T := TX8) C kC0 iC0 inX8_mount_X8 rfl 0 (by decide) (List.mem_of_getElem? (i := 1) rfl) (fun _ h9 => h9) rfl dX8_mount_1 ?_
  refine q_aload_n C 0 dX8_mount_4 rfl ?_
  refine q_getr (T := TX8) C kC0 iC0 inX8_mount_X8 rfl 2 (by decide) (List.mem_of_getElem? (i := 2) rfl) (fun _ h9 => h9) rfl dX8_mount_5 ?_
  refine q_callVv (As := [.ref (qa Y 7)]) (st := []) C (c_X6_readInto Y σ _ h) gX8_mount_X6_readInto rfl ⟨rfl, nkX6_readInto⟩ rmOk_X8_mount__X6_readInto kC1 iC1 rfl rfl (Nat.le_of_ble_eq_true rfl) dX8_mount_8 rfl (fun σ1 h => ?_)
  refine q_aload_n C 0 dX8_mount_11 rfl ?_
  refine q_getr (T := TX8) C kC0 iC0 inX8_mount_X8 rfl 0 (by decide) (List.mem_of_getElem? (i := 1) rfl) (fun _ h9 => h9) rfl dX8_mount_12 ?_
  refine q_geti (T := TX6) C kC1 iC1 inX8_mount_X6 rfl 1 (by decide) (List.mem_of_getElem? (i := 3) rfl) (fun _ h9 => h9) rfl dX8_mount_15 ?_
  refine q_if_eq C 32 dX8_mount_18 (by decide) (fun c2 => ?_) (fun c2 => ?_)
  · replace h := h.1 c2
    refine q_aload_n C 0 dX8_mount_32 rfl ?_
    refine q_getr (T := TX8) C kC0 iC0 inX8_mount_X8 rfl 1 (by decide) (List.mem_of_getElem? (i := 4) rfl) (fun _ h9 => h9) rfl dX8_mount_33 ?_
    refine q_aload_n C 0 dX8_mount_36 rfl ?_
    refine q_getr (T := TX8) C kC0 iC0 inX8_mount_X8 rfl 2 (by decide) (List.mem_of_getElem? (i := 2) rfl) (fun _ h9 => h9) rfl dX8_mount_37 ?_
    refine q_callVv (As := [.ref (qa Y 7)]) (st := []) C (c_X3_copyFrom Y σ1 _ h) gX8_mount_X3_copyFrom rfl ⟨rfl, nkX3_copyFrom⟩ rmOk_X8_mount__X3_copyFrom kC3 iC3 rfl rfl (Nat.le_of_ble_eq_true rfl) dX8_mount_40 rfl (fun σ3 h => ?_)
    refine q_aload_n C 0 dX8_mount_43 rfl ?_
    refine q_getr (T := TX8) C kC0 iC0 inX8_mount_X8 rfl 3 (by decide) (List.mem_of_getElem? (i := 5) rfl) (fun _ h9 => h9) rfl dX8_mount_44 ?_
    refine q_iconst (v := (0 : Int32)) C dX8_mount_47 (by decide) ?_
    refine q_puti (T := TX4) C kC11 iC11 inX8_mount_X4 rfl tyX4 tyX4_ok nmX4 0 (by decide) (List.mem_of_getElem? (i := 6) rfl) (fun _ h9 => h9) rfl dgN rfl (ni_n _) (ni_f _) dX8_mount_48 ?_
    refine q_nmS (fun σ4 eσ4 => ?_)
    replace h := h σ4 eσ4
    refine q_aload_n C 0 dX8_mount_51 rfl ?_
    refine q_getr (T := TX8) C kC0 iC0 inX8_mount_X8 rfl 3 (by decide) (List.mem_of_getElem? (i := 5) rfl) (fun _ h9 => h9) rfl dX8_mount_52 ?_
    refine q_callVv (As := []) (st := []) C (c_X4_takeFreshPlate Y kC11 iC11 σ4 _ h) gX8_mount_X4_takeFreshPlate rfl ⟨rfl, nkX4_takeFreshPlate⟩ rmOk_X8_mount__X4_takeFreshPlate kC11 iC11 rfl rfl (Nat.le_of_ble_eq_true rfl) dX8_mount_55 rfl (fun σ5 h => ?_)
    refine q_aload_n C 0 dX8_mount_58 rfl ?_
    refine q_getr (T := TX8) C kC0 iC0 inX8_mount_X8 rfl 6 (by decide) (List.mem_of_getElem? (i := 7) rfl) (fun _ h9 => h9) rfl dX8_mount_59 ?_
    refine q_callVv (As := []) (st := []) C (c_X5_clear Y σ5 _ h) gX8_mount_X5_clear rfl ⟨rfl, nkX5_clear⟩ rmOk_X8_mount__X5_clear kC36 iC36 rfl rfl (Nat.le_of_ble_eq_true rfl) dX8_mount_62 rfl (fun σ6 h => ?_)
    refine q_aload_n C 0 dX8_mount_65 rfl ?_
    refine q_getr (T := TX8) C kC0 iC0 inX8_mount_X8 rfl 5 (by decide) (List.mem_of_getElem? (i := 8) rfl) (fun _ h9 => h9) rfl dX8_mount_66 ?_
    refine q_callVv (As := []) (st := []) C (c_X1_clear Y σ6 _ h) gX8_mount_X1_clear rfl ⟨rfl, nkX1_clear⟩ rmOk_X8_mount__X1_clear kC14 iC14 rfl rfl (Nat.le_of_ble_eq_true rfl) dX8_mount_69 rfl (fun σ7 h => ?_)
    refine q_aload_n C 0 dX8_mount_72 rfl ?_
    refine q_getr (T := TX8) C kC0 iC0 inX8_mount_X8 rfl 8 (by decide) (List.mem_of_getElem? (i := 9) rfl) (fun _ h9 => h9) rfl dX8_mount_73 ?_
    refine q_iconst (v := (0 : Int32)) C dX8_mount_76 (by decide) ?_
    refine q_puti (T := TX2) C kC44 iC44 inX8_mount_X2 rfl tyX2 tyX2_ok nmX2 0 (by decide) (List.mem_of_getElem? (i := 10) rfl) (fun _ h9 => h9) rfl dgC44 rfl (zb_n (by decide)) (zb_f (by decide)) dX8_mount_77 ?_
    refine q_nmS (fun σ8 eσ8 => ?_)
    replace h := h σ8 eσ8
    refine q_aload_n C 0 dX8_mount_80 rfl ?_
    refine q_getr (T := TX8) C kC0 iC0 inX8_mount_X8 rfl 9 (by decide) (List.mem_of_getElem? (i := 11) rfl) (fun _ h9 => h9) rfl dX8_mount_81 ?_
    refine q_iconst (v := (0 : Int32)) C dX8_mount_84 (by decide) ?_
    refine q_puti (T := TX2) C kC46 iC46 inX8_mount_X2 rfl tyX2 tyX2_ok nmX2 0 (by decide) (List.mem_of_getElem? (i := 10) rfl) (fun _ h9 => h9) rfl dgC46 rfl (zb_n (by decide)) (zb_f (by decide)) dX8_mount_85 ?_
    refine q_nmS (fun σ9 eσ9 => ?_)
    replace h := h σ9 eσ9
    refine q_aload_n C 0 dX8_mount_88 rfl ?_
    refine q_getr (T := TX8) C kC0 iC0 inX8_mount_X8 rfl 1 (by decide) (List.mem_of_getElem? (i := 4) rfl) (fun _ h9 => h9) rfl dX8_mount_89 ?_
    refine q_geti (T := TX3) C kC3 iC3 inX8_mount_X3 rfl 8 (by decide) (List.mem_of_getElem? (i := 12) rfl) (fun _ h9 => h9) rfl dX8_mount_92 ?_
    exact q_iret C hQ dX8_mount_95 h
  · replace h := h.2 c2
    refine q_bipush (v := (-10 : Int32)) C dX8_mount_21 (by decide) ?_
    refine q_aload_n C 0 dX8_mount_23 rfl ?_
    refine q_getr (T := TX8) C kC0 iC0 inX8_mount_X8 rfl 0 (by decide) (List.mem_of_getElem? (i := 1) rfl) (fun _ h9 => h9) rfl dX8_mount_24 ?_
    refine q_geti (T := TX6) C kC1 iC1 inX8_mount_X6 rfl 1 (by decide) (List.mem_of_getElem? (i := 3) rfl) (fun _ h9 => h9) rfl dX8_mount_27 ?_
    refine q_isub C dX8_mount_30 ?_
    exact q_iret C hQ dX8_mount_31 h
theorem c_X8_mount (Y : CY)  (σ : St) (Post : Int32 → St → Prop) (h : w_X8_mount  σ Post) : Ki SC Y yX8_mount wsX8_mount rmX8_mount [.ref (qa Y 0)] σ Post :=
  Ki_of (cc := cX8_mount) (nL := 1) (ret := (some .int)) (by decide +kernel) rfl (Nat.le_of_ble_eq_true rfl) (fun Z C hQ => b_X8_mount C hQ  σ h)
abbrev rmX8_nodded : Room := { frames := 5, cells := 0, slots := 0, locals := 116 }
theorem nkX8_nodded : NmOk yX8_nodded 6 := by decide +kernel
theorem rmOk_X8_nodded__X7_tailWithNod : RmOk rmX7_tailWithNod rmX8_nodded 7 := ⟨rfl, rfl, by decide, by decide⟩
theorem rmOk_X8_nodded__X8_isRule : RmOk rmX8_isRule rmX8_nodded 2 := ⟨rfl, rfl, by decide, by decide⟩
theorem rmOk_X8_nodded__X8_isWithin : RmOk rmX8_isWithin rmX8_nodded 3 := ⟨rfl, rfl, by decide, by decide⟩
theorem inX8_nodded_X3 : ∀ w ∈ u_ws RX3 TX3 12, w ∈ wsX8_nodded := fun _ h => List.mem_cons_of_mem _ (List.mem_append_left _ (List.mem_append_left _ (List.mem_append_right _ h)))
theorem inX8_nodded_X8 : ∀ w ∈ u_ws RX8 TX8 10, w ∈ wsX8_nodded := fun _ h => List.mem_cons_of_mem _ (List.mem_append_left _ (List.mem_append_left _ (List.mem_append_left _ (List.mem_append_right _ h))))
def w_X8_nodded_J107 (K63 : Int32 → Int32 → Int32 → Int32 → Int32 → Int32 → Int32 → Int32 → St → Prop) (Post : Int32 → St → Prop) (v1 : Int32) (v2 : Int32) (v3 : Int32) (v4 : Int32) (v5 : Int32) (v6 : Int32) (v7 : Int32) (v8 : Int32) (σ : St) : Prop := ∀ x21 : Int32, x21 = v8 + (1 : Int32) → K63 v1 v2 v3 v4 v5 v6 v7 x21 σ
def w_X8_nodded_B63 (Post : Int32 → St → Prop) (K63 : Int32 → Int32 → Int32 → Int32 → Int32 → Int32 → Int32 → Int32 → St → Prop) (v1 : Int32) (v2 : Int32) (v3 : Int32) (v4 : Int32) (v5 : Int32) (v6 : Int32) (v7 : Int32) (v8 : Int32) (σ : St) : Prop := ((v3 - v4) < v8 → (¬ v6 = (-1 : Int32) → Post (-1 : Int32) σ) ∧ (v6 = (-1 : Int32) → Post v7 σ)) ∧ (¬ (v3 - v4) < v8 → w_X7_tailWithNod v1 v2 v3 v8 ((v8 + v4)) σ (fun x17 σ16 => (¬ x17 = v5 → w_X8_nodded_J107 K63 Post v1 v2 v3 v4 v5 v6 v7 v8 σ16) ∧ (x17 = v5 → (¬ v7 = v6 → ∀ x20 : Int32, x20 = v7 + (1 : Int32) → w_X8_nodded_J107 K63 Post v1 v2 v3 v4 v5 v6 x20 v8 σ16) ∧ (v7 = v6 → Post v8 σ16))))
def w_X8_nodded_L63 (Post : Int32 → St → Prop) : Nat → Int32 → Int32 → Int32 → Int32 → Int32 → Int32 → Int32 → Int32 → St → Prop
  | 0 => fun _ _ _ _ _ _ _ _ _ => False
  | n + 1 => w_X8_nodded_B63   Post (w_X8_nodded_L63   Post n)
def w_X8_nodded (p1 : Int32) (p2 : Int32) (p3 : Int32) (p4 : Int32) (p5 : Int32) (p6 : Int32) (σ : St) (Post : Int32 → St → Prop) : Prop := w_X8_isRule p1 p2 σ (fun x2 σ1 => (x2 = 0 → Post (-1000000002 : Int32) σ1) ∧ (¬ x2 = 0 → w_X8_isWithin p3 (1 : Int32) (60 : Int32) σ1 (fun x5 σ4 => (x5 = 0 → Post (-1000000002 : Int32) σ4) ∧ (¬ x5 = 0 → w_X8_isWithin p4 (1 : Int32) (20 : Int32) σ4 (fun x8 σ7 => (x8 = 0 → Post (-1000000002 : Int32) σ7) ∧ (¬ x8 = 0 → w_X8_isWithin p5 (0 : Int32) (9999 : Int32) σ7 (fun x11 σ10 => (¬ x11 = 0 → (¬ (σ10 3 0) = 0 → w_X8_nodded_L63 Post FU p1 p2 p3 p4 p5 p6 (0 : Int32) (0 : Int32) σ10) ∧ ((σ10 3 0) = 0 → Post (-1000000003 : Int32) σ10)) ∧ (x11 = 0 → Post (-1000000002 : Int32) σ10))))))))
set_option maxHeartbeats 4000000 in
set_option maxRecDepth 100000 in
theorem b_X8_nodded_J107 {Y : CY} {Z : CZ} (C : cx SC 9 Y Z cX8_nodded RX8 wsX8_nodded (some .int) rmX8_nodded) {Post : Int32 → St → Prop} (hQ : Qi SC Y Z Post)  {K63 : Int32 → Int32 → Int32 → Int32 → Int32 → Int32 → Int32 → Int32 → St → Prop} (hK63 : ∀ (v1 : Int32) (v2 : Int32) (v3 : Int32) (v4 : Int32) (v5 : Int32) (v6 : Int32) (v7 : Int32) (v8 : Int32) (σ : St), K63 v1 v2 v3 v4 v5 v6 v7 v8 σ → WW SC 9 Y Z σ 63 [(0, .ref (qa Y 0)), (1, .int v1), (2, .int v2), (3, .int v3), (4, .int v4), (5, .int v5), (6, .int v6), (7, .int v7), (8, .int v8)] []) (v1 : Int32) (v2 : Int32) (v3 : Int32) (v4 : Int32) (v5 : Int32) (v6 : Int32) (v7 : Int32) (v8 : Int32) (σ : St) (h : w_X8_nodded_J107 K63 Post v1 v2 v3 v4 v5 v6 v7 v8 σ) : WW SC 9 Y Z σ 107 [(0, .ref (qa Y 0)), (1, .int v1), (2, .int v2), (3, .int v3), (4, .int v4), (5, .int v5), (6, .int v6), (7, .int v7), (8, .int v8)] [] := by
  unfold w_X8_nodded_J107 at h
  obtain ⟨x21, ex21⟩ : ∃ y : Int32, y = v8 + (1 : Int32) := ⟨_, rfl⟩
  replace h := h x21 ex21
  refine q_iinc C x21 8 [(8, .int x21), (0, .ref (qa Y 0)), (1, .int v1), (2, .int v2), (3, .int v3), (4, .int v4), (5, .int v5), (6, .int v6), (7, .int v7)] dX8_nodded_107 rfl (by rw [ex21]; rfl) (by decide) rfl ?_
  refine q_goto C 63 dX8_nodded_110 (by decide) ?_
  refine q_sub (lv' := [(0, .ref (qa Y 0)), (1, .int v1), (2, .int v2), (3, .int v3), (4, .int v4), (5, .int v5), (6, .int v6), (7, .int v7), (8, .int x21)]) [1, 2, 3, 4, 5, 6, 7, 8, 0] rfl ?_
  exact hK63 v1 v2 v3 v4 v5 v6 v7 x21 σ h
set_option maxHeartbeats 4000000 in
set_option maxRecDepth 100000 in
theorem b_X8_nodded_B63 {Y : CY} {Z : CZ} (C : cx SC 9 Y Z cX8_nodded RX8 wsX8_nodded (some .int) rmX8_nodded) {Post : Int32 → St → Prop} (hQ : Qi SC Y Z Post)  {K63 : Int32 → Int32 → Int32 → Int32 → Int32 → Int32 → Int32 → Int32 → St → Prop} (hK63 : ∀ (v1 : Int32) (v2 : Int32) (v3 : Int32) (v4 : Int32) (v5 : Int32) (v6 : Int32) (v7 : Int32) (v8 : Int32) (σ : St), K63 v1 v2 v3 v4 v5 v6 v7 v8 σ → WW SC 9 Y Z σ 63 [(0, .ref (qa Y 0)), (1, .int v1), (2, .int v2), (3, .int v3), (4, .int v4), (5, .int v5), (6, .int v6), (7, .int v7), (8, .int v8)] []) (v1 : Int32) (v2 : Int32) (v3 : Int32) (v4 : Int32) (v5 : Int32) (v6 : Int32) (v7 : Int32) (v8 : Int32) (σ : St) (h : w_X8_nodded_B63  Post K63 v1 v2 v3 v4 v5 v6 v7 v8 σ) : WW SC 9 Y Z σ 63 [(0, .ref (qa Y 0)), (1, .int v1), (2, .int v2), (3, .int v3), (4, .int v4), (5, .int v5), (6, .int v6), (7, .int v7), (8, .int v8)] [] := by
  unfold w_X8_nodded_B63 at h
  refine q_iload C 8 dX8_nodded_63 rfl ?_
  refine q_iload_n C 3 dX8_nodded_65 rfl ?_
  refine q_iload C 4 dX8_nodded_66 rfl ?_
  refine q_isub C dX8_nodded_68 ?_
  refine q_icmp_gt C 113 dX8_nodded_69 (by decide) (fun c14 => ?_) (fun c14 => ?_)
  · replace h := h.1 c14
    refine q_iload C 6 dX8_nodded_113 rfl ?_
    refine q_iconst (v := (-1 : Int32)) C dX8_nodded_115 (by decide) ?_
    refine q_icmp_ne C 124 dX8_nodded_116 (by decide) (fun c15 => ?_) (fun c15 => ?_)
    · replace h := h.1 c15
      refine q_iconst (v := (-1 : Int32)) C dX8_nodded_124 (by decide) ?_
      exact q_iret C hQ dX8_nodded_125 h
    · replace h := h.2 c15
      refine q_iload C 7 dX8_nodded_119 rfl ?_
      refine q_goto C 125 dX8_nodded_121 (by decide) ?_
      exact q_iret C hQ dX8_nodded_125 h
  · replace h := h.2 c14
    refine q_aload_n C 0 dX8_nodded_72 rfl ?_
    refine q_getr (T := TX8) C kC0 iC0 inX8_nodded_X8 rfl 4 (by decide) (List.mem_of_getElem? (i := 5) rfl) (fun _ h9 => h9) rfl dX8_nodded_73 ?_
    refine q_iload_n C 1 dX8_nodded_76 rfl ?_
    refine q_iload_n C 2 dX8_nodded_77 rfl ?_
    refine q_iload_n C 3 dX8_nodded_78 rfl ?_
    refine q_iload C 8 dX8_nodded_79 rfl ?_
    refine q_iload C 8 dX8_nodded_81 rfl ?_
    refine q_iload C 4 dX8_nodded_83 rfl ?_
    refine q_iadd C dX8_nodded_85 ?_
    refine q_callVi (As := [.int v1, .int v2, .int v3, .int v8, .int (v8 + v4)]) (st := []) C (c_X7_tailWithNod Y v1 v2 v3 v8 ((v8 + v4)) σ _ h) gX8_nodded_X7_tailWithNod rfl ⟨rfl, nkX7_tailWithNod⟩ rmOk_X8_nodded__X7_tailWithNod kC12 iC12 rfl rfl (Nat.le_of_ble_eq_true rfl) dX8_nodded_86 rfl (fun x17 σ16 h => ?_)
    refine q_iload C 5 dX8_nodded_89 rfl ?_
    refine q_icmp_ne C 107 dX8_nodded_91 (by decide) (fun c18 => ?_) (fun c18 => ?_)
    · replace h := h.1 c18
      exact b_X8_nodded_J107 C hQ hK63 v1 v2 v3 v4 v5 v6 v7 v8 σ16 h
    · replace h := h.2 c18
      refine q_iload C 7 dX8_nodded_94 rfl ?_
      refine q_iload C 6 dX8_nodded_96 rfl ?_
      refine q_icmp_ne C 104 dX8_nodded_98 (by decide) (fun c19 => ?_) (fun c19 => ?_)
      · replace h := h.1 c19
        obtain ⟨x20, ex20⟩ : ∃ y : Int32, y = v7 + (1 : Int32) := ⟨_, rfl⟩
        replace h := h x20 ex20
        refine q_iinc C x20 7 [(7, .int x20), (0, .ref (qa Y 0)), (1, .int v1), (2, .int v2), (3, .int v3), (4, .int v4), (5, .int v5), (6, .int v6), (8, .int v8)] dX8_nodded_104 rfl (by rw [ex20]; rfl) (by decide) rfl ?_
        refine q_sub (lv' := [(0, .ref (qa Y 0)), (1, .int v1), (2, .int v2), (3, .int v3), (4, .int v4), (5, .int v5), (6, .int v6), (7, .int x20), (8, .int v8)]) [1, 2, 3, 4, 5, 6, 7, 0, 8] rfl ?_
        exact b_X8_nodded_J107 C hQ hK63 v1 v2 v3 v4 v5 v6 x20 v8 σ16 h
      · replace h := h.2 c19
        refine q_iload C 8 dX8_nodded_101 rfl ?_
        exact q_iret C hQ dX8_nodded_103 h
theorem b_X8_nodded_L63 {Y : CY} {Z : CZ} (C : cx SC 9 Y Z cX8_nodded RX8 wsX8_nodded (some .int) rmX8_nodded) {Post : Int32 → St → Prop} (hQ : Qi SC Y Z Post)  : ∀ (n : Nat) (v1 : Int32) (v2 : Int32) (v3 : Int32) (v4 : Int32) (v5 : Int32) (v6 : Int32) (v7 : Int32) (v8 : Int32) (σ : St) (h : w_X8_nodded_L63  Post n v1 v2 v3 v4 v5 v6 v7 v8 σ), WW SC 9 Y Z σ 63 [(0, .ref (qa Y 0)), (1, .int v1), (2, .int v2), (3, .int v3), (4, .int v4), (5, .int v5), (6, .int v6), (7, .int v7), (8, .int v8)] [] := by
  intro n
  induction n with
  | zero => intro v1 v2 v3 v4 v5 v6 v7 v8 σ h; exact h.elim
  | succ n ih => intro v1 v2 v3 v4 v5 v6 v7 v8 σ h; exact b_X8_nodded_B63 C hQ  ih v1 v2 v3 v4 v5 v6 v7 v8 σ h
set_option maxHeartbeats 4000000 in
set_option maxRecDepth 100000 in
theorem b_X8_nodded {Y : CY} {Z : CZ} (C : cx SC 9 Y Z cX8_nodded RX8 wsX8_nodded (some .int) rmX8_nodded) {Post : Int32 → St → Prop} (hQ : Qi SC Y Z Post)  (p1 : Int32) (p2 : Int32) (p3 : Int32) (p4 : Int32) (p5 : Int32) (p6 : Int32) (σ : St) (h : w_X8_nodded p1 p2 p3 p4 p5 p6 σ Post) : WW SC 9 Y Z σ 0 [(0, .ref (qa Y 0)), (1, .int p1), (2, .int p2), (3, .int p3), (4, .int p4), (5, .int p5), (6, .int p6)] [] := by
  unfold w_X8_nodded at h
  refine q_iload_n C 1 dX8_nodded_0 rfl ?_
  refine q_iload_n C 2 dX8_nodded_1 rfl ?_
  refine q_callSi (As := [.int p1, .int p2]) (st := []) C (c_X8_isRule Y p1 p2 σ _ h) gX8_nodded_X8_isRule rfl nkX8_isRule rmOk_X8_nodded__X8_isRule rfl (Nat.le_of_ble_eq_true rfl) dX8_nodded_2 rfl (fun x2 σ1 h => ?_)
  refine q_if_eq C 41 dX8_nodded_5 (by decide) (fun c3 => ?_) (fun c3 => ?_)
  · replace h := h.1 c3
    refine q_ldc (v := (-1000000002 : Int32)) C (List.mem_of_getElem? (i := 1) rfl) dX8_nodded_41 ?_
    exact q_iret C hQ dX8_nodded_43 h
  · replace h := h.2 c3
    refine q_iload_n C 3 dX8_nodded_8 rfl ?_
    refine q_iconst (v := (1 : Int32)) C dX8_nodded_9 (by decide) ?_
    refine q_bipush (v := (60 : Int32)) C dX8_nodded_10 (by decide) ?_
    refine q_callSi (As := [.int p3, .int (1 : Int32), .int (60 : Int32)]) (st := []) C (c_X8_isWithin Y p3 (1 : Int32) (60 : Int32) σ1 _ h) gX8_nodded_X8_isWithin rfl nkX8_isWithin rmOk_X8_nodded__X8_isWithin rfl (Nat.le_of_ble_eq_true rfl) dX8_nodded_12 rfl (fun x5 σ4 h => ?_)
    refine q_if_eq C 41 dX8_nodded_15 (by decide) (fun c6 => ?_) (fun c6 => ?_)
    · replace h := h.1 c6
      refine q_ldc (v := (-1000000002 : Int32)) C (List.mem_of_getElem? (i := 1) rfl) dX8_nodded_41 ?_
      exact q_iret C hQ dX8_nodded_43 h
    · replace h := h.2 c6
      refine q_iload C 4 dX8_nodded_18 rfl ?_
      refine q_iconst (v := (1 : Int32)) C dX8_nodded_20 (by decide) ?_
      refine q_bipush (v := (20 : Int32)) C dX8_nodded_21 (by decide) ?_
      refine q_callSi (As := [.int p4, .int (1 : Int32), .int (20 : Int32)]) (st := []) C (c_X8_isWithin Y p4 (1 : Int32) (20 : Int32) σ4 _ h) gX8_nodded_X8_isWithin rfl nkX8_isWithin rmOk_X8_nodded__X8_isWithin rfl (Nat.le_of_ble_eq_true rfl) dX8_nodded_23 rfl (fun x8 σ7 h => ?_)
      refine q_if_eq C 41 dX8_nodded_26 (by decide) (fun c9 => ?_) (fun c9 => ?_)
      · replace h := h.1 c9
        refine q_ldc (v := (-1000000002 : Int32)) C (List.mem_of_getElem? (i := 1) rfl) dX8_nodded_41 ?_
        exact q_iret C hQ dX8_nodded_43 h
      · replace h := h.2 c9
        refine q_iload C 5 dX8_nodded_29 rfl ?_
        refine q_iconst (v := (0 : Int32)) C dX8_nodded_31 (by decide) ?_
        refine q_sipush (v := (9999 : Int32)) C dX8_nodded_32 (by decide) ?_
        refine q_callSi (As := [.int p5, .int (0 : Int32), .int (9999 : Int32)]) (st := []) C (c_X8_isWithin Y p5 (0 : Int32) (9999 : Int32) σ7 _ h) gX8_nodded_X8_isWithin rfl nkX8_isWithin rmOk_X8_nodded__X8_isWithin rfl (Nat.le_of_ble_eq_true rfl) dX8_nodded_35 rfl (fun x11 σ10 h => ?_)
        refine q_if_ne C 44 dX8_nodded_38 (by decide) (fun c12 => ?_) (fun c12 => ?_)
        · replace h := h.1 c12
          refine q_aload_n C 0 dX8_nodded_44 rfl ?_
          refine q_getr (T := TX8) C kC0 iC0 inX8_nodded_X8 rfl 1 (by decide) (List.mem_of_getElem? (i := 2) rfl) (fun _ h9 => h9) rfl dX8_nodded_45 ?_
          refine q_geti (T := TX3) C kC3 iC3 inX8_nodded_X3 rfl 0 (by decide) (List.mem_of_getElem? (i := 3) rfl) (fun _ h9 => h9) rfl dX8_nodded_48 ?_
          refine q_if_ne C 57 dX8_nodded_51 (by decide) (fun c13 => ?_) (fun c13 => ?_)
          · replace h := h.1 c13
            refine q_iconst (v := (0 : Int32)) C dX8_nodded_57 (by decide) ?_
            refine q_istore C [(7, .int (0 : Int32)), (0, .ref (qa Y 0)), (1, .int p1), (2, .int p2), (3, .int p3), (4, .int p4), (5, .int p5), (6, .int p6)] dX8_nodded_58 (by decide) rfl ?_
            refine q_iconst (v := (0 : Int32)) C dX8_nodded_60 (by decide) ?_
            refine q_istore C [(8, .int (0 : Int32)), (7, .int (0 : Int32)), (0, .ref (qa Y 0)), (1, .int p1), (2, .int p2), (3, .int p3), (4, .int p4), (5, .int p5), (6, .int p6)] dX8_nodded_61 (by decide) rfl ?_
            refine q_sub (lv' := [(0, .ref (qa Y 0)), (1, .int p1), (2, .int p2), (3, .int p3), (4, .int p4), (5, .int p5), (6, .int p6), (7, .int (0 : Int32)), (8, .int (0 : Int32))]) [2, 3, 4, 5, 6, 7, 8, 1, 0] rfl ?_
            exact b_X8_nodded_L63 C hQ FU p1 p2 p3 p4 p5 p6 (0 : Int32) (0 : Int32) σ10 h
          · replace h := h.2 c13
            refine q_ldc (v := (-1000000003 : Int32)) C (List.mem_of_getElem? (i := 4) rfl) dX8_nodded_54 ?_
            exact q_iret C hQ dX8_nodded_56 h
        · replace h := h.2 c12
          refine q_ldc (v := (-1000000002 : Int32)) C (List.mem_of_getElem? (i := 1) rfl) dX8_nodded_41 ?_
          exact q_iret C hQ dX8_nodded_43 h
theorem c_X8_nodded (Y : CY)  (p1 : Int32) (p2 : Int32) (p3 : Int32) (p4 : Int32) (p5 : Int32) (p6 : Int32) (σ : St) (Post : Int32 → St → Prop) (h : w_X8_nodded p1 p2 p3 p4 p5 p6 σ Post) : Ki SC Y yX8_nodded wsX8_nodded rmX8_nodded [.ref (qa Y 0), .int p1, .int p2, .int p3, .int p4, .int p5, .int p6] σ Post :=
  Ki_of (cc := cX8_nodded) (nL := 9) (ret := (some .int)) (by decide +kernel) rfl (Nat.le_of_ble_eq_true rfl) (fun Z C hQ => b_X8_nodded C hQ  p1 p2 p3 p4 p5 p6 σ h)
abbrev rmX8_nods : Room := { frames := 1, cells := 0, slots := 0, locals := 22 }
theorem nkX8_nods : NmOk yX8_nods 2 := by decide +kernel
theorem rmOk_X8_nods__X8_isWithin : RmOk rmX8_isWithin rmX8_nods 3 := ⟨rfl, rfl, by decide, by decide⟩
def w_X8_nods_B30 (Post : Int32 → St → Prop) (K30 : Int32 → Int32 → Int64 → Int32 → St → Prop) (v1 : Int32) (v2 : Int32) (v3 : Int64) (v5 : Int32) (σ : St) : Prop := (v1 ≤ v5 → Post (v3.toInt32) σ) ∧ (¬ v1 ≤ v5 → ∀ x8 : Int64, x8 = ((v3 * ((100 : Int32) - v2).toInt64) / (100 : Int64)) → ∀ x9 : Int32, x9 = v5 + (1 : Int32) → K30 v1 v2 x8 x9 σ)
def w_X8_nods_L30 (Post : Int32 → St → Prop) : Nat → Int32 → Int32 → Int64 → Int32 → St → Prop
  | 0 => fun _ _ _ _ _ => False
  | n + 1 => w_X8_nods_B30   Post (w_X8_nods_L30   Post n)
def w_X8_nods (p1 : Int32) (p2 : Int32) (σ : St) (Post : Int32 → St → Prop) : Prop := w_X8_isWithin p1 (0 : Int32) (99 : Int32) σ (fun x2 σ1 => (x2 = 0 → Post (-1000000002 : Int32) σ1) ∧ (¬ x2 = 0 → w_X8_isWithin p2 (0 : Int32) (100 : Int32) σ1 (fun x5 σ4 => (¬ x5 = 0 → w_X8_nods_L30 Post FU p1 p2 (1000000000 : Int64) (0 : Int32) σ4) ∧ (x5 = 0 → Post (-1000000002 : Int32) σ4))))
set_option maxHeartbeats 4000000 in
set_option maxRecDepth 100000 in
theorem b_X8_nods_B30 {Y : CY} {Z : CZ} (C : cx SC 6 Y Z cX8_nods RX8 wsX8_nods (some .int) rmX8_nods) {Post : Int32 → St → Prop} (hQ : Qi SC Y Z Post)  {K30 : Int32 → Int32 → Int64 → Int32 → St → Prop} (hK30 : ∀ (v1 : Int32) (v2 : Int32) (v3 : Int64) (v5 : Int32) (σ : St), K30 v1 v2 v3 v5 σ → WW SC 6 Y Z σ 30 [(1, .int v1), (2, .int v2), (3, .long v3), (5, .int v5)] []) (v1 : Int32) (v2 : Int32) (v3 : Int64) (v5 : Int32) (σ : St) (h : w_X8_nods_B30  Post K30 v1 v2 v3 v5 σ) : WW SC 6 Y Z σ 30 [(1, .int v1), (2, .int v2), (3, .long v3), (5, .int v5)] [] := by
  unfold w_X8_nods_B30 at h
  refine q_iload C 3 dX8_nods_30 rfl ?_
  refine q_iload_n C 0 dX8_nods_32 rfl ?_
  refine q_icmp_ge C 54 dX8_nods_33 (by decide) (fun c7 => ?_) (fun c7 => ?_)
  · replace h := h.1 c7
    refine q_lload_n C 2 dX8_nods_54 rfl ?_
    refine q_l2i C dX8_nods_55 ?_
    exact q_iret C hQ dX8_nods_56 h
  · replace h := h.2 c7
    refine q_lload_n C 2 dX8_nods_36 rfl ?_
    refine q_bipush (v := (100 : Int32)) C dX8_nods_37 (by decide) ?_
    refine q_iload_n C 1 dX8_nods_39 rfl ?_
    refine q_isub C dX8_nods_40 ?_
    refine q_i2l C dX8_nods_41 ?_
    refine q_lmul C dX8_nods_42 ?_
    refine q_ldc2 (v := (100 : Int64)) C (List.mem_of_getElem? (i := 3) rfl) dX8_nods_43 ?_
    refine q_ldiv C dX8_nods_46 (by decide) ?_
    refine q_topl (fun x8 ex8 => ?_)
    replace h := h x8 ex8
    refine q_lstore_n C [(3, .long x8), (1, .int v1), (2, .int v2), (5, .int v5)] dX8_nods_47 (by decide) rfl ?_
    obtain ⟨x9, ex9⟩ : ∃ y : Int32, y = v5 + (1 : Int32) := ⟨_, rfl⟩
    replace h := h x9 ex9
    refine q_iinc C x9 3 [(5, .int x9), (3, .long x8), (1, .int v1), (2, .int v2)] dX8_nods_48 rfl (by rw [ex9]; rfl) (by decide) rfl ?_
    refine q_goto C 30 dX8_nods_51 (by decide) ?_
    refine q_sub (lv' := [(1, .int v1), (2, .int v2), (3, .long x8), (5, .int x9)]) [2, 3, 1, 0] rfl ?_
    exact hK30 v1 v2 x8 x9 σ h
theorem b_X8_nods_L30 {Y : CY} {Z : CZ} (C : cx SC 6 Y Z cX8_nods RX8 wsX8_nods (some .int) rmX8_nods) {Post : Int32 → St → Prop} (hQ : Qi SC Y Z Post)  : ∀ (n : Nat) (v1 : Int32) (v2 : Int32) (v3 : Int64) (v5 : Int32) (σ : St) (h : w_X8_nods_L30  Post n v1 v2 v3 v5 σ), WW SC 6 Y Z σ 30 [(1, .int v1), (2, .int v2), (3, .long v3), (5, .int v5)] [] := by
  intro n
  induction n with
  | zero => intro v1 v2 v3 v5 σ h; exact h.elim
  | succ n ih => intro v1 v2 v3 v5 σ h; exact b_X8_nods_B30 C hQ  ih v1 v2 v3 v5 σ h
set_option maxHeartbeats 4000000 in
set_option maxRecDepth 100000 in
theorem b_X8_nods {Y : CY} {Z : CZ} (C : cx SC 6 Y Z cX8_nods RX8 wsX8_nods (some .int) rmX8_nods) {Post : Int32 → St → Prop} (hQ : Qi SC Y Z Post)  (p1 : Int32) (p2 : Int32) (σ : St) (h : w_X8_nods p1 p2 σ Post) : WW SC 6 Y Z σ 0 [(0, .ref (qa Y 0)), (1, .int p1), (2, .int p2)] [] := by
  unfold w_X8_nods at h
  refine q_iload_n C 1 dX8_nods_0 rfl ?_
  refine q_iconst (v := (0 : Int32)) C dX8_nods_1 (by decide) ?_
  refine q_bipush (v := (99 : Int32)) C dX8_nods_2 (by decide) ?_
  refine q_callSi (As := [.int p1, .int (0 : Int32), .int (99 : Int32)]) (st := []) C (c_X8_isWithin Y p1 (0 : Int32) (99 : Int32) σ _ h) gX8_nods_X8_isWithin rfl nkX8_isWithin rmOk_X8_nods__X8_isWithin rfl (Nat.le_of_ble_eq_true rfl) dX8_nods_4 rfl (fun x2 σ1 h => ?_)
  refine q_if_eq C 20 dX8_nods_7 (by decide) (fun c3 => ?_) (fun c3 => ?_)
  · replace h := h.1 c3
    refine q_ldc (v := (-1000000002 : Int32)) C (List.mem_of_getElem? (i := 1) rfl) dX8_nods_20 ?_
    exact q_iret C hQ dX8_nods_22 h
  · replace h := h.2 c3
    refine q_iload_n C 2 dX8_nods_10 rfl ?_
    refine q_iconst (v := (0 : Int32)) C dX8_nods_11 (by decide) ?_
    refine q_bipush (v := (100 : Int32)) C dX8_nods_12 (by decide) ?_
    refine q_callSi (As := [.int p2, .int (0 : Int32), .int (100 : Int32)]) (st := []) C (c_X8_isWithin Y p2 (0 : Int32) (100 : Int32) σ1 _ h) gX8_nods_X8_isWithin rfl nkX8_isWithin rmOk_X8_nods__X8_isWithin rfl (Nat.le_of_ble_eq_true rfl) dX8_nods_14 rfl (fun x5 σ4 h => ?_)
    refine q_if_ne C 23 dX8_nods_17 (by decide) (fun c6 => ?_) (fun c6 => ?_)
    · replace h := h.1 c6
      refine q_ldc2 (v := (1000000000 : Int64)) C (List.mem_of_getElem? (i := 2) rfl) dX8_nods_23 ?_
      refine q_lstore_n C [(3, .long (1000000000 : Int64)), (0, .ref (qa Y 0)), (1, .int p1), (2, .int p2)] dX8_nods_26 (by decide) rfl ?_
      refine q_iconst (v := (0 : Int32)) C dX8_nods_27 (by decide) ?_
      refine q_istore C [(5, .int (0 : Int32)), (3, .long (1000000000 : Int64)), (0, .ref (qa Y 0)), (1, .int p1), (2, .int p2)] dX8_nods_28 (by decide) rfl ?_
      refine q_sub (lv' := [(1, .int p1), (2, .int p2), (3, .long (1000000000 : Int64)), (5, .int (0 : Int32))]) [3, 4, 1, 0] rfl ?_
      exact b_X8_nods_L30 C hQ FU p1 p2 (1000000000 : Int64) (0 : Int32) σ4 h
    · replace h := h.2 c6
      refine q_ldc (v := (-1000000002 : Int32)) C (List.mem_of_getElem? (i := 1) rfl) dX8_nods_20 ?_
      exact q_iret C hQ dX8_nods_22 h
theorem c_X8_nods (Y : CY)  (p1 : Int32) (p2 : Int32) (σ : St) (Post : Int32 → St → Prop) (h : w_X8_nods p1 p2 σ Post) : Ki SC Y yX8_nods wsX8_nods rmX8_nods [.ref (qa Y 0), .int p1, .int p2] σ Post :=
  Ki_of (cc := cX8_nods) (nL := 6) (ret := (some .int)) (by decide +kernel) rfl (Nat.le_of_ble_eq_true rfl) (fun Z C hQ => b_X8_nods C hQ  p1 p2 σ h)
abbrev rmX8_periods : Room := { frames := 3, cells := 0, slots := 0, locals := 72 }
theorem nkX8_periods : NmOk yX8_periods 0 := by decide +kernel
theorem rmOk_X8_periods__X5_isPeriod : RmOk rmX5_isPeriod rmX8_periods 6 := ⟨rfl, rfl, by decide, by decide⟩
theorem inX8_periods_X8 : ∀ w ∈ u_ws RX8 TX8 10, w ∈ wsX8_periods := fun _ h => List.mem_cons_of_mem _ (List.mem_append_left _ (List.mem_append_left _ (List.mem_append_right _ h)))
def w_X8_periods_J31 (K4 : Int32 → Int32 → St → Prop) (Post : Int32 → St → Prop) (v1 : Int32) (v2 : Int32) (σ : St) : Prop := ∀ x6 : Int32, x6 = v2 + (1 : Int32) → K4 v1 x6 σ
def w_X8_periods_B4 (Post : Int32 → St → Prop) (K4 : Int32 → Int32 → St → Prop) (v1 : Int32) (v2 : Int32) (σ : St) : Prop := ((9 : Int32) < v2 → Post v1 σ) ∧ (¬ (9 : Int32) < v2 → w_X5_isPeriod v2 σ (fun x3 σ2 => (x3 = 0 → w_X8_periods_J31 K4 Post v1 v2 σ2) ∧ (¬ x3 = 0 → ∀ x5 : Int32, x5 = (v1 ||| ((1 : Int32) <<< (v2 &&& 31))) → w_X8_periods_J31 K4 Post x5 v2 σ2)))
def w_X8_periods_L4 (Post : Int32 → St → Prop) : Nat → Int32 → Int32 → St → Prop
  | 0 => fun _ _ _ => False
  | n + 1 => w_X8_periods_B4   Post (w_X8_periods_L4   Post n)
def w_X8_periods (σ : St) (Post : Int32 → St → Prop) : Prop := w_X8_periods_L4 Post FU (0 : Int32) (1 : Int32) σ
set_option maxHeartbeats 4000000 in
set_option maxRecDepth 100000 in
theorem b_X8_periods_J31 {Y : CY} {Z : CZ} (C : cx SC 3 Y Z cX8_periods RX8 wsX8_periods (some .int) rmX8_periods) {Post : Int32 → St → Prop} (hQ : Qi SC Y Z Post)  {K4 : Int32 → Int32 → St → Prop} (hK4 : ∀ (v1 : Int32) (v2 : Int32) (σ : St), K4 v1 v2 σ → WW SC 3 Y Z σ 4 [(0, .ref (qa Y 0)), (1, .int v1), (2, .int v2)] []) (v1 : Int32) (v2 : Int32) (σ : St) (h : w_X8_periods_J31 K4 Post v1 v2 σ) : WW SC 3 Y Z σ 31 [(0, .ref (qa Y 0)), (1, .int v1), (2, .int v2)] [] := by
  unfold w_X8_periods_J31 at h
  obtain ⟨x6, ex6⟩ : ∃ y : Int32, y = v2 + (1 : Int32) := ⟨_, rfl⟩
  replace h := h x6 ex6
  refine q_iinc C x6 2 [(2, .int x6), (0, .ref (qa Y 0)), (1, .int v1)] dX8_periods_31 rfl (by rw [ex6]; rfl) (by decide) rfl ?_
  refine q_goto C 4 dX8_periods_34 (by decide) ?_
  refine q_sub (lv' := [(0, .ref (qa Y 0)), (1, .int v1), (2, .int x6)]) [1, 2, 0] rfl ?_
  exact hK4 v1 x6 σ h
set_option maxHeartbeats 4000000 in
set_option maxRecDepth 100000 in
theorem b_X8_periods_B4 {Y : CY} {Z : CZ} (C : cx SC 3 Y Z cX8_periods RX8 wsX8_periods (some .int) rmX8_periods) {Post : Int32 → St → Prop} (hQ : Qi SC Y Z Post)  {K4 : Int32 → Int32 → St → Prop} (hK4 : ∀ (v1 : Int32) (v2 : Int32) (σ : St), K4 v1 v2 σ → WW SC 3 Y Z σ 4 [(0, .ref (qa Y 0)), (1, .int v1), (2, .int v2)] []) (v1 : Int32) (v2 : Int32) (σ : St) (h : w_X8_periods_B4  Post K4 v1 v2 σ) : WW SC 3 Y Z σ 4 [(0, .ref (qa Y 0)), (1, .int v1), (2, .int v2)] [] := by
  unfold w_X8_periods_B4 at h
  refine q_iload_n C 2 dX8_periods_4 rfl ?_
  refine q_bipush (v := (9 : Int32)) C dX8_periods_5 (by decide) ?_
  refine q_icmp_gt C 37 dX8_periods_7 (by decide) (fun c1 => ?_) (fun c1 => ?_)
  · replace h := h.1 c1
    refine q_iload_n C 1 dX8_periods_37 rfl ?_
    exact q_iret C hQ dX8_periods_38 h
  · replace h := h.2 c1
    refine q_aload_n C 0 dX8_periods_10 rfl ?_
    refine q_getr (T := TX8) C kC0 iC0 inX8_periods_X8 rfl 6 (by decide) (List.mem_of_getElem? (i := 1) rfl) (fun _ h9 => h9) rfl dX8_periods_11 ?_
    refine q_aload_n C 0 dX8_periods_14 rfl ?_
    refine q_getr (T := TX8) C kC0 iC0 inX8_periods_X8 rfl 1 (by decide) (List.mem_of_getElem? (i := 2) rfl) (fun _ h9 => h9) rfl dX8_periods_15 ?_
    refine q_iload_n C 2 dX8_periods_18 rfl ?_
    refine q_callVi (As := [.ref (qa Y 3), .int v2]) (st := []) C (c_X5_isPeriod Y v2 σ _ h) gX8_periods_X5_isPeriod rfl ⟨rfl, nkX5_isPeriod⟩ rmOk_X8_periods__X5_isPeriod kC36 iC36 rfl rfl (Nat.le_of_ble_eq_true rfl) dX8_periods_19 rfl (fun x3 σ2 h => ?_)
    refine q_if_eq C 31 dX8_periods_22 (by decide) (fun c4 => ?_) (fun c4 => ?_)
    · replace h := h.1 c4
      exact b_X8_periods_J31 C hQ hK4 v1 v2 σ2 h
    · replace h := h.2 c4
      refine q_iload_n C 1 dX8_periods_25 rfl ?_
      refine q_iconst (v := (1 : Int32)) C dX8_periods_26 (by decide) ?_
      refine q_iload_n C 2 dX8_periods_27 rfl ?_
      refine q_ishl C dX8_periods_28 ?_
      refine q_ior C dX8_periods_29 ?_
      refine q_topi (fun x5 ex5 => ?_)
      replace h := h x5 ex5
      refine q_istore_n C [(1, .int x5), (0, .ref (qa Y 0)), (2, .int v2)] dX8_periods_30 (by decide) rfl ?_
      refine q_sub (lv' := [(0, .ref (qa Y 0)), (1, .int x5), (2, .int v2)]) [1, 0, 2] rfl ?_
      exact b_X8_periods_J31 C hQ hK4 x5 v2 σ2 h
theorem b_X8_periods_L4 {Y : CY} {Z : CZ} (C : cx SC 3 Y Z cX8_periods RX8 wsX8_periods (some .int) rmX8_periods) {Post : Int32 → St → Prop} (hQ : Qi SC Y Z Post)  : ∀ (n : Nat) (v1 : Int32) (v2 : Int32) (σ : St) (h : w_X8_periods_L4  Post n v1 v2 σ), WW SC 3 Y Z σ 4 [(0, .ref (qa Y 0)), (1, .int v1), (2, .int v2)] [] := by
  intro n
  induction n with
  | zero => intro v1 v2 σ h; exact h.elim
  | succ n ih => intro v1 v2 σ h; exact b_X8_periods_B4 C hQ  ih v1 v2 σ h
set_option maxHeartbeats 4000000 in
set_option maxRecDepth 100000 in
theorem b_X8_periods {Y : CY} {Z : CZ} (C : cx SC 3 Y Z cX8_periods RX8 wsX8_periods (some .int) rmX8_periods) {Post : Int32 → St → Prop} (hQ : Qi SC Y Z Post)  (σ : St) (h : w_X8_periods  σ Post) : WW SC 3 Y Z σ 0 [(0, .ref (qa Y 0))] [] := by
  unfold w_X8_periods at h
  refine q_iconst (v := (0 : Int32)) C dX8_periods_0 (by decide) ?_
  refine q_istore_n C [(1, .int (0 : Int32)), (0, .ref (qa Y 0))] dX8_periods_1 (by decide) rfl ?_
  refine q_iconst (v := (1 : Int32)) C dX8_periods_2 (by decide) ?_
  refine q_istore_n C [(2, .int (1 : Int32)), (1, .int (0 : Int32)), (0, .ref (qa Y 0))] dX8_periods_3 (by decide) rfl ?_
  refine q_sub (lv' := [(0, .ref (qa Y 0)), (1, .int (0 : Int32)), (2, .int (1 : Int32))]) [2, 1, 0] rfl ?_
  exact b_X8_periods_L4 C hQ FU (0 : Int32) (1 : Int32) σ h
theorem c_X8_periods (Y : CY)  (σ : St) (Post : Int32 → St → Prop) (h : w_X8_periods  σ Post) : Ki SC Y yX8_periods wsX8_periods rmX8_periods [.ref (qa Y 0)] σ Post :=
  Ki_of (cc := cX8_periods) (nL := 3) (ret := (some .int)) (by decide +kernel) rfl (Nat.le_of_ble_eq_true rfl) (fun Z C hQ => b_X8_periods C hQ  σ h)
abbrev rmX8_plate : Room := { frames := 2, cells := 0, slots := 0, locals := 46 }
theorem nkX8_plate : NmOk yX8_plate 0 := by decide +kernel
theorem rmOk_X8_plate__X1_push : RmOk rmX1_push rmX8_plate 3 := ⟨rfl, rfl, by decide, by decide⟩
theorem rmOk_X8_plate__X4_tailLength : RmOk rmX4_tailLength rmX8_plate 1 := ⟨rfl, rfl, by decide, by decide⟩
theorem rmOk_X8_plate__X4_takeFreshPlate : RmOk rmX4_takeFreshPlate rmX8_plate 1 := ⟨rfl, rfl, by decide, by decide⟩
theorem inX8_plate_X3 : ∀ w ∈ u_ws RX3 TX3 12, w ∈ wsX8_plate := fun _ h => List.mem_cons_of_mem _ (List.mem_append_left _ (List.mem_append_left _ (List.mem_append_right _ h)))
theorem inX8_plate_X8 : ∀ w ∈ u_ws RX8 TX8 10, w ∈ wsX8_plate := fun _ h => List.mem_cons_of_mem _ (List.mem_append_left _ (List.mem_append_left _ (List.mem_append_left _ (List.mem_append_right _ h))))
def w_X8_plate (σ : St) (Post : Int32 → St → Prop) : Prop := (¬ (σ 3 0) = 0 → w_X1_push σ (fun σ2 => w_X4_tailLength 11 σ2 (fun x4 σ3 => w_X4_takeFreshPlate 11 σ3 (fun σ5 => Post x4 σ5)))) ∧ ((σ 3 0) = 0 → Post (-1000000003 : Int32) σ)
set_option maxHeartbeats 4000000 in
set_option maxRecDepth 100000 in
theorem b_X8_plate {Y : CY} {Z : CZ} (C : cx SC 2 Y Z cX8_plate RX8 wsX8_plate (some .int) rmX8_plate) {Post : Int32 → St → Prop} (hQ : Qi SC Y Z Post)  (σ : St) (h : w_X8_plate  σ Post) : WW SC 2 Y Z σ 0 [(0, .ref (qa Y 0))] [] := by
  unfold w_X8_plate at h
  refine q_aload_n C 0 dX8_plate_0 rfl ?_
  refine q_getr (T := TX8) C kC0 iC0 inX8_plate_X8 rfl 1 (by decide) (List.mem_of_getElem? (i := 1) rfl) (fun _ h9 => h9) rfl dX8_plate_1 ?_
  refine q_geti (T := TX3) C kC3 iC3 inX8_plate_X3 rfl 0 (by decide) (List.mem_of_getElem? (i := 2) rfl) (fun _ h9 => h9) rfl dX8_plate_4 ?_
  refine q_if_ne C 13 dX8_plate_7 (by decide) (fun c1 => ?_) (fun c1 => ?_)
  · replace h := h.1 c1
    refine q_aload_n C 0 dX8_plate_13 rfl ?_
    refine q_getr (T := TX8) C kC0 iC0 inX8_plate_X8 rfl 5 (by decide) (List.mem_of_getElem? (i := 4) rfl) (fun _ h9 => h9) rfl dX8_plate_14 ?_
    refine q_aload_n C 0 dX8_plate_17 rfl ?_
    refine q_getr (T := TX8) C kC0 iC0 inX8_plate_X8 rfl 3 (by decide) (List.mem_of_getElem? (i := 5) rfl) (fun _ h9 => h9) rfl dX8_plate_18 ?_
    refine q_callVv (As := [.ref (qa Y 11)]) (st := []) C (c_X1_push Y σ _ h) gX8_plate_X1_push rfl ⟨rfl, nkX1_push⟩ rmOk_X8_plate__X1_push kC14 iC14 rfl rfl (Nat.le_of_ble_eq_true rfl) dX8_plate_21 rfl (fun σ2 h => ?_)
    refine q_aload_n C 0 dX8_plate_24 rfl ?_
    refine q_getr (T := TX8) C kC0 iC0 inX8_plate_X8 rfl 3 (by decide) (List.mem_of_getElem? (i := 5) rfl) (fun _ h9 => h9) rfl dX8_plate_25 ?_
    refine q_callVi (As := []) (st := []) C (c_X4_tailLength Y kC11 iC11 σ2 _ h) gX8_plate_X4_tailLength rfl ⟨rfl, nkX4_tailLength⟩ rmOk_X8_plate__X4_tailLength kC11 iC11 rfl rfl (Nat.le_of_ble_eq_true rfl) dX8_plate_28 rfl (fun x4 σ3 h => ?_)
    refine q_istore_n C [(1, .int x4), (0, .ref (qa Y 0))] dX8_plate_31 (by decide) rfl ?_
    refine q_aload_n C 1 dX8_plate_32 rfl ?_
    refine q_getr (T := TX8) C kC0 iC0 inX8_plate_X8 rfl 3 (by decide) (List.mem_of_getElem? (i := 5) rfl) (fun _ h9 => h9) rfl dX8_plate_33 ?_
    refine q_callVv (As := []) (st := []) C (c_X4_takeFreshPlate Y kC11 iC11 σ3 _ h) gX8_plate_X4_takeFreshPlate rfl ⟨rfl, nkX4_takeFreshPlate⟩ rmOk_X8_plate__X4_takeFreshPlate kC11 iC11 rfl rfl (Nat.le_of_ble_eq_true rfl) dX8_plate_36 rfl (fun σ5 h => ?_)
    refine q_iload_n C 0 dX8_plate_39 rfl ?_
    exact q_iret C hQ dX8_plate_40 h
  · replace h := h.2 c1
    refine q_ldc (v := (-1000000003 : Int32)) C (List.mem_of_getElem? (i := 3) rfl) dX8_plate_10 ?_
    exact q_iret C hQ dX8_plate_12 h
theorem c_X8_plate (Y : CY)  (σ : St) (Post : Int32 → St → Prop) (h : w_X8_plate  σ Post) : Ki SC Y yX8_plate wsX8_plate rmX8_plate [.ref (qa Y 0)] σ Post :=
  Ki_of (cc := cX8_plate) (nL := 2) (ret := (some .int)) (by decide +kernel) rfl (Nat.le_of_ble_eq_true rfl) (fun Z C hQ => b_X8_plate C hQ  σ h)
abbrev rmX8_press : Room := { frames := 2, cells := 0, slots := 0, locals := 46 }
theorem nkX8_press : NmOk yX8_press 2 := by decide +kernel
theorem rmOk_X8_press__X1_push : RmOk rmX1_push rmX8_press 3 := ⟨rfl, rfl, by decide, by decide⟩
theorem rmOk_X8_press__X8_cannotGoOn : RmOk rmX8_cannotGoOn rmX8_press 1 := ⟨rfl, rfl, by decide, by decide⟩
theorem rmOk_X8_press__X8_isWithin : RmOk rmX8_isWithin rmX8_press 3 := ⟨rfl, rfl, by decide, by decide⟩
theorem inX8_press_X4 : ∀ w ∈ u_ws RX4 TX4 12, w ∈ wsX8_press := fun _ h => List.mem_cons_of_mem _ (List.mem_append_left _ (List.mem_append_left _ (List.mem_append_right _ h)))
theorem inX8_press_X8 : ∀ w ∈ u_ws RX8 TX8 10, w ∈ wsX8_press := fun _ h => List.mem_cons_of_mem _ (List.mem_append_left _ (List.mem_append_left _ (List.mem_append_left _ (List.mem_append_right _ h))))
def w_X8_press (p1 : Int32) (p2 : Int32) (σ : St) (Post : Int32 → St → Prop) : Prop := w_X8_isWithin p1 (-99 : Int32) (99 : Int32) σ (fun x2 σ1 => (x2 = 0 → Post (-1000000002 : Int32) σ1) ∧ (¬ x2 = 0 → w_X8_isWithin p2 (-99 : Int32) (99 : Int32) σ1 (fun x5 σ4 => (¬ x5 = 0 → w_X8_cannotGoOn σ4 (fun x8 σ7 => (x8 = 0 → w_X1_push σ7 (fun σ10 => ∀ σ11 : St, σ11 = up σ10 11 5 p1 → ∀ σ12 : St, σ12 = up σ11 11 6 p2 → Post (1 : Int32) σ12)) ∧ (¬ x8 = 0 → Post (-1000000003 : Int32) σ7))) ∧ (x5 = 0 → Post (-1000000002 : Int32) σ4))))
set_option maxHeartbeats 4000000 in
set_option maxRecDepth 100000 in
theorem b_X8_press {Y : CY} {Z : CZ} (C : cx SC 3 Y Z cX8_press RX8 wsX8_press (some .int) rmX8_press) {Post : Int32 → St → Prop} (hQ : Qi SC Y Z Post)  (p1 : Int32) (p2 : Int32) (σ : St) (h : w_X8_press p1 p2 σ Post) : WW SC 3 Y Z σ 0 [(0, .ref (qa Y 0)), (1, .int p1), (2, .int p2)] [] := by
  unfold w_X8_press at h
  refine q_iload_n C 1 dX8_press_0 rfl ?_
  refine q_bipush (v := (-99 : Int32)) C dX8_press_1 (by decide) ?_
  refine q_bipush (v := (99 : Int32)) C dX8_press_3 (by decide) ?_
  refine q_callSi (As := [.int p1, .int (-99 : Int32), .int (99 : Int32)]) (st := []) C (c_X8_isWithin Y p1 (-99 : Int32) (99 : Int32) σ _ h) gX8_press_X8_isWithin rfl nkX8_isWithin rmOk_X8_press__X8_isWithin rfl (Nat.le_of_ble_eq_true rfl) dX8_press_5 rfl (fun x2 σ1 h => ?_)
  refine q_if_eq C 22 dX8_press_8 (by decide) (fun c3 => ?_) (fun c3 => ?_)
  · replace h := h.1 c3
    refine q_ldc (v := (-1000000002 : Int32)) C (List.mem_of_getElem? (i := 1) rfl) dX8_press_22 ?_
    exact q_iret C hQ dX8_press_24 h
  · replace h := h.2 c3
    refine q_iload_n C 2 dX8_press_11 rfl ?_
    refine q_bipush (v := (-99 : Int32)) C dX8_press_12 (by decide) ?_
    refine q_bipush (v := (99 : Int32)) C dX8_press_14 (by decide) ?_
    refine q_callSi (As := [.int p2, .int (-99 : Int32), .int (99 : Int32)]) (st := []) C (c_X8_isWithin Y p2 (-99 : Int32) (99 : Int32) σ1 _ h) gX8_press_X8_isWithin rfl nkX8_isWithin rmOk_X8_press__X8_isWithin rfl (Nat.le_of_ble_eq_true rfl) dX8_press_16 rfl (fun x5 σ4 h => ?_)
    refine q_if_ne C 25 dX8_press_19 (by decide) (fun c6 => ?_) (fun c6 => ?_)
    · replace h := h.1 c6
      refine q_aload_n C 0 dX8_press_25 rfl ?_
      refine q_callVi (As := []) (st := []) C (c_X8_cannotGoOn Y σ4 _ h) gX8_press_X8_cannotGoOn rfl ⟨rfl, nkX8_cannotGoOn⟩ rmOk_X8_press__X8_cannotGoOn kC0 iC0 rfl rfl (Nat.le_of_ble_eq_true rfl) dX8_press_26 rfl (fun x8 σ7 h => ?_)
      refine q_if_eq C 35 dX8_press_29 (by decide) (fun c9 => ?_) (fun c9 => ?_)
      · replace h := h.1 c9
        refine q_aload_n C 0 dX8_press_35 rfl ?_
        refine q_getr (T := TX8) C kC0 iC0 inX8_press_X8 rfl 5 (by decide) (List.mem_of_getElem? (i := 3) rfl) (fun _ h9 => h9) rfl dX8_press_36 ?_
        refine q_aload_n C 0 dX8_press_39 rfl ?_
        refine q_getr (T := TX8) C kC0 iC0 inX8_press_X8 rfl 3 (by decide) (List.mem_of_getElem? (i := 4) rfl) (fun _ h9 => h9) rfl dX8_press_40 ?_
        refine q_callVv (As := [.ref (qa Y 11)]) (st := []) C (c_X1_push Y σ7 _ h) gX8_press_X1_push rfl ⟨rfl, nkX1_push⟩ rmOk_X8_press__X1_push kC14 iC14 rfl rfl (Nat.le_of_ble_eq_true rfl) dX8_press_43 rfl (fun σ10 h => ?_)
        refine q_aload_n C 0 dX8_press_46 rfl ?_
        refine q_getr (T := TX8) C kC0 iC0 inX8_press_X8 rfl 3 (by decide) (List.mem_of_getElem? (i := 4) rfl) (fun _ h9 => h9) rfl dX8_press_47 ?_
        refine q_iload_n C 1 dX8_press_50 rfl ?_
        refine q_puti (T := TX4) C kC11 iC11 inX8_press_X4 rfl tyX4 tyX4_ok nmX4 5 (by decide) (List.mem_of_getElem? (i := 5) rfl) (fun _ h9 => h9) rfl dgN rfl (ni_n _) (ni_f _) dX8_press_51 ?_
        refine q_nmS (fun σ11 eσ11 => ?_)
        replace h := h σ11 eσ11
        refine q_aload_n C 0 dX8_press_54 rfl ?_
        refine q_getr (T := TX8) C kC0 iC0 inX8_press_X8 rfl 3 (by decide) (List.mem_of_getElem? (i := 4) rfl) (fun _ h9 => h9) rfl dX8_press_55 ?_
        refine q_iload_n C 2 dX8_press_58 rfl ?_
        refine q_puti (T := TX4) C kC11 iC11 inX8_press_X4 rfl tyX4 tyX4_ok nmX4 6 (by decide) (List.mem_of_getElem? (i := 6) rfl) (fun _ h9 => h9) rfl dgN rfl (ni_n _) (ni_f _) dX8_press_59 ?_
        refine q_nmS (fun σ12 eσ12 => ?_)
        replace h := h σ12 eσ12
        refine q_iconst (v := (1 : Int32)) C dX8_press_62 (by decide) ?_
        exact q_iret C hQ dX8_press_63 h
      · replace h := h.2 c9
        refine q_ldc (v := (-1000000003 : Int32)) C (List.mem_of_getElem? (i := 2) rfl) dX8_press_32 ?_
        exact q_iret C hQ dX8_press_34 h
    · replace h := h.2 c6
      refine q_ldc (v := (-1000000002 : Int32)) C (List.mem_of_getElem? (i := 1) rfl) dX8_press_22 ?_
      exact q_iret C hQ dX8_press_24 h
theorem c_X8_press (Y : CY)  (p1 : Int32) (p2 : Int32) (σ : St) (Post : Int32 → St → Prop) (h : w_X8_press p1 p2 σ Post) : Ki SC Y yX8_press wsX8_press rmX8_press [.ref (qa Y 0), .int p1, .int p2] σ Post :=
  Ki_of (cc := cX8_press) (nL := 3) (ret := (some .int)) (by decide +kernel) rfl (Nat.le_of_ble_eq_true rfl) (fun Z C hQ => b_X8_press C hQ  p1 p2 σ h)
abbrev rmX8_rule : Room := { frames := 4, cells := 0, slots := 0, locals := 90 }
theorem nkX8_rule : NmOk yX8_rule 3 := by decide +kernel
theorem rmOk_X8_rule__X1_push : RmOk rmX1_push rmX8_rule 3 := ⟨rfl, rfl, by decide, by decide⟩
theorem rmOk_X8_rule__X4_passByRule : RmOk rmX4_passByRule rmX8_rule 5 := ⟨rfl, rfl, by decide, by decide⟩
theorem rmOk_X8_rule__X8_isRule : RmOk rmX8_isRule rmX8_rule 2 := ⟨rfl, rfl, by decide, by decide⟩
theorem rmOk_X8_rule__X8_refusalOfMinutes : RmOk rmX8_refusalOfMinutes rmX8_rule 2 := ⟨rfl, rfl, by decide, by decide⟩
theorem inX8_rule_X4 : ∀ w ∈ u_ws RX4 TX4 12, w ∈ wsX8_rule := fun _ h => List.mem_cons_of_mem _ (List.mem_append_left _ (List.mem_append_left _ (List.mem_append_right _ h)))
theorem inX8_rule_X8 : ∀ w ∈ u_ws RX8 TX8 10, w ∈ wsX8_rule := fun _ h => List.mem_cons_of_mem _ (List.mem_append_left _ (List.mem_append_left _ (List.mem_append_left _ (List.mem_append_right _ h))))
def w_X8_rule_J78 (K43 : Int32 → Int32 → Int32 → Int32 → Int32 → St → Prop) (Post : Int32 → St → Prop) (v1 : Int32) (v2 : Int32) (v3 : Int32) (v5 : Int32) (v6 : Int32) (σ : St) : Prop := ∀ x14 : Int32, x14 = v6 + (1 : Int32) → K43 v1 v2 v3 v5 x14 σ
def w_X8_rule_B43 (Post : Int32 → St → Prop) (K43 : Int32 → Int32 → Int32 → Int32 → Int32 → St → Prop) (v1 : Int32) (v2 : Int32) (v3 : Int32) (v5 : Int32) (v6 : Int32) (σ : St) : Prop := (v3 ≤ v6 → Post v5 σ) ∧ (¬ v3 ≤ v6 → (¬ (σ 11 3) = 0 → Post v5 σ) ∧ ((σ 11 3) = 0 → w_X4_passByRule 11 v1 v2 σ (fun x11 σ10 => (x11 = 0 → w_X8_rule_J78 K43 Post v1 v2 v3 v5 v6 σ10) ∧ (¬ x11 = 0 → ∀ x13 : Int32, x13 = v5 + (1 : Int32) → w_X8_rule_J78 K43 Post v1 v2 v3 x13 v6 σ10))))
def w_X8_rule_L43 (Post : Int32 → St → Prop) : Nat → Int32 → Int32 → Int32 → Int32 → Int32 → St → Prop
  | 0 => fun _ _ _ _ _ _ => False
  | n + 1 => w_X8_rule_B43   Post (w_X8_rule_L43   Post n)
def w_X8_rule (p1 : Int32) (p2 : Int32) (p3 : Int32) (σ : St) (Post : Int32 → St → Prop) : Prop := w_X8_isRule p1 p2 σ (fun x2 σ1 => (¬ x2 = 0 → w_X8_refusalOfMinutes p3 σ1 (fun x5 σ4 => (x5 = 0 → w_X1_push σ4 (fun σ7 => w_X8_rule_L43 Post FU p1 p2 p3 (0 : Int32) (0 : Int32) σ7)) ∧ (¬ x5 = 0 → Post x5 σ4))) ∧ (x2 = 0 → Post (-1000000002 : Int32) σ1))
set_option maxHeartbeats 4000000 in
set_option maxRecDepth 100000 in
theorem b_X8_rule_J78 {Y : CY} {Z : CZ} (C : cx SC 7 Y Z cX8_rule RX8 wsX8_rule (some .int) rmX8_rule) {Post : Int32 → St → Prop} (hQ : Qi SC Y Z Post)  {K43 : Int32 → Int32 → Int32 → Int32 → Int32 → St → Prop} (hK43 : ∀ (v1 : Int32) (v2 : Int32) (v3 : Int32) (v5 : Int32) (v6 : Int32) (σ : St), K43 v1 v2 v3 v5 v6 σ → WW SC 7 Y Z σ 43 [(0, .ref (qa Y 0)), (1, .int v1), (2, .int v2), (3, .int v3), (5, .int v5), (6, .int v6)] []) (v1 : Int32) (v2 : Int32) (v3 : Int32) (v5 : Int32) (v6 : Int32) (σ : St) (h : w_X8_rule_J78 K43 Post v1 v2 v3 v5 v6 σ) : WW SC 7 Y Z σ 78 [(0, .ref (qa Y 0)), (1, .int v1), (2, .int v2), (3, .int v3), (5, .int v5), (6, .int v6)] [] := by
  unfold w_X8_rule_J78 at h
  obtain ⟨x14, ex14⟩ : ∃ y : Int32, y = v6 + (1 : Int32) := ⟨_, rfl⟩
  replace h := h x14 ex14
  refine q_iinc C x14 5 [(6, .int x14), (0, .ref (qa Y 0)), (1, .int v1), (2, .int v2), (3, .int v3), (5, .int v5)] dX8_rule_78 rfl (by rw [ex14]; rfl) (by decide) rfl ?_
  refine q_goto C 43 dX8_rule_81 (by decide) ?_
  refine q_sub (lv' := [(0, .ref (qa Y 0)), (1, .int v1), (2, .int v2), (3, .int v3), (5, .int v5), (6, .int x14)]) [1, 2, 3, 4, 5, 0] rfl ?_
  exact hK43 v1 v2 v3 v5 x14 σ h
set_option maxHeartbeats 4000000 in
set_option maxRecDepth 100000 in
theorem b_X8_rule_B43 {Y : CY} {Z : CZ} (C : cx SC 7 Y Z cX8_rule RX8 wsX8_rule (some .int) rmX8_rule) {Post : Int32 → St → Prop} (hQ : Qi SC Y Z Post)  {K43 : Int32 → Int32 → Int32 → Int32 → Int32 → St → Prop} (hK43 : ∀ (v1 : Int32) (v2 : Int32) (v3 : Int32) (v5 : Int32) (v6 : Int32) (σ : St), K43 v1 v2 v3 v5 v6 σ → WW SC 7 Y Z σ 43 [(0, .ref (qa Y 0)), (1, .int v1), (2, .int v2), (3, .int v3), (5, .int v5), (6, .int v6)] []) (v1 : Int32) (v2 : Int32) (v3 : Int32) (v5 : Int32) (v6 : Int32) (σ : St) (h : w_X8_rule_B43  Post K43 v1 v2 v3 v5 v6 σ) : WW SC 7 Y Z σ 43 [(0, .ref (qa Y 0)), (1, .int v1), (2, .int v2), (3, .int v3), (5, .int v5), (6, .int v6)] [] := by
  unfold w_X8_rule_B43 at h
  refine q_iload C 5 dX8_rule_43 rfl ?_
  refine q_iload_n C 3 dX8_rule_45 rfl ?_
  refine q_icmp_ge C 84 dX8_rule_46 (by decide) (fun c8 => ?_) (fun c8 => ?_)
  · replace h := h.1 c8
    refine q_iload C 4 dX8_rule_84 rfl ?_
    exact q_iret C hQ dX8_rule_86 h
  · replace h := h.2 c8
    refine q_aload_n C 0 dX8_rule_49 rfl ?_
    refine q_getr (T := TX8) C kC0 iC0 inX8_rule_X8 rfl 3 (by decide) (List.mem_of_getElem? (i := 3) rfl) (fun _ h9 => h9) rfl dX8_rule_50 ?_
    refine q_geti (T := TX4) C kC11 iC11 inX8_rule_X4 rfl 3 (by decide) (List.mem_of_getElem? (i := 4) rfl) (fun _ h9 => h9) rfl dX8_rule_53 ?_
    refine q_if_ne C 84 dX8_rule_56 (by decide) (fun c9 => ?_) (fun c9 => ?_)
    · replace h := h.1 c9
      refine q_iload C 4 dX8_rule_84 rfl ?_
      exact q_iret C hQ dX8_rule_86 h
    · replace h := h.2 c9
      refine q_aload_n C 0 dX8_rule_59 rfl ?_
      refine q_getr (T := TX8) C kC0 iC0 inX8_rule_X8 rfl 3 (by decide) (List.mem_of_getElem? (i := 3) rfl) (fun _ h9 => h9) rfl dX8_rule_60 ?_
      refine q_aload_n C 0 dX8_rule_63 rfl ?_
      refine q_getr (T := TX8) C kC0 iC0 inX8_rule_X8 rfl 1 (by decide) (List.mem_of_getElem? (i := 5) rfl) (fun _ h9 => h9) rfl dX8_rule_64 ?_
      refine q_iload_n C 1 dX8_rule_67 rfl ?_
      refine q_iload_n C 2 dX8_rule_68 rfl ?_
      refine q_callVi (As := [.ref (qa Y 3), .int v1, .int v2]) (st := []) C (c_X4_passByRule Y kC11 iC11 v1 v2 σ _ h) gX8_rule_X4_passByRule rfl ⟨rfl, nkX4_passByRule⟩ rmOk_X8_rule__X4_passByRule kC11 iC11 rfl rfl (Nat.le_of_ble_eq_true rfl) dX8_rule_69 rfl (fun x11 σ10 h => ?_)
      refine q_if_eq C 78 dX8_rule_72 (by decide) (fun c12 => ?_) (fun c12 => ?_)
      · replace h := h.1 c12
        exact b_X8_rule_J78 C hQ hK43 v1 v2 v3 v5 v6 σ10 h
      · replace h := h.2 c12
        obtain ⟨x13, ex13⟩ : ∃ y : Int32, y = v5 + (1 : Int32) := ⟨_, rfl⟩
        replace h := h x13 ex13
        refine q_iinc C x13 4 [(5, .int x13), (0, .ref (qa Y 0)), (1, .int v1), (2, .int v2), (3, .int v3), (6, .int v6)] dX8_rule_75 rfl (by rw [ex13]; rfl) (by decide) rfl ?_
        refine q_sub (lv' := [(0, .ref (qa Y 0)), (1, .int v1), (2, .int v2), (3, .int v3), (5, .int x13), (6, .int v6)]) [1, 2, 3, 4, 0, 5] rfl ?_
        exact b_X8_rule_J78 C hQ hK43 v1 v2 v3 x13 v6 σ10 h
theorem b_X8_rule_L43 {Y : CY} {Z : CZ} (C : cx SC 7 Y Z cX8_rule RX8 wsX8_rule (some .int) rmX8_rule) {Post : Int32 → St → Prop} (hQ : Qi SC Y Z Post)  : ∀ (n : Nat) (v1 : Int32) (v2 : Int32) (v3 : Int32) (v5 : Int32) (v6 : Int32) (σ : St) (h : w_X8_rule_L43  Post n v1 v2 v3 v5 v6 σ), WW SC 7 Y Z σ 43 [(0, .ref (qa Y 0)), (1, .int v1), (2, .int v2), (3, .int v3), (5, .int v5), (6, .int v6)] [] := by
  intro n
  induction n with
  | zero => intro v1 v2 v3 v5 v6 σ h; exact h.elim
  | succ n ih => intro v1 v2 v3 v5 v6 σ h; exact b_X8_rule_B43 C hQ  ih v1 v2 v3 v5 v6 σ h
set_option maxHeartbeats 4000000 in
set_option maxRecDepth 100000 in
theorem b_X8_rule {Y : CY} {Z : CZ} (C : cx SC 7 Y Z cX8_rule RX8 wsX8_rule (some .int) rmX8_rule) {Post : Int32 → St → Prop} (hQ : Qi SC Y Z Post)  (p1 : Int32) (p2 : Int32) (p3 : Int32) (σ : St) (h : w_X8_rule p1 p2 p3 σ Post) : WW SC 7 Y Z σ 0 [(0, .ref (qa Y 0)), (1, .int p1), (2, .int p2), (3, .int p3)] [] := by
  unfold w_X8_rule at h
  refine q_iload_n C 1 dX8_rule_0 rfl ?_
  refine q_iload_n C 2 dX8_rule_1 rfl ?_
  refine q_callSi (As := [.int p1, .int p2]) (st := []) C (c_X8_isRule Y p1 p2 σ _ h) gX8_rule_X8_isRule rfl nkX8_isRule rmOk_X8_rule__X8_isRule rfl (Nat.le_of_ble_eq_true rfl) dX8_rule_2 rfl (fun x2 σ1 h => ?_)
  refine q_if_ne C 11 dX8_rule_5 (by decide) (fun c3 => ?_) (fun c3 => ?_)
  · replace h := h.1 c3
    refine q_aload_n C 0 dX8_rule_11 rfl ?_
    refine q_iload_n C 3 dX8_rule_12 rfl ?_
    refine q_callVi (As := [.int p3]) (st := []) C (c_X8_refusalOfMinutes Y p3 σ1 _ h) gX8_rule_X8_refusalOfMinutes rfl ⟨rfl, nkX8_refusalOfMinutes⟩ rmOk_X8_rule__X8_refusalOfMinutes kC0 iC0 rfl rfl (Nat.le_of_ble_eq_true rfl) dX8_rule_13 rfl (fun x5 σ4 h => ?_)
    refine q_istore C [(4, .int x5), (0, .ref (qa Y 0)), (1, .int p1), (2, .int p2), (3, .int p3)] dX8_rule_16 (by decide) rfl ?_
    refine q_iload C 0 dX8_rule_18 rfl ?_
    refine q_if_eq C 26 dX8_rule_20 (by decide) (fun c6 => ?_) (fun c6 => ?_)
    · replace h := h.1 c6
      refine q_aload_n C 1 dX8_rule_26 rfl ?_
      refine q_getr (T := TX8) C kC0 iC0 inX8_rule_X8 rfl 5 (by decide) (List.mem_of_getElem? (i := 2) rfl) (fun _ h9 => h9) rfl dX8_rule_27 ?_
      refine q_aload_n C 1 dX8_rule_30 rfl ?_
      refine q_getr (T := TX8) C kC0 iC0 inX8_rule_X8 rfl 3 (by decide) (List.mem_of_getElem? (i := 3) rfl) (fun _ h9 => h9) rfl dX8_rule_31 ?_
      refine q_callVv (As := [.ref (qa Y 11)]) (st := []) C (c_X1_push Y σ4 _ h) gX8_rule_X1_push rfl ⟨rfl, nkX1_push⟩ rmOk_X8_rule__X1_push kC14 iC14 rfl rfl (Nat.le_of_ble_eq_true rfl) dX8_rule_34 rfl (fun σ7 h => ?_)
      refine q_iconst (v := (0 : Int32)) C dX8_rule_37 (by decide) ?_
      refine q_istore C [(5, .int (0 : Int32)), (4, .int x5), (0, .ref (qa Y 0)), (1, .int p1), (2, .int p2), (3, .int p3)] dX8_rule_38 (by decide) rfl ?_
      refine q_iconst (v := (0 : Int32)) C dX8_rule_40 (by decide) ?_
      refine q_istore C [(6, .int (0 : Int32)), (5, .int (0 : Int32)), (4, .int x5), (0, .ref (qa Y 0)), (1, .int p1), (2, .int p2), (3, .int p3)] dX8_rule_41 (by decide) rfl ?_
      refine q_sub (lv' := [(0, .ref (qa Y 0)), (1, .int p1), (2, .int p2), (3, .int p3), (5, .int (0 : Int32)), (6, .int (0 : Int32))]) [3, 4, 5, 6, 1, 0] rfl ?_
      exact b_X8_rule_L43 C hQ FU p1 p2 p3 (0 : Int32) (0 : Int32) σ7 h
    · replace h := h.2 c6
      refine q_iload C 0 dX8_rule_23 rfl ?_
      exact q_iret C hQ dX8_rule_25 h
  · replace h := h.2 c3
    refine q_ldc (v := (-1000000002 : Int32)) C (List.mem_of_getElem? (i := 1) rfl) dX8_rule_8 ?_
    exact q_iret C hQ dX8_rule_10 h
theorem c_X8_rule (Y : CY)  (p1 : Int32) (p2 : Int32) (p3 : Int32) (σ : St) (Post : Int32 → St → Prop) (h : w_X8_rule p1 p2 p3 σ Post) : Ki SC Y yX8_rule wsX8_rule rmX8_rule [.ref (qa Y 0), .int p1, .int p2, .int p3] σ Post :=
  Ki_of (cc := cX8_rule) (nL := 7) (ret := (some .int)) (by decide +kernel) rfl (Nat.le_of_ble_eq_true rfl) (fun Z C hQ => b_X8_rule C hQ  p1 p2 p3 σ h)
abbrev rmX8_see : Room := { frames := 2, cells := 0, slots := 0, locals := 47 }
theorem nkX8_see : NmOk yX8_see 2 := by decide +kernel
theorem rmOk_X8_see__X5_addSeen : RmOk rmX5_addSeen rmX8_see 4 := ⟨rfl, rfl, by decide, by decide⟩
theorem rmOk_X8_see__X8_isWithin : RmOk rmX8_isWithin rmX8_see 3 := ⟨rfl, rfl, by decide, by decide⟩
theorem inX8_see_X5 : ∀ w ∈ u_ws RX5 TX5 9, w ∈ wsX8_see := fun _ h => List.mem_cons_of_mem _ (List.mem_append_right _ h)
theorem inX8_see_X8 : ∀ w ∈ u_ws RX8 TX8 10, w ∈ wsX8_see := fun _ h => List.mem_cons_of_mem _ (List.mem_append_left _ (List.mem_append_right _ h))
def w_X8_see (p1 : Int32) (p2 : Int32) (σ : St) (Post : Int32 → St → Prop) : Prop := w_X8_isWithin p1 (0 : Int32) (999 : Int32) σ (fun x2 σ1 => (x2 = 0 → Post (-1000000002 : Int32) σ1) ∧ (¬ x2 = 0 → w_X8_isWithin p2 (-150 : Int32) (150 : Int32) σ1 (fun x5 σ4 => (¬ x5 = 0 → w_X5_addSeen p1 p2 σ4 (fun x8 σ7 => (x8 = 0 → Post (-1000000004 : Int32) σ7) ∧ (¬ x8 = 0 → Post ((σ7 36 0)) σ7))) ∧ (x5 = 0 → Post (-1000000002 : Int32) σ4))))
set_option maxHeartbeats 4000000 in
set_option maxRecDepth 100000 in
theorem b_X8_see {Y : CY} {Z : CZ} (C : cx SC 3 Y Z cX8_see RX8 wsX8_see (some .int) rmX8_see) {Post : Int32 → St → Prop} (hQ : Qi SC Y Z Post)  (p1 : Int32) (p2 : Int32) (σ : St) (h : w_X8_see p1 p2 σ Post) : WW SC 3 Y Z σ 0 [(0, .ref (qa Y 0)), (1, .int p1), (2, .int p2)] [] := by
  unfold w_X8_see at h
  refine q_iload_n C 1 dX8_see_0 rfl ?_
  refine q_iconst (v := (0 : Int32)) C dX8_see_1 (by decide) ?_
  refine q_sipush (v := (999 : Int32)) C dX8_see_2 (by decide) ?_
  refine q_callSi (As := [.int p1, .int (0 : Int32), .int (999 : Int32)]) (st := []) C (c_X8_isWithin Y p1 (0 : Int32) (999 : Int32) σ _ h) gX8_see_X8_isWithin rfl nkX8_isWithin rmOk_X8_see__X8_isWithin rfl (Nat.le_of_ble_eq_true rfl) dX8_see_5 rfl (fun x2 σ1 h => ?_)
  refine q_if_eq C 24 dX8_see_8 (by decide) (fun c3 => ?_) (fun c3 => ?_)
  · replace h := h.1 c3
    refine q_ldc (v := (-1000000002 : Int32)) C (List.mem_of_getElem? (i := 1) rfl) dX8_see_24 ?_
    exact q_iret C hQ dX8_see_26 h
  · replace h := h.2 c3
    refine q_iload_n C 2 dX8_see_11 rfl ?_
    refine q_sipush (v := (-150 : Int32)) C dX8_see_12 (by decide) ?_
    refine q_sipush (v := (150 : Int32)) C dX8_see_15 (by decide) ?_
    refine q_callSi (As := [.int p2, .int (-150 : Int32), .int (150 : Int32)]) (st := []) C (c_X8_isWithin Y p2 (-150 : Int32) (150 : Int32) σ1 _ h) gX8_see_X8_isWithin rfl nkX8_isWithin rmOk_X8_see__X8_isWithin rfl (Nat.le_of_ble_eq_true rfl) dX8_see_18 rfl (fun x5 σ4 h => ?_)
    refine q_if_ne C 27 dX8_see_21 (by decide) (fun c6 => ?_) (fun c6 => ?_)
    · replace h := h.1 c6
      refine q_aload_n C 0 dX8_see_27 rfl ?_
      refine q_getr (T := TX8) C kC0 iC0 inX8_see_X8 rfl 6 (by decide) (List.mem_of_getElem? (i := 2) rfl) (fun _ h9 => h9) rfl dX8_see_28 ?_
      refine q_iload_n C 1 dX8_see_31 rfl ?_
      refine q_iload_n C 2 dX8_see_32 rfl ?_
      refine q_callVi (As := [.int p1, .int p2]) (st := []) C (c_X5_addSeen Y p1 p2 σ4 _ h) gX8_see_X5_addSeen rfl ⟨rfl, nkX5_addSeen⟩ rmOk_X8_see__X5_addSeen kC36 iC36 rfl rfl (Nat.le_of_ble_eq_true rfl) dX8_see_33 rfl (fun x8 σ7 h => ?_)
      refine q_if_eq C 49 dX8_see_36 (by decide) (fun c9 => ?_) (fun c9 => ?_)
      · replace h := h.1 c9
        refine q_ldc (v := (-1000000004 : Int32)) C (List.mem_of_getElem? (i := 4) rfl) dX8_see_49 ?_
        exact q_iret C hQ dX8_see_51 h
      · replace h := h.2 c9
        refine q_aload_n C 0 dX8_see_39 rfl ?_
        refine q_getr (T := TX8) C kC0 iC0 inX8_see_X8 rfl 6 (by decide) (List.mem_of_getElem? (i := 2) rfl) (fun _ h9 => h9) rfl dX8_see_40 ?_
        refine q_geti (T := TX5) C kC36 iC36 inX8_see_X5 rfl 0 (by decide) (List.mem_of_getElem? (i := 3) rfl) (fun _ h9 => h9) rfl dX8_see_43 ?_
        refine q_goto C 51 dX8_see_46 (by decide) ?_
        exact q_iret C hQ dX8_see_51 h
    · replace h := h.2 c6
      refine q_ldc (v := (-1000000002 : Int32)) C (List.mem_of_getElem? (i := 1) rfl) dX8_see_24 ?_
      exact q_iret C hQ dX8_see_26 h
theorem c_X8_see (Y : CY)  (p1 : Int32) (p2 : Int32) (σ : St) (Post : Int32 → St → Prop) (h : w_X8_see p1 p2 σ Post) : Ki SC Y yX8_see wsX8_see rmX8_see [.ref (qa Y 0), .int p1, .int p2] σ Post :=
  Ki_of (cc := cX8_see) (nL := 3) (ret := (some .int)) (by decide +kernel) rfl (Nat.le_of_ble_eq_true rfl) (fun Z C hQ => b_X8_see C hQ  p1 p2 σ h)
abbrev rmX8_seed : Room := { frames := 0, cells := 0, slots := 0, locals := 0 }
theorem nkX8_seed : NmOk yX8_seed 1 := by decide +kernel
theorem inX8_seed_X0 : ∀ w ∈ u_ws RX0 TX0 1, w ∈ wsX8_seed := fun _ h => List.mem_cons_of_mem _ (List.mem_append_right _ h)
theorem inX8_seed_X8 : ∀ w ∈ u_ws RX8 TX8 10, w ∈ wsX8_seed := fun _ h => List.mem_cons_of_mem _ (List.mem_append_left _ (List.mem_append_right _ h))
def w_X8_seed (p1 : Int32) (σ : St) (Post : Int32 → St → Prop) : Prop := (0 ≤ p1 → ∀ x2 : Int32, x2 = (σ 43 0) → ∀ σ3 : St, σ3 = up σ 43 0 p1 → Post x2 σ3) ∧ (¬ 0 ≤ p1 → Post (-1000000002 : Int32) σ)
set_option maxHeartbeats 4000000 in
set_option maxRecDepth 100000 in
theorem b_X8_seed {Y : CY} {Z : CZ} (C : cx SC 3 Y Z cX8_seed RX8 wsX8_seed (some .int) rmX8_seed) {Post : Int32 → St → Prop} (hQ : Qi SC Y Z Post)  (p1 : Int32) (σ : St) (h : w_X8_seed p1 σ Post) : WW SC 3 Y Z σ 0 [(0, .ref (qa Y 0)), (1, .int p1)] [] := by
  unfold w_X8_seed at h
  refine q_iload_n C 1 dX8_seed_0 rfl ?_
  refine q_if_ge C 7 dX8_seed_1 (by decide) (fun c1 => ?_) (fun c1 => ?_)
  · replace h := h.1 c1
    refine q_aload_n C 0 dX8_seed_7 rfl ?_
    refine q_getr (T := TX8) C kC0 iC0 inX8_seed_X8 rfl 7 (by decide) (List.mem_of_getElem? (i := 2) rfl) (fun _ h9 => h9) rfl dX8_seed_8 ?_
    refine q_geti (T := TX0) C kC43 iC43 inX8_seed_X0 rfl 0 (by decide) (List.mem_of_getElem? (i := 3) rfl) (fun _ h9 => h9) rfl dX8_seed_11 ?_
    refine q_topi (fun x2 ex2 => ?_)
    replace h := h x2 ex2
    refine q_istore_n C [(2, .int x2), (0, .ref (qa Y 0)), (1, .int p1)] dX8_seed_14 (by decide) rfl ?_
    refine q_aload_n C 1 dX8_seed_15 rfl ?_
    refine q_getr (T := TX8) C kC0 iC0 inX8_seed_X8 rfl 7 (by decide) (List.mem_of_getElem? (i := 2) rfl) (fun _ h9 => h9) rfl dX8_seed_16 ?_
    refine q_iload_n C 2 dX8_seed_19 rfl ?_
    refine q_puti (T := TX0) C kC43 iC43 inX8_seed_X0 rfl tyX0 tyX0_ok nmX0 0 (by decide) (List.mem_of_getElem? (i := 3) rfl) (fun _ h9 => h9) rfl dgC43 rfl (ni_n _) (ni_f _) dX8_seed_20 ?_
    refine q_nmS (fun σ3 eσ3 => ?_)
    replace h := h σ3 eσ3
    refine q_iload_n C 0 dX8_seed_23 rfl ?_
    exact q_iret C hQ dX8_seed_24 h
  · replace h := h.2 c1
    refine q_ldc (v := (-1000000002 : Int32)) C (List.mem_of_getElem? (i := 1) rfl) dX8_seed_4 ?_
    exact q_iret C hQ dX8_seed_6 h
theorem c_X8_seed (Y : CY)  (p1 : Int32) (σ : St) (Post : Int32 → St → Prop) (h : w_X8_seed p1 σ Post) : Ki SC Y yX8_seed wsX8_seed rmX8_seed [.ref (qa Y 0), .int p1] σ Post :=
  Ki_of (cc := cX8_seed) (nL := 3) (ret := (some .int)) (by decide +kernel) rfl (Nat.le_of_ble_eq_true rfl) (fun Z C hQ => b_X8_seed C hQ  p1 σ h)
abbrev rmX8_shut : Room := { frames := 2, cells := 0, slots := 0, locals := 46 }
theorem nkX8_shut : NmOk yX8_shut 1 := by decide +kernel
theorem rmOk_X8_shut__X1_push : RmOk rmX1_push rmX8_shut 3 := ⟨rfl, rfl, by decide, by decide⟩
theorem inX8_shut_X3 : ∀ w ∈ u_ws RX3 TX3 12, w ∈ wsX8_shut := fun _ h => List.mem_cons_of_mem _ (List.mem_append_left _ (List.mem_append_left _ (List.mem_append_right _ h)))
theorem inX8_shut_X4 : ∀ w ∈ u_ws RX4 TX4 12, w ∈ wsX8_shut := fun _ h => List.mem_cons_of_mem _ (List.mem_append_left _ (List.mem_append_right _ h))
theorem inX8_shut_X8 : ∀ w ∈ u_ws RX8 TX8 10, w ∈ wsX8_shut := fun _ h => List.mem_cons_of_mem _ (List.mem_append_left _ (List.mem_append_left _ (List.mem_append_left _ (List.mem_append_right _ h))))
def w_X8_shut_J39 (Post : Int32 → St → Prop) (v1 : Int32) (s0 : Int32) (σ : St) : Prop := (v1 = 0 ∨ v1 = 1) ∧ (∀ σ4 : St, σ4 = up σ 11 4 v1 → Post s0 σ4)
def w_X8_shut (p1 : Int32) (σ : St) (Post : Int32 → St → Prop) : Prop := (¬ (σ 3 0) = 0 → w_X1_push σ (fun σ2 => ((σ2 11 4) = 0 → w_X8_shut_J39 Post p1 (0 : Int32) σ2) ∧ (¬ (σ2 11 4) = 0 → w_X8_shut_J39 Post p1 (1 : Int32) σ2))) ∧ ((σ 3 0) = 0 → Post (-1000000003 : Int32) σ)
set_option maxHeartbeats 4000000 in
set_option maxRecDepth 100000 in
theorem b_X8_shut_J39 {Y : CY} {Z : CZ} (C : cx SC 3 Y Z cX8_shut RX8 wsX8_shut (some .int) rmX8_shut) {Post : Int32 → St → Prop} (hQ : Qi SC Y Z Post)  (v1 : Int32) (s0 : Int32) (σ : St) (h : w_X8_shut_J39  Post v1 s0 σ) : WW SC 3 Y Z σ 39 [(0, .ref (qa Y 0)), (1, .int v1)] [.int s0] := by
  unfold w_X8_shut_J39 at h
  refine q_istore_n C [(2, .int s0), (0, .ref (qa Y 0)), (1, .int v1)] dX8_shut_39 (by decide) rfl ?_
  refine q_aload_n C 1 dX8_shut_40 rfl ?_
  refine q_getr (T := TX8) C kC0 iC0 inX8_shut_X8 rfl 3 (by decide) (List.mem_of_getElem? (i := 5) rfl) (fun _ h9 => h9) rfl dX8_shut_41 ?_
  refine q_iload_n C 2 dX8_shut_44 rfl ?_
  obtain ⟨g5, h⟩ := h
  refine q_puti (T := TX4) C kC11 iC11 inX8_shut_X4 rfl tyX4 tyX4_ok nmX4 4 (by decide) (List.mem_of_getElem? (i := 6) rfl) (fun _ h9 => h9) rfl dgN rfl (zb_n g5) (zb_f g5) dX8_shut_45 ?_
  refine q_nmS (fun σ4 eσ4 => ?_)
  replace h := h σ4 eσ4
  refine q_iload_n C 0 dX8_shut_48 rfl ?_
  exact q_iret C hQ dX8_shut_49 h
set_option maxHeartbeats 4000000 in
set_option maxRecDepth 100000 in
theorem b_X8_shut {Y : CY} {Z : CZ} (C : cx SC 3 Y Z cX8_shut RX8 wsX8_shut (some .int) rmX8_shut) {Post : Int32 → St → Prop} (hQ : Qi SC Y Z Post)  (p1 : Int32) (σ : St) (h : w_X8_shut p1 σ Post) : WW SC 3 Y Z σ 0 [(0, .ref (qa Y 0)), (1, .int p1)] [] := by
  unfold w_X8_shut at h
  refine q_aload_n C 0 dX8_shut_0 rfl ?_
  refine q_getr (T := TX8) C kC0 iC0 inX8_shut_X8 rfl 1 (by decide) (List.mem_of_getElem? (i := 1) rfl) (fun _ h9 => h9) rfl dX8_shut_1 ?_
  refine q_geti (T := TX3) C kC3 iC3 inX8_shut_X3 rfl 0 (by decide) (List.mem_of_getElem? (i := 2) rfl) (fun _ h9 => h9) rfl dX8_shut_4 ?_
  refine q_if_ne C 13 dX8_shut_7 (by decide) (fun c1 => ?_) (fun c1 => ?_)
  · replace h := h.1 c1
    refine q_aload_n C 0 dX8_shut_13 rfl ?_
    refine q_getr (T := TX8) C kC0 iC0 inX8_shut_X8 rfl 5 (by decide) (List.mem_of_getElem? (i := 4) rfl) (fun _ h9 => h9) rfl dX8_shut_14 ?_
    refine q_aload_n C 0 dX8_shut_17 rfl ?_
    refine q_getr (T := TX8) C kC0 iC0 inX8_shut_X8 rfl 3 (by decide) (List.mem_of_getElem? (i := 5) rfl) (fun _ h9 => h9) rfl dX8_shut_18 ?_
    refine q_callVv (As := [.ref (qa Y 11)]) (st := []) C (c_X1_push Y σ _ h) gX8_shut_X1_push rfl ⟨rfl, nkX1_push⟩ rmOk_X8_shut__X1_push kC14 iC14 rfl rfl (Nat.le_of_ble_eq_true rfl) dX8_shut_21 rfl (fun σ2 h => ?_)
    refine q_aload_n C 0 dX8_shut_24 rfl ?_
    refine q_getr (T := TX8) C kC0 iC0 inX8_shut_X8 rfl 3 (by decide) (List.mem_of_getElem? (i := 5) rfl) (fun _ h9 => h9) rfl dX8_shut_25 ?_
    refine q_geti (T := TX4) C kC11 iC11 inX8_shut_X4 rfl 4 (by decide) (List.mem_of_getElem? (i := 6) rfl) (fun _ h9 => h9) rfl dX8_shut_28 ?_
    refine q_if_eq C 38 dX8_shut_31 (by decide) (fun c3 => ?_) (fun c3 => ?_)
    · replace h := h.1 c3
      refine q_iconst (v := (0 : Int32)) C dX8_shut_38 (by decide) ?_
      exact b_X8_shut_J39 C hQ p1 (0 : Int32) σ2 h
    · replace h := h.2 c3
      refine q_iconst (v := (1 : Int32)) C dX8_shut_34 (by decide) ?_
      refine q_goto C 39 dX8_shut_35 (by decide) ?_
      exact b_X8_shut_J39 C hQ p1 (1 : Int32) σ2 h
  · replace h := h.2 c1
    refine q_ldc (v := (-1000000003 : Int32)) C (List.mem_of_getElem? (i := 3) rfl) dX8_shut_10 ?_
    exact q_iret C hQ dX8_shut_12 h
theorem c_X8_shut (Y : CY)  (p1 : Int32) (σ : St) (Post : Int32 → St → Prop) (h : w_X8_shut p1 σ Post) : Ki SC Y yX8_shut wsX8_shut rmX8_shut [.ref (qa Y 0), .int p1] σ Post :=
  Ki_of (cc := cX8_shut) (nL := 3) (ret := (some .int)) (by decide +kernel) rfl (Nat.le_of_ble_eq_true rfl) (fun Z C hQ => b_X8_shut C hQ  p1 σ h)
abbrev rmX8_star : Room := { frames := 1, cells := 0, slots := 0, locals := 22 }
theorem nkX8_star : NmOk yX8_star 2 := by decide +kernel
theorem rmOk_X8_star__X3_hairsOf : RmOk rmX3_hairsOf rmX8_star 2 := ⟨rfl, rfl, by decide, by decide⟩
theorem rmOk_X8_star__X3_lightOf : RmOk rmX3_lightOf rmX8_star 2 := ⟨rfl, rfl, by decide, by decide⟩
theorem rmOk_X8_star__X8_isWithin : RmOk rmX8_isWithin rmX8_star 3 := ⟨rfl, rfl, by decide, by decide⟩
theorem inX8_star_X3 : ∀ w ∈ u_ws RX3 TX3 12, w ∈ wsX8_star := fun _ h => List.mem_cons_of_mem _ (List.mem_append_right _ h)
theorem inX8_star_X8 : ∀ w ∈ u_ws RX8 TX8 10, w ∈ wsX8_star := fun _ h => List.mem_cons_of_mem _ (List.mem_append_left _ (List.mem_append_right _ h))
def w_X8_star (p1 : Int32) (p2 : Int32) (σ : St) (Post : Int32 → St → Prop) : Prop := w_X8_isWithin p1 (0 : Int32) (((σ 3 8) - (1 : Int32))) σ (fun x2 σ1 => (¬ x2 = 0 → w_X8_isWithin p2 (0 : Int32) (1 : Int32) σ1 (fun x5 σ4 => (¬ x5 = 0 → (¬ p2 = 0 → w_X3_lightOf 3 p1 σ4 (fun x9 σ8 => Post x9 σ8)) ∧ (p2 = 0 → w_X3_hairsOf 3 p1 σ4 (fun x11 σ10 => Post x11 σ10))) ∧ (x5 = 0 → Post (-1000000002 : Int32) σ4))) ∧ (x2 = 0 → Post (-1000000001 : Int32) σ1))
set_option maxHeartbeats 4000000 in
set_option maxRecDepth 100000 in
theorem b_X8_star {Y : CY} {Z : CZ} (C : cx SC 3 Y Z cX8_star RX8 wsX8_star (some .int) rmX8_star) {Post : Int32 → St → Prop} (hQ : Qi SC Y Z Post)  (p1 : Int32) (p2 : Int32) (σ : St) (h : w_X8_star p1 p2 σ Post) : WW SC 3 Y Z σ 0 [(0, .ref (qa Y 0)), (1, .int p1), (2, .int p2)] [] := by
  unfold w_X8_star at h
  refine q_iload_n C 1 dX8_star_0 rfl ?_
  refine q_iconst (v := (0 : Int32)) C dX8_star_1 (by decide) ?_
  refine q_aload_n C 0 dX8_star_2 rfl ?_
  refine q_getr (T := TX8) C kC0 iC0 inX8_star_X8 rfl 1 (by decide) (List.mem_of_getElem? (i := 1) rfl) (fun _ h9 => h9) rfl dX8_star_3 ?_
  refine q_geti (T := TX3) C kC3 iC3 inX8_star_X3 rfl 8 (by decide) (List.mem_of_getElem? (i := 2) rfl) (fun _ h9 => h9) rfl dX8_star_6 ?_
  refine q_iconst (v := (1 : Int32)) C dX8_star_9 (by decide) ?_
  refine q_isub C dX8_star_10 ?_
  refine q_callSi (As := [.int p1, .int (0 : Int32), .int ((σ 3 8) - (1 : Int32))]) (st := []) C (c_X8_isWithin Y p1 (0 : Int32) (((σ 3 8) - (1 : Int32))) σ _ h) gX8_star_X8_isWithin rfl nkX8_isWithin rmOk_X8_star__X8_isWithin rfl (Nat.le_of_ble_eq_true rfl) dX8_star_11 rfl (fun x2 σ1 h => ?_)
  refine q_if_ne C 20 dX8_star_14 (by decide) (fun c3 => ?_) (fun c3 => ?_)
  · replace h := h.1 c3
    refine q_iload_n C 2 dX8_star_20 rfl ?_
    refine q_iconst (v := (0 : Int32)) C dX8_star_21 (by decide) ?_
    refine q_iconst (v := (1 : Int32)) C dX8_star_22 (by decide) ?_
    refine q_callSi (As := [.int p2, .int (0 : Int32), .int (1 : Int32)]) (st := []) C (c_X8_isWithin Y p2 (0 : Int32) (1 : Int32) σ1 _ h) gX8_star_X8_isWithin rfl nkX8_isWithin rmOk_X8_star__X8_isWithin rfl (Nat.le_of_ble_eq_true rfl) dX8_star_23 rfl (fun x5 σ4 h => ?_)
    refine q_if_ne C 32 dX8_star_26 (by decide) (fun c6 => ?_) (fun c6 => ?_)
    · replace h := h.1 c6
      refine q_iload_n C 2 dX8_star_32 rfl ?_
      refine q_if_ne C 47 dX8_star_33 (by decide) (fun c7 => ?_) (fun c7 => ?_)
      · replace h := h.1 c7
        refine q_aload_n C 0 dX8_star_47 rfl ?_
        refine q_getr (T := TX8) C kC0 iC0 inX8_star_X8 rfl 1 (by decide) (List.mem_of_getElem? (i := 1) rfl) (fun _ h9 => h9) rfl dX8_star_48 ?_
        refine q_iload_n C 1 dX8_star_51 rfl ?_
        refine q_callVi (As := [.int p1]) (st := []) C (c_X3_lightOf Y kC3 iC3 kC4 iC4 kC5 iC5 kC6 iC6 p1 σ4 _ h) gX8_star_X3_lightOf rfl ⟨rfl, nkX3_lightOf⟩ rmOk_X8_star__X3_lightOf kC3 iC3 rfl rfl (Nat.le_of_ble_eq_true rfl) dX8_star_52 rfl (fun x9 σ8 h => ?_)
        exact q_iret C hQ dX8_star_55 h
      · replace h := h.2 c7
        refine q_aload_n C 0 dX8_star_36 rfl ?_
        refine q_getr (T := TX8) C kC0 iC0 inX8_star_X8 rfl 1 (by decide) (List.mem_of_getElem? (i := 1) rfl) (fun _ h9 => h9) rfl dX8_star_37 ?_
        refine q_iload_n C 1 dX8_star_40 rfl ?_
        refine q_callVi (As := [.int p1]) (st := []) C (c_X3_hairsOf Y kC3 iC3 kC4 iC4 kC5 iC5 kC6 iC6 p1 σ4 _ h) gX8_star_X3_hairsOf rfl ⟨rfl, nkX3_hairsOf⟩ rmOk_X8_star__X3_hairsOf kC3 iC3 rfl rfl (Nat.le_of_ble_eq_true rfl) dX8_star_41 rfl (fun x11 σ10 h => ?_)
        refine q_goto C 55 dX8_star_44 (by decide) ?_
        exact q_iret C hQ dX8_star_55 h
    · replace h := h.2 c6
      refine q_ldc (v := (-1000000002 : Int32)) C (List.mem_of_getElem? (i := 4) rfl) dX8_star_29 ?_
      exact q_iret C hQ dX8_star_31 h
  · replace h := h.2 c3
    refine q_ldc (v := (-1000000001 : Int32)) C (List.mem_of_getElem? (i := 3) rfl) dX8_star_17 ?_
    exact q_iret C hQ dX8_star_19 h
theorem c_X8_star (Y : CY)  (p1 : Int32) (p2 : Int32) (σ : St) (Post : Int32 → St → Prop) (h : w_X8_star p1 p2 σ Post) : Ki SC Y yX8_star wsX8_star rmX8_star [.ref (qa Y 0), .int p1, .int p2] σ Post :=
  Ki_of (cc := cX8_star) (nL := 3) (ret := (some .int)) (by decide +kernel) rfl (Nat.le_of_ble_eq_true rfl) (fun Z C hQ => b_X8_star C hQ  p1 p2 σ h)
abbrev rmX8_stop : Room := { frames := 6, cells := 0, slots := 0, locals := 132 }
theorem nkX8_stop : NmOk yX8_stop 1 := by decide +kernel
theorem rmOk_X8_stop__X7_minutesToLight : RmOk rmX7_minutesToLight rmX8_stop 3 := ⟨rfl, rfl, by decide, by decide⟩
theorem rmOk_X8_stop__X8_cannotGoOn : RmOk rmX8_cannotGoOn rmX8_stop 1 := ⟨rfl, rfl, by decide, by decide⟩
theorem rmOk_X8_stop__X8_isWithin : RmOk rmX8_isWithin rmX8_stop 3 := ⟨rfl, rfl, by decide, by decide⟩
theorem inX8_stop_X8 : ∀ w ∈ u_ws RX8 TX8 10, w ∈ wsX8_stop := fun _ h => List.mem_cons_of_mem _ (List.mem_append_left _ (List.mem_append_left _ (List.mem_append_left _ (List.mem_append_right _ h))))
def w_X8_stop (p1 : Int32) (σ : St) (Post : Int32 → St → Prop) : Prop := w_X8_isWithin p1 (0 : Int32) (999 : Int32) σ (fun x2 σ1 => (¬ x2 = 0 → w_X8_cannotGoOn σ1 (fun x5 σ4 => (x5 = 0 → w_X7_minutesToLight p1 σ4 (fun x8 σ7 => Post x8 σ7)) ∧ (¬ x5 = 0 → Post (-1000000003 : Int32) σ4))) ∧ (x2 = 0 → Post (-1000000002 : Int32) σ1))
set_option maxHeartbeats 4000000 in
set_option maxRecDepth 100000 in
theorem b_X8_stop {Y : CY} {Z : CZ} (C : cx SC 2 Y Z cX8_stop RX8 wsX8_stop (some .int) rmX8_stop) {Post : Int32 → St → Prop} (hQ : Qi SC Y Z Post)  (p1 : Int32) (σ : St) (h : w_X8_stop p1 σ Post) : WW SC 2 Y Z σ 0 [(0, .ref (qa Y 0)), (1, .int p1)] [] := by
  unfold w_X8_stop at h
  refine q_iload_n C 1 dX8_stop_0 rfl ?_
  refine q_iconst (v := (0 : Int32)) C dX8_stop_1 (by decide) ?_
  refine q_sipush (v := (999 : Int32)) C dX8_stop_2 (by decide) ?_
  refine q_callSi (As := [.int p1, .int (0 : Int32), .int (999 : Int32)]) (st := []) C (c_X8_isWithin Y p1 (0 : Int32) (999 : Int32) σ _ h) gX8_stop_X8_isWithin rfl nkX8_isWithin rmOk_X8_stop__X8_isWithin rfl (Nat.le_of_ble_eq_true rfl) dX8_stop_5 rfl (fun x2 σ1 h => ?_)
  refine q_if_ne C 14 dX8_stop_8 (by decide) (fun c3 => ?_) (fun c3 => ?_)
  · replace h := h.1 c3
    refine q_aload_n C 0 dX8_stop_14 rfl ?_
    refine q_callVi (As := []) (st := []) C (c_X8_cannotGoOn Y σ1 _ h) gX8_stop_X8_cannotGoOn rfl ⟨rfl, nkX8_cannotGoOn⟩ rmOk_X8_stop__X8_cannotGoOn kC0 iC0 rfl rfl (Nat.le_of_ble_eq_true rfl) dX8_stop_15 rfl (fun x5 σ4 h => ?_)
    refine q_if_eq C 26 dX8_stop_18 (by decide) (fun c6 => ?_) (fun c6 => ?_)
    · replace h := h.1 c6
      refine q_aload_n C 0 dX8_stop_26 rfl ?_
      refine q_getr (T := TX8) C kC0 iC0 inX8_stop_X8 rfl 4 (by decide) (List.mem_of_getElem? (i := 3) rfl) (fun _ h9 => h9) rfl dX8_stop_27 ?_
      refine q_iload_n C 1 dX8_stop_30 rfl ?_
      refine q_callVi (As := [.int p1]) (st := []) C (c_X7_minutesToLight Y p1 σ4 _ h) gX8_stop_X7_minutesToLight rfl ⟨rfl, nkX7_minutesToLight⟩ rmOk_X8_stop__X7_minutesToLight kC12 iC12 rfl rfl (Nat.le_of_ble_eq_true rfl) dX8_stop_31 rfl (fun x8 σ7 h => ?_)
      exact q_iret C hQ dX8_stop_34 h
    · replace h := h.2 c6
      refine q_ldc (v := (-1000000003 : Int32)) C (List.mem_of_getElem? (i := 2) rfl) dX8_stop_21 ?_
      refine q_goto C 34 dX8_stop_23 (by decide) ?_
      exact q_iret C hQ dX8_stop_34 h
  · replace h := h.2 c3
    refine q_ldc (v := (-1000000002 : Int32)) C (List.mem_of_getElem? (i := 1) rfl) dX8_stop_11 ?_
    exact q_iret C hQ dX8_stop_13 h
theorem c_X8_stop (Y : CY)  (p1 : Int32) (σ : St) (Post : Int32 → St → Prop) (h : w_X8_stop p1 σ Post) : Ki SC Y yX8_stop wsX8_stop rmX8_stop [.ref (qa Y 0), .int p1] σ Post :=
  Ki_of (cc := cX8_stop) (nL := 2) (ret := (some .int)) (by decide +kernel) rfl (Nat.le_of_ble_eq_true rfl) (fun Z C hQ => b_X8_stop C hQ  p1 σ h)
abbrev rmX8_stretch : Room := { frames := 4, cells := 0, slots := 0, locals := 88 }
theorem nkX8_stretch : NmOk yX8_stretch 1 := by decide +kernel
theorem rmOk_X8_stretch__X7_longestWithin : RmOk rmX7_longestWithin rmX8_stretch 3 := ⟨rfl, rfl, by decide, by decide⟩
theorem rmOk_X8_stretch__X8_isWithin : RmOk rmX8_isWithin rmX8_stretch 3 := ⟨rfl, rfl, by decide, by decide⟩
theorem inX8_stretch_X3 : ∀ w ∈ u_ws RX3 TX3 12, w ∈ wsX8_stretch := fun _ h => List.mem_cons_of_mem _ (List.mem_append_left _ (List.mem_append_left _ (List.mem_append_right _ h)))
theorem inX8_stretch_X8 : ∀ w ∈ u_ws RX8 TX8 10, w ∈ wsX8_stretch := fun _ h => List.mem_cons_of_mem _ (List.mem_append_left _ (List.mem_append_left _ (List.mem_append_left _ (List.mem_append_right _ h))))
def w_X8_stretch (p1 : Int32) (σ : St) (Post : Int32 → St → Prop) : Prop := w_X8_isWithin p1 (0 : Int32) (999 : Int32) σ (fun x2 σ1 => (¬ x2 = 0 → ((σ1 3 0) = 0 → Post (-1000000003 : Int32) σ1) ∧ (¬ (σ1 3 0) = 0 → w_X7_longestWithin p1 σ1 (fun x6 σ5 => Post x6 σ5))) ∧ (x2 = 0 → Post (-1000000002 : Int32) σ1))
set_option maxHeartbeats 4000000 in
set_option maxRecDepth 100000 in
theorem b_X8_stretch {Y : CY} {Z : CZ} (C : cx SC 2 Y Z cX8_stretch RX8 wsX8_stretch (some .int) rmX8_stretch) {Post : Int32 → St → Prop} (hQ : Qi SC Y Z Post)  (p1 : Int32) (σ : St) (h : w_X8_stretch p1 σ Post) : WW SC 2 Y Z σ 0 [(0, .ref (qa Y 0)), (1, .int p1)] [] := by
  unfold w_X8_stretch at h
  refine q_iload_n C 1 dX8_stretch_0 rfl ?_
  refine q_iconst (v := (0 : Int32)) C dX8_stretch_1 (by decide) ?_
  refine q_sipush (v := (999 : Int32)) C dX8_stretch_2 (by decide) ?_
  refine q_callSi (As := [.int p1, .int (0 : Int32), .int (999 : Int32)]) (st := []) C (c_X8_isWithin Y p1 (0 : Int32) (999 : Int32) σ _ h) gX8_stretch_X8_isWithin rfl nkX8_isWithin rmOk_X8_stretch__X8_isWithin rfl (Nat.le_of_ble_eq_true rfl) dX8_stretch_5 rfl (fun x2 σ1 h => ?_)
  refine q_if_ne C 14 dX8_stretch_8 (by decide) (fun c3 => ?_) (fun c3 => ?_)
  · replace h := h.1 c3
    refine q_aload_n C 0 dX8_stretch_14 rfl ?_
    refine q_getr (T := TX8) C kC0 iC0 inX8_stretch_X8 rfl 1 (by decide) (List.mem_of_getElem? (i := 2) rfl) (fun _ h9 => h9) rfl dX8_stretch_15 ?_
    refine q_geti (T := TX3) C kC3 iC3 inX8_stretch_X3 rfl 0 (by decide) (List.mem_of_getElem? (i := 3) rfl) (fun _ h9 => h9) rfl dX8_stretch_18 ?_
    refine q_if_eq C 35 dX8_stretch_21 (by decide) (fun c4 => ?_) (fun c4 => ?_)
    · replace h := h.1 c4
      refine q_ldc (v := (-1000000003 : Int32)) C (List.mem_of_getElem? (i := 5) rfl) dX8_stretch_35 ?_
      exact q_iret C hQ dX8_stretch_37 h
    · replace h := h.2 c4
      refine q_aload_n C 0 dX8_stretch_24 rfl ?_
      refine q_getr (T := TX8) C kC0 iC0 inX8_stretch_X8 rfl 4 (by decide) (List.mem_of_getElem? (i := 4) rfl) (fun _ h9 => h9) rfl dX8_stretch_25 ?_
      refine q_iload_n C 1 dX8_stretch_28 rfl ?_
      refine q_callVi (As := [.int p1]) (st := []) C (c_X7_longestWithin Y p1 σ1 _ h) gX8_stretch_X7_longestWithin rfl ⟨rfl, nkX7_longestWithin⟩ rmOk_X8_stretch__X7_longestWithin kC12 iC12 rfl rfl (Nat.le_of_ble_eq_true rfl) dX8_stretch_29 rfl (fun x6 σ5 h => ?_)
      refine q_goto C 37 dX8_stretch_32 (by decide) ?_
      exact q_iret C hQ dX8_stretch_37 h
  · replace h := h.2 c3
    refine q_ldc (v := (-1000000002 : Int32)) C (List.mem_of_getElem? (i := 1) rfl) dX8_stretch_11 ?_
    exact q_iret C hQ dX8_stretch_13 h
theorem c_X8_stretch (Y : CY)  (p1 : Int32) (σ : St) (Post : Int32 → St → Prop) (h : w_X8_stretch p1 σ Post) : Ki SC Y yX8_stretch wsX8_stretch rmX8_stretch [.ref (qa Y 0), .int p1] σ Post :=
  Ki_of (cc := cX8_stretch) (nL := 2) (ret := (some .int)) (by decide +kernel) rfl (Nat.le_of_ble_eq_true rfl) (fun Z C hQ => b_X8_stretch C hQ  p1 σ h)
abbrev rmX8_tail : Room := { frames := 2, cells := 0, slots := 0, locals := 47 }
theorem nkX8_tail : NmOk yX8_tail 3 := by decide +kernel
theorem rmOk_X8_tail__X5_addTail : RmOk rmX5_addTail rmX8_tail 4 := ⟨rfl, rfl, by decide, by decide⟩
theorem rmOk_X8_tail__X8_isWithin : RmOk rmX8_isWithin rmX8_tail 3 := ⟨rfl, rfl, by decide, by decide⟩
theorem inX8_tail_X5 : ∀ w ∈ u_ws RX5 TX5 9, w ∈ wsX8_tail := fun _ h => List.mem_cons_of_mem _ (List.mem_append_right _ h)
theorem inX8_tail_X8 : ∀ w ∈ u_ws RX8 TX8 10, w ∈ wsX8_tail := fun _ h => List.mem_cons_of_mem _ (List.mem_append_left _ (List.mem_append_right _ h))
def w_X8_tail (p1 : Int32) (p2 : Int32) (p3 : Int32) (σ : St) (Post : Int32 → St → Prop) : Prop := w_X8_isWithin p1 (0 : Int32) (999 : Int32) σ (fun x2 σ1 => (x2 = 0 → Post (-1000000002 : Int32) σ1) ∧ (¬ x2 = 0 → w_X8_isWithin p2 (0 : Int32) (999 : Int32) σ1 (fun x5 σ4 => (x5 = 0 → Post (-1000000002 : Int32) σ4) ∧ (¬ x5 = 0 → (p2 ≤ p1 → Post (-1000000002 : Int32) σ4) ∧ (¬ p2 ≤ p1 → w_X8_isWithin p3 (-9000 : Int32) (9000 : Int32) σ4 (fun x9 σ8 => (¬ x9 = 0 → w_X5_addTail ((p2 - p1)) p3 σ8 (fun x12 σ11 => (x12 = 0 → Post (-1000000004 : Int32) σ11) ∧ (¬ x12 = 0 → Post ((σ11 36 1)) σ11))) ∧ (x9 = 0 → Post (-1000000002 : Int32) σ8)))))))
set_option maxHeartbeats 4000000 in
set_option maxRecDepth 100000 in
theorem b_X8_tail {Y : CY} {Z : CZ} (C : cx SC 4 Y Z cX8_tail RX8 wsX8_tail (some .int) rmX8_tail) {Post : Int32 → St → Prop} (hQ : Qi SC Y Z Post)  (p1 : Int32) (p2 : Int32) (p3 : Int32) (σ : St) (h : w_X8_tail p1 p2 p3 σ Post) : WW SC 4 Y Z σ 0 [(0, .ref (qa Y 0)), (1, .int p1), (2, .int p2), (3, .int p3)] [] := by
  unfold w_X8_tail at h
  refine q_iload_n C 1 dX8_tail_0 rfl ?_
  refine q_iconst (v := (0 : Int32)) C dX8_tail_1 (by decide) ?_
  refine q_sipush (v := (999 : Int32)) C dX8_tail_2 (by decide) ?_
  refine q_callSi (As := [.int p1, .int (0 : Int32), .int (999 : Int32)]) (st := []) C (c_X8_isWithin Y p1 (0 : Int32) (999 : Int32) σ _ h) gX8_tail_X8_isWithin rfl nkX8_isWithin rmOk_X8_tail__X8_isWithin rfl (Nat.le_of_ble_eq_true rfl) dX8_tail_5 rfl (fun x2 σ1 h => ?_)
  refine q_if_eq C 40 dX8_tail_8 (by decide) (fun c3 => ?_) (fun c3 => ?_)
  · replace h := h.1 c3
    refine q_ldc (v := (-1000000002 : Int32)) C (List.mem_of_getElem? (i := 1) rfl) dX8_tail_40 ?_
    exact q_iret C hQ dX8_tail_42 h
  · replace h := h.2 c3
    refine q_iload_n C 2 dX8_tail_11 rfl ?_
    refine q_iconst (v := (0 : Int32)) C dX8_tail_12 (by decide) ?_
    refine q_sipush (v := (999 : Int32)) C dX8_tail_13 (by decide) ?_
    refine q_callSi (As := [.int p2, .int (0 : Int32), .int (999 : Int32)]) (st := []) C (c_X8_isWithin Y p2 (0 : Int32) (999 : Int32) σ1 _ h) gX8_tail_X8_isWithin rfl nkX8_isWithin rmOk_X8_tail__X8_isWithin rfl (Nat.le_of_ble_eq_true rfl) dX8_tail_16 rfl (fun x5 σ4 h => ?_)
    refine q_if_eq C 40 dX8_tail_19 (by decide) (fun c6 => ?_) (fun c6 => ?_)
    · replace h := h.1 c6
      refine q_ldc (v := (-1000000002 : Int32)) C (List.mem_of_getElem? (i := 1) rfl) dX8_tail_40 ?_
      exact q_iret C hQ dX8_tail_42 h
    · replace h := h.2 c6
      refine q_iload_n C 1 dX8_tail_22 rfl ?_
      refine q_iload_n C 2 dX8_tail_23 rfl ?_
      refine q_icmp_ge C 40 dX8_tail_24 (by decide) (fun c7 => ?_) (fun c7 => ?_)
      · replace h := h.1 c7
        refine q_ldc (v := (-1000000002 : Int32)) C (List.mem_of_getElem? (i := 1) rfl) dX8_tail_40 ?_
        exact q_iret C hQ dX8_tail_42 h
      · replace h := h.2 c7
        refine q_iload_n C 3 dX8_tail_27 rfl ?_
        refine q_sipush (v := (-9000 : Int32)) C dX8_tail_28 (by decide) ?_
        refine q_sipush (v := (9000 : Int32)) C dX8_tail_31 (by decide) ?_
        refine q_callSi (As := [.int p3, .int (-9000 : Int32), .int (9000 : Int32)]) (st := []) C (c_X8_isWithin Y p3 (-9000 : Int32) (9000 : Int32) σ4 _ h) gX8_tail_X8_isWithin rfl nkX8_isWithin rmOk_X8_tail__X8_isWithin rfl (Nat.le_of_ble_eq_true rfl) dX8_tail_34 rfl (fun x9 σ8 h => ?_)
        refine q_if_ne C 43 dX8_tail_37 (by decide) (fun c10 => ?_) (fun c10 => ?_)
        · replace h := h.1 c10
          refine q_aload_n C 0 dX8_tail_43 rfl ?_
          refine q_getr (T := TX8) C kC0 iC0 inX8_tail_X8 rfl 6 (by decide) (List.mem_of_getElem? (i := 2) rfl) (fun _ h9 => h9) rfl dX8_tail_44 ?_
          refine q_iload_n C 2 dX8_tail_47 rfl ?_
          refine q_iload_n C 1 dX8_tail_48 rfl ?_
          refine q_isub C dX8_tail_49 ?_
          refine q_iload_n C 3 dX8_tail_50 rfl ?_
          refine q_callVi (As := [.int (p2 - p1), .int p3]) (st := []) C (c_X5_addTail Y ((p2 - p1)) p3 σ8 _ h) gX8_tail_X5_addTail rfl ⟨rfl, nkX5_addTail⟩ rmOk_X8_tail__X5_addTail kC36 iC36 rfl rfl (Nat.le_of_ble_eq_true rfl) dX8_tail_51 rfl (fun x12 σ11 h => ?_)
          refine q_if_eq C 67 dX8_tail_54 (by decide) (fun c13 => ?_) (fun c13 => ?_)
          · replace h := h.1 c13
            refine q_ldc (v := (-1000000004 : Int32)) C (List.mem_of_getElem? (i := 4) rfl) dX8_tail_67 ?_
            exact q_iret C hQ dX8_tail_69 h
          · replace h := h.2 c13
            refine q_aload_n C 0 dX8_tail_57 rfl ?_
            refine q_getr (T := TX8) C kC0 iC0 inX8_tail_X8 rfl 6 (by decide) (List.mem_of_getElem? (i := 2) rfl) (fun _ h9 => h9) rfl dX8_tail_58 ?_
            refine q_geti (T := TX5) C kC36 iC36 inX8_tail_X5 rfl 1 (by decide) (List.mem_of_getElem? (i := 3) rfl) (fun _ h9 => h9) rfl dX8_tail_61 ?_
            refine q_goto C 69 dX8_tail_64 (by decide) ?_
            exact q_iret C hQ dX8_tail_69 h
        · replace h := h.2 c10
          refine q_ldc (v := (-1000000002 : Int32)) C (List.mem_of_getElem? (i := 1) rfl) dX8_tail_40 ?_
          exact q_iret C hQ dX8_tail_42 h
theorem c_X8_tail (Y : CY)  (p1 : Int32) (p2 : Int32) (p3 : Int32) (σ : St) (Post : Int32 → St → Prop) (h : w_X8_tail p1 p2 p3 σ Post) : Ki SC Y yX8_tail wsX8_tail rmX8_tail [.ref (qa Y 0), .int p1, .int p2, .int p3] σ Post :=
  Ki_of (cc := cX8_tail) (nL := 4) (ret := (some .int)) (by decide +kernel) rfl (Nat.le_of_ble_eq_true rfl) (fun Z C hQ => b_X8_tail C hQ  p1 p2 p3 σ h)
abbrev rmX8_tear : Room := { frames := 1, cells := 0, slots := 0, locals := 20 }
theorem nkX8_tear : NmOk yX8_tear 0 := by decide +kernel
theorem rmOk_X8_tear__X5_clear : RmOk rmX5_clear rmX8_tear 1 := ⟨rfl, rfl, by decide, by decide⟩
theorem inX8_tear_X5 : ∀ w ∈ u_ws RX5 TX5 9, w ∈ wsX8_tear := fun _ h => List.mem_cons_of_mem _ (List.mem_append_right _ h)
theorem inX8_tear_X8 : ∀ w ∈ u_ws RX8 TX8 10, w ∈ wsX8_tear := fun _ h => List.mem_cons_of_mem _ (List.mem_append_left _ (List.mem_append_right _ h))
def w_X8_tear (σ : St) (Post : Int32 → St → Prop) : Prop := ∀ x1 : Int32, x1 = (((σ 36 0) + (σ 36 1)) + (σ 36 2)) → w_X5_clear σ (fun σ2 => Post x1 σ2)
set_option maxHeartbeats 4000000 in
set_option maxRecDepth 100000 in
theorem b_X8_tear {Y : CY} {Z : CZ} (C : cx SC 2 Y Z cX8_tear RX8 wsX8_tear (some .int) rmX8_tear) {Post : Int32 → St → Prop} (hQ : Qi SC Y Z Post)  (σ : St) (h : w_X8_tear  σ Post) : WW SC 2 Y Z σ 0 [(0, .ref (qa Y 0))] [] := by
  unfold w_X8_tear at h
  refine q_aload_n C 0 dX8_tear_0 rfl ?_
  refine q_getr (T := TX8) C kC0 iC0 inX8_tear_X8 rfl 6 (by decide) (List.mem_of_getElem? (i := 1) rfl) (fun _ h9 => h9) rfl dX8_tear_1 ?_
  refine q_geti (T := TX5) C kC36 iC36 inX8_tear_X5 rfl 0 (by decide) (List.mem_of_getElem? (i := 2) rfl) (fun _ h9 => h9) rfl dX8_tear_4 ?_
  refine q_aload_n C 0 dX8_tear_7 rfl ?_
  refine q_getr (T := TX8) C kC0 iC0 inX8_tear_X8 rfl 6 (by decide) (List.mem_of_getElem? (i := 1) rfl) (fun _ h9 => h9) rfl dX8_tear_8 ?_
  refine q_geti (T := TX5) C kC36 iC36 inX8_tear_X5 rfl 1 (by decide) (List.mem_of_getElem? (i := 3) rfl) (fun _ h9 => h9) rfl dX8_tear_11 ?_
  refine q_iadd C dX8_tear_14 ?_
  refine q_aload_n C 0 dX8_tear_15 rfl ?_
  refine q_getr (T := TX8) C kC0 iC0 inX8_tear_X8 rfl 6 (by decide) (List.mem_of_getElem? (i := 1) rfl) (fun _ h9 => h9) rfl dX8_tear_16 ?_
  refine q_geti (T := TX5) C kC36 iC36 inX8_tear_X5 rfl 2 (by decide) (List.mem_of_getElem? (i := 4) rfl) (fun _ h9 => h9) rfl dX8_tear_19 ?_
  refine q_iadd C dX8_tear_22 ?_
  refine q_topi (fun x1 ex1 => ?_)
  replace h := h x1 ex1
  refine q_istore_n C [(1, .int x1), (0, .ref (qa Y 0))] dX8_tear_23 (by decide) rfl ?_
  refine q_aload_n C 1 dX8_tear_24 rfl ?_
  refine q_getr (T := TX8) C kC0 iC0 inX8_tear_X8 rfl 6 (by decide) (List.mem_of_getElem? (i := 1) rfl) (fun _ h9 => h9) rfl dX8_tear_25 ?_
  refine q_callVv (As := []) (st := []) C (c_X5_clear Y σ _ h) gX8_tear_X5_clear rfl ⟨rfl, nkX5_clear⟩ rmOk_X8_tear__X5_clear kC36 iC36 rfl rfl (Nat.le_of_ble_eq_true rfl) dX8_tear_28 rfl (fun σ2 h => ?_)
  refine q_iload_n C 0 dX8_tear_31 rfl ?_
  exact q_iret C hQ dX8_tear_32 h
theorem c_X8_tear (Y : CY)  (σ : St) (Post : Int32 → St → Prop) (h : w_X8_tear  σ Post) : Ki SC Y yX8_tear wsX8_tear rmX8_tear [.ref (qa Y 0)] σ Post :=
  Ki_of (cc := cX8_tear) (nL := 2) (ret := (some .int)) (by decide +kernel) rfl (Nat.le_of_ble_eq_true rfl) (fun Z C hQ => b_X8_tear C hQ  σ h)
abbrev rmX8_told : Room := { frames := 2, cells := 0, slots := 0, locals := 44 }
theorem nkX8_told : NmOk yX8_told 1 := by decide +kernel
theorem rmOk_X8_told__X4_tailLength : RmOk rmX4_tailLength rmX8_told 1 := ⟨rfl, rfl, by decide, by decide⟩
theorem inX8_told_X1 : ∀ w ∈ u_ws RX1 TX1 3, w ∈ wsX8_told := fun _ h => List.mem_cons_of_mem _ (List.mem_append_right _ h)
theorem inX8_told_X3 : ∀ w ∈ u_ws RX3 TX3 12, w ∈ wsX8_told := fun _ h => List.mem_cons_of_mem _ (List.mem_append_left _ (List.mem_append_left _ (List.mem_append_left _ (List.mem_append_left _ (List.mem_append_right _ h)))))
theorem inX8_told_X4 : ∀ w ∈ u_ws RX4 TX4 12, w ∈ wsX8_told := fun _ h => List.mem_cons_of_mem _ (List.mem_append_left _ (List.mem_append_left _ (List.mem_append_right _ h)))
theorem inX8_told_X5 : ∀ w ∈ u_ws RX5 TX5 9, w ∈ wsX8_told := fun _ h => List.mem_cons_of_mem _ (List.mem_append_left _ (List.mem_append_right _ h))
theorem inX8_told_X6 : ∀ w ∈ u_ws RX6 TX6 8, w ∈ wsX8_told := fun _ h => List.mem_cons_of_mem _ (List.mem_append_left _ (List.mem_append_left _ (List.mem_append_left _ (List.mem_append_right _ h))))
theorem inX8_told_X8 : ∀ w ∈ u_ws RX8 TX8 10, w ∈ wsX8_told := fun _ h => List.mem_cons_of_mem _ (List.mem_append_left _ (List.mem_append_left _ (List.mem_append_left _ (List.mem_append_left _ (List.mem_append_left _ (List.mem_append_right _ h))))))
def w_X8_told (p1 : Int32) (σ : St) (Post : Int32 → St → Prop) : Prop := (p1 = (0 : Int32) → ((σ 3 0) = 0 → Post (0 : Int32) σ) ∧ (¬ (σ 3 0) = 0 → Post (1 : Int32) σ)) ∧ (¬ p1 = (0 : Int32) → (p1 = (1 : Int32) → Post (((σ 3 1) + (9 : Int32))) σ) ∧ (¬ p1 = (1 : Int32) → (p1 = (2 : Int32) → Post (((σ 3 2) + (9 : Int32))) σ) ∧ (¬ p1 = (2 : Int32) → (p1 = (3 : Int32) → Post ((σ 3 3)) σ) ∧ (¬ p1 = (3 : Int32) → (p1 = (4 : Int32) → Post ((σ 3 4)) σ) ∧ (¬ p1 = (4 : Int32) → (p1 = (5 : Int32) → Post ((σ 3 5)) σ) ∧ (¬ p1 = (5 : Int32) → (p1 = (6 : Int32) → Post (((σ 3 6) + (99 : Int32))) σ) ∧ (¬ p1 = (6 : Int32) → (p1 = (7 : Int32) → Post ((σ 3 7)) σ) ∧ (¬ p1 = (7 : Int32) → (p1 = (8 : Int32) → Post ((σ 3 8)) σ) ∧ (¬ p1 = (8 : Int32) → (p1 = (9 : Int32) → Post ((σ 1 0)) σ) ∧ (¬ p1 = (9 : Int32) → (p1 = (10 : Int32) → Post ((σ 11 0)) σ) ∧ (¬ p1 = (10 : Int32) → (p1 = (11 : Int32) → Post (((σ 11 1) + (10000 : Int32))) σ) ∧ (¬ p1 = (11 : Int32) → (p1 = (12 : Int32) → Post (((σ 11 2) + (10000 : Int32))) σ) ∧ (¬ p1 = (12 : Int32) → (p1 = (13 : Int32) → ((σ 11 3) = 0 → Post (0 : Int32) σ) ∧ (¬ (σ 11 3) = 0 → Post (1 : Int32) σ)) ∧ (¬ p1 = (13 : Int32) → (p1 = (14 : Int32) → ((σ 11 4) = 0 → Post (0 : Int32) σ) ∧ (¬ (σ 11 4) = 0 → Post (1 : Int32) σ)) ∧ (¬ p1 = (14 : Int32) → (p1 = (15 : Int32) → Post ((σ 11 7)) σ) ∧ (¬ p1 = (15 : Int32) → (p1 = (16 : Int32) → w_X4_tailLength 11 σ (fun x22 σ21 => Post x22 σ21)) ∧ (¬ p1 = (16 : Int32) → (p1 = (17 : Int32) → Post ((σ 36 0)) σ) ∧ (¬ p1 = (17 : Int32) → (p1 = (18 : Int32) → Post ((σ 36 1)) σ) ∧ (¬ p1 = (18 : Int32) → (p1 = (19 : Int32) → Post ((σ 36 2)) σ) ∧ (¬ p1 = (19 : Int32) → (p1 = (20 : Int32) → Post ((σ 14 0)) σ) ∧ (¬ p1 = (20 : Int32) → Post (-1000000002 : Int32) σ)))))))))))))))))))))
set_option maxHeartbeats 4000000 in
set_option maxRecDepth 100000 in
theorem b_X8_told {Y : CY} {Z : CZ} (C : cx SC 2 Y Z cX8_told RX8 wsX8_told (some .int) rmX8_told) {Post : Int32 → St → Prop} (hQ : Qi SC Y Z Post)  (p1 : Int32) (σ : St) (h : w_X8_told p1 σ Post) : WW SC 2 Y Z σ 0 [(0, .ref (qa Y 0)), (1, .int p1)] [] := by
  unfold w_X8_told at h
  refine q_iload_n C 1 dX8_told_0 rfl ?_
  by_cases c1 : p1 = (0 : Int32)
  · replace h := h.1 c1
    refine q_tableIn C 100 dX8_told_1 (by rw [c1]; decide) (by rw [c1]; decide) (by rw [c1]; rfl) (by decide) ?_
    refine q_aload_n C 0 dX8_told_100 rfl ?_
    refine q_getr (T := TX8) C kC0 iC0 inX8_told_X8 rfl 1 (by decide) (List.mem_of_getElem? (i := 1) rfl) (fun _ h9 => h9) rfl dX8_told_101 ?_
    refine q_geti (T := TX3) C kC3 iC3 inX8_told_X3 rfl 0 (by decide) (List.mem_of_getElem? (i := 2) rfl) (fun _ h9 => h9) rfl dX8_told_104 ?_
    refine q_if_eq C 114 dX8_told_107 (by decide) (fun c2 => ?_) (fun c2 => ?_)
    · replace h := h.1 c2
      refine q_iconst (v := (0 : Int32)) C dX8_told_114 (by decide) ?_
      exact q_iret C hQ dX8_told_115 h
    · replace h := h.2 c2
      refine q_iconst (v := (1 : Int32)) C dX8_told_110 (by decide) ?_
      refine q_goto C 115 dX8_told_111 (by decide) ?_
      exact q_iret C hQ dX8_told_115 h
  · replace h := h.2 c1
    by_cases c3 : p1 = (1 : Int32)
    · replace h := h.1 c3
      refine q_tableIn C 116 dX8_told_1 (by rw [c3]; decide) (by rw [c3]; decide) (by rw [c3]; rfl) (by decide) ?_
      refine q_aload_n C 0 dX8_told_116 rfl ?_
      refine q_getr (T := TX8) C kC0 iC0 inX8_told_X8 rfl 1 (by decide) (List.mem_of_getElem? (i := 1) rfl) (fun _ h9 => h9) rfl dX8_told_117 ?_
      refine q_geti (T := TX3) C kC3 iC3 inX8_told_X3 rfl 1 (by decide) (List.mem_of_getElem? (i := 3) rfl) (fun _ h9 => h9) rfl dX8_told_120 ?_
      refine q_bipush (v := (9 : Int32)) C dX8_told_123 (by decide) ?_
      refine q_iadd C dX8_told_125 ?_
      exact q_iret C hQ dX8_told_126 h
    · replace h := h.2 c3
      by_cases c4 : p1 = (2 : Int32)
      · replace h := h.1 c4
        refine q_tableIn C 127 dX8_told_1 (by rw [c4]; decide) (by rw [c4]; decide) (by rw [c4]; rfl) (by decide) ?_
        refine q_aload_n C 0 dX8_told_127 rfl ?_
        refine q_getr (T := TX8) C kC0 iC0 inX8_told_X8 rfl 1 (by decide) (List.mem_of_getElem? (i := 1) rfl) (fun _ h9 => h9) rfl dX8_told_128 ?_
        refine q_geti (T := TX3) C kC3 iC3 inX8_told_X3 rfl 2 (by decide) (List.mem_of_getElem? (i := 4) rfl) (fun _ h9 => h9) rfl dX8_told_131 ?_
        refine q_bipush (v := (9 : Int32)) C dX8_told_134 (by decide) ?_
        refine q_iadd C dX8_told_136 ?_
        exact q_iret C hQ dX8_told_137 h
      · replace h := h.2 c4
        by_cases c5 : p1 = (3 : Int32)
        · replace h := h.1 c5
          refine q_tableIn C 138 dX8_told_1 (by rw [c5]; decide) (by rw [c5]; decide) (by rw [c5]; rfl) (by decide) ?_
          refine q_aload_n C 0 dX8_told_138 rfl ?_
          refine q_getr (T := TX8) C kC0 iC0 inX8_told_X8 rfl 1 (by decide) (List.mem_of_getElem? (i := 1) rfl) (fun _ h9 => h9) rfl dX8_told_139 ?_
          refine q_geti (T := TX3) C kC3 iC3 inX8_told_X3 rfl 3 (by decide) (List.mem_of_getElem? (i := 5) rfl) (fun _ h9 => h9) rfl dX8_told_142 ?_
          exact q_iret C hQ dX8_told_145 h
        · replace h := h.2 c5
          by_cases c6 : p1 = (4 : Int32)
          · replace h := h.1 c6
            refine q_tableIn C 146 dX8_told_1 (by rw [c6]; decide) (by rw [c6]; decide) (by rw [c6]; rfl) (by decide) ?_
            refine q_aload_n C 0 dX8_told_146 rfl ?_
            refine q_getr (T := TX8) C kC0 iC0 inX8_told_X8 rfl 1 (by decide) (List.mem_of_getElem? (i := 1) rfl) (fun _ h9 => h9) rfl dX8_told_147 ?_
            refine q_geti (T := TX3) C kC3 iC3 inX8_told_X3 rfl 4 (by decide) (List.mem_of_getElem? (i := 6) rfl) (fun _ h9 => h9) rfl dX8_told_150 ?_
            exact q_iret C hQ dX8_told_153 h
          · replace h := h.2 c6
            by_cases c7 : p1 = (5 : Int32)
            · replace h := h.1 c7
              refine q_tableIn C 154 dX8_told_1 (by rw [c7]; decide) (by rw [c7]; decide) (by rw [c7]; rfl) (by decide) ?_
              refine q_aload_n C 0 dX8_told_154 rfl ?_
              refine q_getr (T := TX8) C kC0 iC0 inX8_told_X8 rfl 1 (by decide) (List.mem_of_getElem? (i := 1) rfl) (fun _ h9 => h9) rfl dX8_told_155 ?_
              refine q_geti (T := TX3) C kC3 iC3 inX8_told_X3 rfl 5 (by decide) (List.mem_of_getElem? (i := 7) rfl) (fun _ h9 => h9) rfl dX8_told_158 ?_
              exact q_iret C hQ dX8_told_161 h
            · replace h := h.2 c7
              by_cases c8 : p1 = (6 : Int32)
              · replace h := h.1 c8
                refine q_tableIn C 162 dX8_told_1 (by rw [c8]; decide) (by rw [c8]; decide) (by rw [c8]; rfl) (by decide) ?_
                refine q_aload_n C 0 dX8_told_162 rfl ?_
                refine q_getr (T := TX8) C kC0 iC0 inX8_told_X8 rfl 1 (by decide) (List.mem_of_getElem? (i := 1) rfl) (fun _ h9 => h9) rfl dX8_told_163 ?_
                refine q_geti (T := TX3) C kC3 iC3 inX8_told_X3 rfl 6 (by decide) (List.mem_of_getElem? (i := 8) rfl) (fun _ h9 => h9) rfl dX8_told_166 ?_
                refine q_bipush (v := (99 : Int32)) C dX8_told_169 (by decide) ?_
                refine q_iadd C dX8_told_171 ?_
                exact q_iret C hQ dX8_told_172 h
              · replace h := h.2 c8
                by_cases c9 : p1 = (7 : Int32)
                · replace h := h.1 c9
                  refine q_tableIn C 173 dX8_told_1 (by rw [c9]; decide) (by rw [c9]; decide) (by rw [c9]; rfl) (by decide) ?_
                  refine q_aload_n C 0 dX8_told_173 rfl ?_
                  refine q_getr (T := TX8) C kC0 iC0 inX8_told_X8 rfl 1 (by decide) (List.mem_of_getElem? (i := 1) rfl) (fun _ h9 => h9) rfl dX8_told_174 ?_
                  refine q_geti (T := TX3) C kC3 iC3 inX8_told_X3 rfl 7 (by decide) (List.mem_of_getElem? (i := 9) rfl) (fun _ h9 => h9) rfl dX8_told_177 ?_
                  exact q_iret C hQ dX8_told_180 h
                · replace h := h.2 c9
                  by_cases c10 : p1 = (8 : Int32)
                  · replace h := h.1 c10
                    refine q_tableIn C 181 dX8_told_1 (by rw [c10]; decide) (by rw [c10]; decide) (by rw [c10]; rfl) (by decide) ?_
                    refine q_aload_n C 0 dX8_told_181 rfl ?_
                    refine q_getr (T := TX8) C kC0 iC0 inX8_told_X8 rfl 1 (by decide) (List.mem_of_getElem? (i := 1) rfl) (fun _ h9 => h9) rfl dX8_told_182 ?_
                    refine q_geti (T := TX3) C kC3 iC3 inX8_told_X3 rfl 8 (by decide) (List.mem_of_getElem? (i := 10) rfl) (fun _ h9 => h9) rfl dX8_told_185 ?_
                    exact q_iret C hQ dX8_told_188 h
                  · replace h := h.2 c10
                    by_cases c11 : p1 = (9 : Int32)
                    · replace h := h.1 c11
                      refine q_tableIn C 189 dX8_told_1 (by rw [c11]; decide) (by rw [c11]; decide) (by rw [c11]; rfl) (by decide) ?_
                      refine q_aload_n C 0 dX8_told_189 rfl ?_
                      refine q_getr (T := TX8) C kC0 iC0 inX8_told_X8 rfl 0 (by decide) (List.mem_of_getElem? (i := 11) rfl) (fun _ h9 => h9) rfl dX8_told_190 ?_
                      refine q_geti (T := TX6) C kC1 iC1 inX8_told_X6 rfl 0 (by decide) (List.mem_of_getElem? (i := 12) rfl) (fun _ h9 => h9) rfl dX8_told_193 ?_
                      exact q_iret C hQ dX8_told_196 h
                    · replace h := h.2 c11
                      by_cases c12 : p1 = (10 : Int32)
                      · replace h := h.1 c12
                        refine q_tableIn C 197 dX8_told_1 (by rw [c12]; decide) (by rw [c12]; decide) (by rw [c12]; rfl) (by decide) ?_
                        refine q_aload_n C 0 dX8_told_197 rfl ?_
                        refine q_getr (T := TX8) C kC0 iC0 inX8_told_X8 rfl 3 (by decide) (List.mem_of_getElem? (i := 13) rfl) (fun _ h9 => h9) rfl dX8_told_198 ?_
                        refine q_geti (T := TX4) C kC11 iC11 inX8_told_X4 rfl 0 (by decide) (List.mem_of_getElem? (i := 14) rfl) (fun _ h9 => h9) rfl dX8_told_201 ?_
                        exact q_iret C hQ dX8_told_204 h
                      · replace h := h.2 c12
                        by_cases c13 : p1 = (11 : Int32)
                        · replace h := h.1 c13
                          refine q_tableIn C 205 dX8_told_1 (by rw [c13]; decide) (by rw [c13]; decide) (by rw [c13]; rfl) (by decide) ?_
                          refine q_aload_n C 0 dX8_told_205 rfl ?_
                          refine q_getr (T := TX8) C kC0 iC0 inX8_told_X8 rfl 3 (by decide) (List.mem_of_getElem? (i := 13) rfl) (fun _ h9 => h9) rfl dX8_told_206 ?_
                          refine q_geti (T := TX4) C kC11 iC11 inX8_told_X4 rfl 1 (by decide) (List.mem_of_getElem? (i := 15) rfl) (fun _ h9 => h9) rfl dX8_told_209 ?_
                          refine q_sipush (v := (10000 : Int32)) C dX8_told_212 (by decide) ?_
                          refine q_iadd C dX8_told_215 ?_
                          exact q_iret C hQ dX8_told_216 h
                        · replace h := h.2 c13
                          by_cases c14 : p1 = (12 : Int32)
                          · replace h := h.1 c14
                            refine q_tableIn C 217 dX8_told_1 (by rw [c14]; decide) (by rw [c14]; decide) (by rw [c14]; rfl) (by decide) ?_
                            refine q_aload_n C 0 dX8_told_217 rfl ?_
                            refine q_getr (T := TX8) C kC0 iC0 inX8_told_X8 rfl 3 (by decide) (List.mem_of_getElem? (i := 13) rfl) (fun _ h9 => h9) rfl dX8_told_218 ?_
                            refine q_geti (T := TX4) C kC11 iC11 inX8_told_X4 rfl 2 (by decide) (List.mem_of_getElem? (i := 16) rfl) (fun _ h9 => h9) rfl dX8_told_221 ?_
                            refine q_sipush (v := (10000 : Int32)) C dX8_told_224 (by decide) ?_
                            refine q_iadd C dX8_told_227 ?_
                            exact q_iret C hQ dX8_told_228 h
                          · replace h := h.2 c14
                            by_cases c15 : p1 = (13 : Int32)
                            · replace h := h.1 c15
                              refine q_tableIn C 229 dX8_told_1 (by rw [c15]; decide) (by rw [c15]; decide) (by rw [c15]; rfl) (by decide) ?_
                              refine q_aload_n C 0 dX8_told_229 rfl ?_
                              refine q_getr (T := TX8) C kC0 iC0 inX8_told_X8 rfl 3 (by decide) (List.mem_of_getElem? (i := 13) rfl) (fun _ h9 => h9) rfl dX8_told_230 ?_
                              refine q_geti (T := TX4) C kC11 iC11 inX8_told_X4 rfl 3 (by decide) (List.mem_of_getElem? (i := 17) rfl) (fun _ h9 => h9) rfl dX8_told_233 ?_
                              refine q_if_eq C 243 dX8_told_236 (by decide) (fun c16 => ?_) (fun c16 => ?_)
                              · replace h := h.1 c16
                                refine q_iconst (v := (0 : Int32)) C dX8_told_243 (by decide) ?_
                                exact q_iret C hQ dX8_told_244 h
                              · replace h := h.2 c16
                                refine q_iconst (v := (1 : Int32)) C dX8_told_239 (by decide) ?_
                                refine q_goto C 244 dX8_told_240 (by decide) ?_
                                exact q_iret C hQ dX8_told_244 h
                            · replace h := h.2 c15
                              by_cases c17 : p1 = (14 : Int32)
                              · replace h := h.1 c17
                                refine q_tableIn C 245 dX8_told_1 (by rw [c17]; decide) (by rw [c17]; decide) (by rw [c17]; rfl) (by decide) ?_
                                refine q_aload_n C 0 dX8_told_245 rfl ?_
                                refine q_getr (T := TX8) C kC0 iC0 inX8_told_X8 rfl 3 (by decide) (List.mem_of_getElem? (i := 13) rfl) (fun _ h9 => h9) rfl dX8_told_246 ?_
                                refine q_geti (T := TX4) C kC11 iC11 inX8_told_X4 rfl 4 (by decide) (List.mem_of_getElem? (i := 18) rfl) (fun _ h9 => h9) rfl dX8_told_249 ?_
                                refine q_if_eq C 259 dX8_told_252 (by decide) (fun c18 => ?_) (fun c18 => ?_)
                                · replace h := h.1 c18
                                  refine q_iconst (v := (0 : Int32)) C dX8_told_259 (by decide) ?_
                                  exact q_iret C hQ dX8_told_260 h
                                · replace h := h.2 c18
                                  refine q_iconst (v := (1 : Int32)) C dX8_told_255 (by decide) ?_
                                  refine q_goto C 260 dX8_told_256 (by decide) ?_
                                  exact q_iret C hQ dX8_told_260 h
                              · replace h := h.2 c17
                                by_cases c19 : p1 = (15 : Int32)
                                · replace h := h.1 c19
                                  refine q_tableIn C 261 dX8_told_1 (by rw [c19]; decide) (by rw [c19]; decide) (by rw [c19]; rfl) (by decide) ?_
                                  refine q_aload_n C 0 dX8_told_261 rfl ?_
                                  refine q_getr (T := TX8) C kC0 iC0 inX8_told_X8 rfl 3 (by decide) (List.mem_of_getElem? (i := 13) rfl) (fun _ h9 => h9) rfl dX8_told_262 ?_
                                  refine q_geti (T := TX4) C kC11 iC11 inX8_told_X4 rfl 7 (by decide) (List.mem_of_getElem? (i := 19) rfl) (fun _ h9 => h9) rfl dX8_told_265 ?_
                                  exact q_iret C hQ dX8_told_268 h
                                · replace h := h.2 c19
                                  by_cases c20 : p1 = (16 : Int32)
                                  · replace h := h.1 c20
                                    refine q_tableIn C 269 dX8_told_1 (by rw [c20]; decide) (by rw [c20]; decide) (by rw [c20]; rfl) (by decide) ?_
                                    refine q_aload_n C 0 dX8_told_269 rfl ?_
                                    refine q_getr (T := TX8) C kC0 iC0 inX8_told_X8 rfl 3 (by decide) (List.mem_of_getElem? (i := 13) rfl) (fun _ h9 => h9) rfl dX8_told_270 ?_
                                    refine q_callVi (As := []) (st := []) C (c_X4_tailLength Y kC11 iC11 σ _ h) gX8_told_X4_tailLength rfl ⟨rfl, nkX4_tailLength⟩ rmOk_X8_told__X4_tailLength kC11 iC11 rfl rfl (Nat.le_of_ble_eq_true rfl) dX8_told_273 rfl (fun x22 σ21 h => ?_)
                                    exact q_iret C hQ dX8_told_276 h
                                  · replace h := h.2 c20
                                    by_cases c23 : p1 = (17 : Int32)
                                    · replace h := h.1 c23
                                      refine q_tableIn C 277 dX8_told_1 (by rw [c23]; decide) (by rw [c23]; decide) (by rw [c23]; rfl) (by decide) ?_
                                      refine q_aload_n C 0 dX8_told_277 rfl ?_
                                      refine q_getr (T := TX8) C kC0 iC0 inX8_told_X8 rfl 6 (by decide) (List.mem_of_getElem? (i := 20) rfl) (fun _ h9 => h9) rfl dX8_told_278 ?_
                                      refine q_geti (T := TX5) C kC36 iC36 inX8_told_X5 rfl 0 (by decide) (List.mem_of_getElem? (i := 21) rfl) (fun _ h9 => h9) rfl dX8_told_281 ?_
                                      exact q_iret C hQ dX8_told_284 h
                                    · replace h := h.2 c23
                                      by_cases c24 : p1 = (18 : Int32)
                                      · replace h := h.1 c24
                                        refine q_tableIn C 285 dX8_told_1 (by rw [c24]; decide) (by rw [c24]; decide) (by rw [c24]; rfl) (by decide) ?_
                                        refine q_aload_n C 0 dX8_told_285 rfl ?_
                                        refine q_getr (T := TX8) C kC0 iC0 inX8_told_X8 rfl 6 (by decide) (List.mem_of_getElem? (i := 20) rfl) (fun _ h9 => h9) rfl dX8_told_286 ?_
                                        refine q_geti (T := TX5) C kC36 iC36 inX8_told_X5 rfl 1 (by decide) (List.mem_of_getElem? (i := 22) rfl) (fun _ h9 => h9) rfl dX8_told_289 ?_
                                        exact q_iret C hQ dX8_told_292 h
                                      · replace h := h.2 c24
                                        by_cases c25 : p1 = (19 : Int32)
                                        · replace h := h.1 c25
                                          refine q_tableIn C 293 dX8_told_1 (by rw [c25]; decide) (by rw [c25]; decide) (by rw [c25]; rfl) (by decide) ?_
                                          refine q_aload_n C 0 dX8_told_293 rfl ?_
                                          refine q_getr (T := TX8) C kC0 iC0 inX8_told_X8 rfl 6 (by decide) (List.mem_of_getElem? (i := 20) rfl) (fun _ h9 => h9) rfl dX8_told_294 ?_
                                          refine q_geti (T := TX5) C kC36 iC36 inX8_told_X5 rfl 2 (by decide) (List.mem_of_getElem? (i := 23) rfl) (fun _ h9 => h9) rfl dX8_told_297 ?_
                                          exact q_iret C hQ dX8_told_300 h
                                        · replace h := h.2 c25
                                          by_cases c26 : p1 = (20 : Int32)
                                          · replace h := h.1 c26
                                            refine q_tableIn C 301 dX8_told_1 (by rw [c26]; decide) (by rw [c26]; decide) (by rw [c26]; rfl) (by decide) ?_
                                            refine q_aload_n C 0 dX8_told_301 rfl ?_
                                            refine q_getr (T := TX8) C kC0 iC0 inX8_told_X8 rfl 5 (by decide) (List.mem_of_getElem? (i := 24) rfl) (fun _ h9 => h9) rfl dX8_told_302 ?_
                                            refine q_geti (T := TX1) C kC14 iC14 inX8_told_X1 rfl 0 (by decide) (List.mem_of_getElem? (i := 25) rfl) (fun _ h9 => h9) rfl dX8_told_305 ?_
                                            exact q_iret C hQ dX8_told_308 h
                                          · replace h := h.2 c26
                                            refine q_tableOut C 309 dX8_told_1 (tsw_out (fun k z1 z2 => ?_)) (by decide) ?_
                                            · have z3 : k = 0 ∨ k = 1 ∨ k = 2 ∨ k = 3 ∨ k = 4 ∨ k = 5 ∨ k = 6 ∨ k = 7 ∨ k = 8 ∨ k = 9 ∨ k = 10 ∨ k = 11 ∨ k = 12 ∨ k = 13 ∨ k = 14 ∨ k = 15 ∨ k = 16 ∨ k = 17 ∨ k = 18 ∨ k = 19 ∨ k = 20 := by omega
                                              rcases z3 with rfl | rfl | rfl | rfl | rfl | rfl | rfl | rfl | rfl | rfl | rfl | rfl | rfl | rfl | rfl | rfl | rfl | rfl | rfl | rfl | rfl
                                              · exact ne_ti c1
                                              · exact ne_ti c3
                                              · exact ne_ti c4
                                              · exact ne_ti c5
                                              · exact ne_ti c6
                                              · exact ne_ti c7
                                              · exact ne_ti c8
                                              · exact ne_ti c9
                                              · exact ne_ti c10
                                              · exact ne_ti c11
                                              · exact ne_ti c12
                                              · exact ne_ti c13
                                              · exact ne_ti c14
                                              · exact ne_ti c15
                                              · exact ne_ti c17
                                              · exact ne_ti c19
                                              · exact ne_ti c20
                                              · exact ne_ti c23
                                              · exact ne_ti c24
                                              · exact ne_ti c25
                                              · exact ne_ti c26
                                            · refine q_ldc (v := (-1000000002 : Int32)) C (List.mem_of_getElem? (i := 26) rfl) dX8_told_309 ?_
                                              exact q_iret C hQ dX8_told_311 h
theorem c_X8_told (Y : CY)  (p1 : Int32) (σ : St) (Post : Int32 → St → Prop) (h : w_X8_told p1 σ Post) : Ki SC Y yX8_told wsX8_told rmX8_told [.ref (qa Y 0), .int p1] σ Post :=
  Ki_of (cc := cX8_told) (nL := 2) (ret := (some .int)) (by decide +kernel) rfl (Nat.le_of_ble_eq_true rfl) (fun Z C hQ => b_X8_told C hQ  p1 σ h)
abbrev rmX8_turns : Room := { frames := 1, cells := 0, slots := 0, locals := 24 }
theorem nkX8_turns : NmOk yX8_turns 2 := by decide +kernel
theorem rmOk_X8_turns__X8_isWithin : RmOk rmX8_isWithin rmX8_turns 3 := ⟨rfl, rfl, by decide, by decide⟩
theorem inX8_turns_X3 : ∀ w ∈ u_ws RX3 TX3 12, w ∈ wsX8_turns := fun _ h => List.mem_cons_of_mem _ (List.mem_append_right _ h)
theorem inX8_turns_X8 : ∀ w ∈ u_ws RX8 TX8 10, w ∈ wsX8_turns := fun _ h => List.mem_cons_of_mem _ (List.mem_append_left _ (List.mem_append_right _ h))
def w_X8_turns (p1 : Int32) (p2 : Int32) (σ : St) (Post : Int32 → St → Prop) : Prop := w_X8_isWithin p1 (0 : Int32) (99 : Int32) σ (fun x2 σ1 => (x2 = 0 → Post (-1000000002 : Int32) σ1) ∧ (¬ x2 = 0 → w_X8_isWithin p2 (0 : Int32) (999 : Int32) σ1 (fun x5 σ4 => (¬ x5 = 0 → ((σ4 3 0) = 0 → Post (-1000000003 : Int32) σ4) ∧ (¬ (σ4 3 0) = 0 → ∀ x8 : Int32, x8 = (if 0 ≤ (σ4 3 2) then (σ4 3 2) else 0 - (σ4 3 2)) → Post ((((p1 * x8) * p2) / (100 : Int32))) σ4)) ∧ (x5 = 0 → Post (-1000000002 : Int32) σ4))))
set_option maxHeartbeats 4000000 in
set_option maxRecDepth 100000 in
theorem b_X8_turns {Y : CY} {Z : CZ} (C : cx SC 3 Y Z cX8_turns RX8 wsX8_turns (some .int) rmX8_turns) {Post : Int32 → St → Prop} (hQ : Qi SC Y Z Post)  (p1 : Int32) (p2 : Int32) (σ : St) (h : w_X8_turns p1 p2 σ Post) : WW SC 3 Y Z σ 0 [(0, .ref (qa Y 0)), (1, .int p1), (2, .int p2)] [] := by
  unfold w_X8_turns at h
  refine q_iload_n C 1 dX8_turns_0 rfl ?_
  refine q_iconst (v := (0 : Int32)) C dX8_turns_1 (by decide) ?_
  refine q_bipush (v := (99 : Int32)) C dX8_turns_2 (by decide) ?_
  refine q_callSi (As := [.int p1, .int (0 : Int32), .int (99 : Int32)]) (st := []) C (c_X8_isWithin Y p1 (0 : Int32) (99 : Int32) σ _ h) gX8_turns_X8_isWithin rfl nkX8_isWithin rmOk_X8_turns__X8_isWithin rfl (Nat.le_of_ble_eq_true rfl) dX8_turns_4 rfl (fun x2 σ1 h => ?_)
  refine q_if_eq C 21 dX8_turns_7 (by decide) (fun c3 => ?_) (fun c3 => ?_)
  · replace h := h.1 c3
    refine q_ldc (v := (-1000000002 : Int32)) C (List.mem_of_getElem? (i := 1) rfl) dX8_turns_21 ?_
    exact q_iret C hQ dX8_turns_23 h
  · replace h := h.2 c3
    refine q_iload_n C 2 dX8_turns_10 rfl ?_
    refine q_iconst (v := (0 : Int32)) C dX8_turns_11 (by decide) ?_
    refine q_sipush (v := (999 : Int32)) C dX8_turns_12 (by decide) ?_
    refine q_callSi (As := [.int p2, .int (0 : Int32), .int (999 : Int32)]) (st := []) C (c_X8_isWithin Y p2 (0 : Int32) (999 : Int32) σ1 _ h) gX8_turns_X8_isWithin rfl nkX8_isWithin rmOk_X8_turns__X8_isWithin rfl (Nat.le_of_ble_eq_true rfl) dX8_turns_15 rfl (fun x5 σ4 h => ?_)
    refine q_if_ne C 24 dX8_turns_18 (by decide) (fun c6 => ?_) (fun c6 => ?_)
    · replace h := h.1 c6
      refine q_aload_n C 0 dX8_turns_24 rfl ?_
      refine q_getr (T := TX8) C kC0 iC0 inX8_turns_X8 rfl 1 (by decide) (List.mem_of_getElem? (i := 2) rfl) (fun _ h9 => h9) rfl dX8_turns_25 ?_
      refine q_geti (T := TX3) C kC3 iC3 inX8_turns_X3 rfl 0 (by decide) (List.mem_of_getElem? (i := 3) rfl) (fun _ h9 => h9) rfl dX8_turns_28 ?_
      refine q_if_eq C 54 dX8_turns_31 (by decide) (fun c7 => ?_) (fun c7 => ?_)
      · replace h := h.1 c7
        refine q_ldc (v := (-1000000003 : Int32)) C (List.mem_of_getElem? (i := 9) rfl) dX8_turns_54 ?_
        exact q_iret C hQ dX8_turns_56 h
      · replace h := h.2 c7
        refine q_iload_n C 1 dX8_turns_34 rfl ?_
        refine q_aload_n C 0 dX8_turns_35 rfl ?_
        refine q_getr (T := TX8) C kC0 iC0 inX8_turns_X8 rfl 1 (by decide) (List.mem_of_getElem? (i := 2) rfl) (fun _ h9 => h9) rfl dX8_turns_36 ?_
        refine q_geti (T := TX3) C kC3 iC3 inX8_turns_X3 rfl 2 (by decide) (List.mem_of_getElem? (i := 4) rfl) (fun _ h9 => h9) rfl dX8_turns_39 ?_
        refine q_mabs C (List.mem_of_getElem? (i := 5) rfl) (List.mem_of_getElem? (i := 6) rfl) (List.mem_of_getElem? (i := 7) rfl) (List.mem_of_getElem? (i := 8) rfl) (by decide) (Nat.le_of_ble_eq_true rfl) dX8_turns_42 ?_
        refine q_topi (fun x8 ex8 => ?_)
        replace h := h x8 ex8
        refine q_imul C dX8_turns_45 ?_
        refine q_iload_n C 2 dX8_turns_46 rfl ?_
        refine q_imul C dX8_turns_47 ?_
        refine q_bipush (v := (100 : Int32)) C dX8_turns_48 (by decide) ?_
        refine q_idiv C dX8_turns_50 (by decide) ?_
        refine q_goto C 56 dX8_turns_51 (by decide) ?_
        exact q_iret C hQ dX8_turns_56 h
    · replace h := h.2 c6
      refine q_ldc (v := (-1000000002 : Int32)) C (List.mem_of_getElem? (i := 1) rfl) dX8_turns_21 ?_
      exact q_iret C hQ dX8_turns_23 h
theorem c_X8_turns (Y : CY)  (p1 : Int32) (p2 : Int32) (σ : St) (Post : Int32 → St → Prop) (h : w_X8_turns p1 p2 σ Post) : Ki SC Y yX8_turns wsX8_turns rmX8_turns [.ref (qa Y 0), .int p1, .int p2] σ Post :=
  Ki_of (cc := cX8_turns) (nL := 3) (ret := (some .int)) (by decide +kernel) rfl (Nat.le_of_ble_eq_true rfl) (fun Z C hQ => b_X8_turns C hQ  p1 p2 σ h)
abbrev rmX8_undo : Room := { frames := 2, cells := 0, slots := 0, locals := 44 }
theorem nkX8_undo : NmOk yX8_undo 0 := by decide +kernel
theorem rmOk_X8_undo__X1_popInto : RmOk rmX1_popInto rmX8_undo 4 := ⟨rfl, rfl, by decide, by decide⟩
theorem inX8_undo_X1 : ∀ w ∈ u_ws RX1 TX1 3, w ∈ wsX8_undo := fun _ h => List.mem_cons_of_mem _ (List.mem_append_left _ (List.mem_append_right _ h))
theorem inX8_undo_X8 : ∀ w ∈ u_ws RX8 TX8 10, w ∈ wsX8_undo := fun _ h => List.mem_cons_of_mem _ (List.mem_append_left _ (List.mem_append_left _ (List.mem_append_right _ h)))
def w_X8_undo (σ : St) (Post : Int32 → St → Prop) : Prop := w_X1_popInto σ (fun x2 σ1 => (x2 = 0 → Post (-1000000003 : Int32) σ1) ∧ (¬ x2 = 0 → Post ((σ1 14 0)) σ1))
set_option maxHeartbeats 4000000 in
set_option maxRecDepth 100000 in
theorem b_X8_undo {Y : CY} {Z : CZ} (C : cx SC 1 Y Z cX8_undo RX8 wsX8_undo (some .int) rmX8_undo) {Post : Int32 → St → Prop} (hQ : Qi SC Y Z Post)  (σ : St) (h : w_X8_undo  σ Post) : WW SC 1 Y Z σ 0 [(0, .ref (qa Y 0))] [] := by
  unfold w_X8_undo at h
  refine q_aload_n C 0 dX8_undo_0 rfl ?_
  refine q_getr (T := TX8) C kC0 iC0 inX8_undo_X8 rfl 5 (by decide) (List.mem_of_getElem? (i := 1) rfl) (fun _ h9 => h9) rfl dX8_undo_1 ?_
  refine q_aload_n C 0 dX8_undo_4 rfl ?_
  refine q_getr (T := TX8) C kC0 iC0 inX8_undo_X8 rfl 3 (by decide) (List.mem_of_getElem? (i := 2) rfl) (fun _ h9 => h9) rfl dX8_undo_5 ?_
  refine q_callVi (As := [.ref (qa Y 11)]) (st := []) C (c_X1_popInto Y σ _ h) gX8_undo_X1_popInto rfl ⟨rfl, nkX1_popInto⟩ rmOk_X8_undo__X1_popInto kC14 iC14 rfl rfl (Nat.le_of_ble_eq_true rfl) dX8_undo_8 rfl (fun x2 σ1 h => ?_)
  refine q_if_eq C 24 dX8_undo_11 (by decide) (fun c3 => ?_) (fun c3 => ?_)
  · replace h := h.1 c3
    refine q_ldc (v := (-1000000003 : Int32)) C (List.mem_of_getElem? (i := 4) rfl) dX8_undo_24 ?_
    exact q_iret C hQ dX8_undo_26 h
  · replace h := h.2 c3
    refine q_aload_n C 0 dX8_undo_14 rfl ?_
    refine q_getr (T := TX8) C kC0 iC0 inX8_undo_X8 rfl 5 (by decide) (List.mem_of_getElem? (i := 1) rfl) (fun _ h9 => h9) rfl dX8_undo_15 ?_
    refine q_geti (T := TX1) C kC14 iC14 inX8_undo_X1 rfl 0 (by decide) (List.mem_of_getElem? (i := 3) rfl) (fun _ h9 => h9) rfl dX8_undo_18 ?_
    refine q_goto C 26 dX8_undo_21 (by decide) ?_
    exact q_iret C hQ dX8_undo_26 h
theorem c_X8_undo (Y : CY)  (σ : St) (Post : Int32 → St → Prop) (h : w_X8_undo  σ Post) : Ki SC Y yX8_undo wsX8_undo rmX8_undo [.ref (qa Y 0)] σ Post :=
  Ki_of (cc := cX8_undo) (nL := 1) (ret := (some .int)) (by decide +kernel) rfl (Nat.le_of_ble_eq_true rfl) (fun Z C hQ => b_X8_undo C hQ  σ h)
abbrev rmX8_where : Room := { frames := 5, cells := 0, slots := 0, locals := 110 }
theorem nkX8_where : NmOk yX8_where 2 := by decide +kernel
theorem rmOk_X8_where__X7_goOn : RmOk rmX7_goOn rmX8_where 2 := ⟨rfl, rfl, by decide, by decide⟩
theorem rmOk_X8_where__X8_isWithin : RmOk rmX8_isWithin rmX8_where 3 := ⟨rfl, rfl, by decide, by decide⟩
theorem inX8_where_X3 : ∀ w ∈ u_ws RX3 TX3 12, w ∈ wsX8_where := fun _ h => List.mem_cons_of_mem _ (List.mem_append_left _ (List.mem_append_left _ (List.mem_append_right _ h)))
theorem inX8_where_X4 : ∀ w ∈ u_ws RX4 TX4 12, w ∈ wsX8_where := fun _ h => List.mem_cons_of_mem _ (List.mem_append_right _ h)
theorem inX8_where_X7 : ∀ w ∈ u_ws RX7 TX7 6, w ∈ wsX8_where := fun _ h => List.mem_cons_of_mem _ (List.mem_append_left _ (List.mem_append_right _ h))
theorem inX8_where_X8 : ∀ w ∈ u_ws RX8 TX8 10, w ∈ wsX8_where := fun _ h => List.mem_cons_of_mem _ (List.mem_append_left _ (List.mem_append_left _ (List.mem_append_left _ (List.mem_append_right _ h))))
def w_X8_where (p1 : Int32) (p2 : Int32) (σ : St) (Post : Int32 → St → Prop) : Prop := w_X8_isWithin p1 (0 : Int32) (999 : Int32) σ (fun x2 σ1 => (x2 = 0 → Post (-1000000002 : Int32) σ1) ∧ (¬ x2 = 0 → w_X8_isWithin p2 (0 : Int32) (1 : Int32) σ1 (fun x5 σ4 => (¬ x5 = 0 → (¬ (σ4 3 0) = 0 → w_X7_goOn p1 σ4 (fun σ8 => (¬ p2 = 0 → Post (((σ8 13 2) + (10000 : Int32))) σ8) ∧ (p2 = 0 → Post (((σ8 13 1) + (10000 : Int32))) σ8))) ∧ ((σ4 3 0) = 0 → Post (-1000000003 : Int32) σ4)) ∧ (x5 = 0 → Post (-1000000002 : Int32) σ4))))
set_option maxHeartbeats 4000000 in
set_option maxRecDepth 100000 in
theorem b_X8_where {Y : CY} {Z : CZ} (C : cx SC 3 Y Z cX8_where RX8 wsX8_where (some .int) rmX8_where) {Post : Int32 → St → Prop} (hQ : Qi SC Y Z Post)  (p1 : Int32) (p2 : Int32) (σ : St) (h : w_X8_where p1 p2 σ Post) : WW SC 3 Y Z σ 0 [(0, .ref (qa Y 0)), (1, .int p1), (2, .int p2)] [] := by
  unfold w_X8_where at h
  refine q_iload_n C 1 dX8_where_0 rfl ?_
  refine q_iconst (v := (0 : Int32)) C dX8_where_1 (by decide) ?_
  refine q_sipush (v := (999 : Int32)) C dX8_where_2 (by decide) ?_
  refine q_callSi (As := [.int p1, .int (0 : Int32), .int (999 : Int32)]) (st := []) C (c_X8_isWithin Y p1 (0 : Int32) (999 : Int32) σ _ h) gX8_where_X8_isWithin rfl nkX8_isWithin rmOk_X8_where__X8_isWithin rfl (Nat.le_of_ble_eq_true rfl) dX8_where_5 rfl (fun x2 σ1 h => ?_)
  refine q_if_eq C 20 dX8_where_8 (by decide) (fun c3 => ?_) (fun c3 => ?_)
  · replace h := h.1 c3
    refine q_ldc (v := (-1000000002 : Int32)) C (List.mem_of_getElem? (i := 1) rfl) dX8_where_20 ?_
    exact q_iret C hQ dX8_where_22 h
  · replace h := h.2 c3
    refine q_iload_n C 2 dX8_where_11 rfl ?_
    refine q_iconst (v := (0 : Int32)) C dX8_where_12 (by decide) ?_
    refine q_iconst (v := (1 : Int32)) C dX8_where_13 (by decide) ?_
    refine q_callSi (As := [.int p2, .int (0 : Int32), .int (1 : Int32)]) (st := []) C (c_X8_isWithin Y p2 (0 : Int32) (1 : Int32) σ1 _ h) gX8_where_X8_isWithin rfl nkX8_isWithin rmOk_X8_where__X8_isWithin rfl (Nat.le_of_ble_eq_true rfl) dX8_where_14 rfl (fun x5 σ4 h => ?_)
    refine q_if_ne C 23 dX8_where_17 (by decide) (fun c6 => ?_) (fun c6 => ?_)
    · replace h := h.1 c6
      refine q_aload_n C 0 dX8_where_23 rfl ?_
      refine q_getr (T := TX8) C kC0 iC0 inX8_where_X8 rfl 1 (by decide) (List.mem_of_getElem? (i := 2) rfl) (fun _ h9 => h9) rfl dX8_where_24 ?_
      refine q_geti (T := TX3) C kC3 iC3 inX8_where_X3 rfl 0 (by decide) (List.mem_of_getElem? (i := 3) rfl) (fun _ h9 => h9) rfl dX8_where_27 ?_
      refine q_if_ne C 36 dX8_where_30 (by decide) (fun c7 => ?_) (fun c7 => ?_)
      · replace h := h.1 c7
        refine q_aload_n C 0 dX8_where_36 rfl ?_
        refine q_getr (T := TX8) C kC0 iC0 inX8_where_X8 rfl 4 (by decide) (List.mem_of_getElem? (i := 5) rfl) (fun _ h9 => h9) rfl dX8_where_37 ?_
        refine q_iload_n C 1 dX8_where_40 rfl ?_
        refine q_callVv (As := [.int p1]) (st := []) C (c_X7_goOn Y p1 σ4 _ h) gX8_where_X7_goOn rfl ⟨rfl, nkX7_goOn⟩ rmOk_X8_where__X7_goOn kC12 iC12 rfl rfl (Nat.le_of_ble_eq_true rfl) dX8_where_41 rfl (fun σ8 h => ?_)
        refine q_iload_n C 2 dX8_where_44 rfl ?_
        refine q_if_ne C 61 dX8_where_45 (by decide) (fun c9 => ?_) (fun c9 => ?_)
        · replace h := h.1 c9
          refine q_aload_n C 0 dX8_where_61 rfl ?_
          refine q_getr (T := TX8) C kC0 iC0 inX8_where_X8 rfl 4 (by decide) (List.mem_of_getElem? (i := 5) rfl) (fun _ h9 => h9) rfl dX8_where_62 ?_
          refine q_getr (T := TX7) C kC12 iC12 inX8_where_X7 rfl 2 (by decide) (List.mem_of_getElem? (i := 6) rfl) (fun _ h9 => h9) rfl dX8_where_65 ?_
          refine q_geti (T := TX4) C kC13 iC13 inX8_where_X4 rfl 2 (by decide) (List.mem_of_getElem? (i := 8) rfl) (fun _ h9 => h9) rfl dX8_where_68 ?_
          refine q_sipush (v := (10000 : Int32)) C dX8_where_71 (by decide) ?_
          refine q_iadd C dX8_where_74 ?_
          exact q_iret C hQ dX8_where_75 h
        · replace h := h.2 c9
          refine q_aload_n C 0 dX8_where_48 rfl ?_
          refine q_getr (T := TX8) C kC0 iC0 inX8_where_X8 rfl 4 (by decide) (List.mem_of_getElem? (i := 5) rfl) (fun _ h9 => h9) rfl dX8_where_49 ?_
          refine q_getr (T := TX7) C kC12 iC12 inX8_where_X7 rfl 2 (by decide) (List.mem_of_getElem? (i := 6) rfl) (fun _ h9 => h9) rfl dX8_where_52 ?_
          refine q_geti (T := TX4) C kC13 iC13 inX8_where_X4 rfl 1 (by decide) (List.mem_of_getElem? (i := 7) rfl) (fun _ h9 => h9) rfl dX8_where_55 ?_
          refine q_goto C 71 dX8_where_58 (by decide) ?_
          refine q_sipush (v := (10000 : Int32)) C dX8_where_71 (by decide) ?_
          refine q_iadd C dX8_where_74 ?_
          exact q_iret C hQ dX8_where_75 h
      · replace h := h.2 c7
        refine q_ldc (v := (-1000000003 : Int32)) C (List.mem_of_getElem? (i := 4) rfl) dX8_where_33 ?_
        exact q_iret C hQ dX8_where_35 h
    · replace h := h.2 c6
      refine q_ldc (v := (-1000000002 : Int32)) C (List.mem_of_getElem? (i := 1) rfl) dX8_where_20 ?_
      exact q_iret C hQ dX8_where_22 h
theorem c_X8_where (Y : CY)  (p1 : Int32) (p2 : Int32) (σ : St) (Post : Int32 → St → Prop) (h : w_X8_where p1 p2 σ Post) : Ki SC Y yX8_where wsX8_where rmX8_where [.ref (qa Y 0), .int p1, .int p2] σ Post :=
  Ki_of (cc := cX8_where) (nL := 3) (ret := (some .int)) (by decide +kernel) rfl (Nat.le_of_ble_eq_true rfl) (fun Z C hQ => b_X8_where C hQ  p1 p2 σ h)
abbrev rmX8_worm : Room := { frames := 1, cells := 0, slots := 0, locals := 22 }
theorem nkX8_worm : NmOk yX8_worm 1 := by decide +kernel
theorem rmOk_X8_worm__X3_wormAt : RmOk rmX3_wormAt rmX8_worm 2 := ⟨rfl, rfl, by decide, by decide⟩
theorem rmOk_X8_worm__X8_isWithin : RmOk rmX8_isWithin rmX8_worm 3 := ⟨rfl, rfl, by decide, by decide⟩
theorem inX8_worm_X3 : ∀ w ∈ u_ws RX3 TX3 12, w ∈ wsX8_worm := fun _ h => List.mem_cons_of_mem _ (List.mem_append_right _ h)
theorem inX8_worm_X8 : ∀ w ∈ u_ws RX8 TX8 10, w ∈ wsX8_worm := fun _ h => List.mem_cons_of_mem _ (List.mem_append_left _ (List.mem_append_right _ h))
def w_X8_worm (p1 : Int32) (σ : St) (Post : Int32 → St → Prop) : Prop := w_X8_isWithin p1 (0 : Int32) (((σ 3 4) - (1 : Int32))) σ (fun x2 σ1 => (¬ x2 = 0 → w_X3_wormAt 3 p1 σ1 (fun x5 σ4 => Post ((x5 + (9 : Int32))) σ4)) ∧ (x2 = 0 → Post (-1000000002 : Int32) σ1))
set_option maxHeartbeats 4000000 in
set_option maxRecDepth 100000 in
theorem b_X8_worm {Y : CY} {Z : CZ} (C : cx SC 2 Y Z cX8_worm RX8 wsX8_worm (some .int) rmX8_worm) {Post : Int32 → St → Prop} (hQ : Qi SC Y Z Post)  (p1 : Int32) (σ : St) (h : w_X8_worm p1 σ Post) : WW SC 2 Y Z σ 0 [(0, .ref (qa Y 0)), (1, .int p1)] [] := by
  unfold w_X8_worm at h
  refine q_iload_n C 1 dX8_worm_0 rfl ?_
  refine q_iconst (v := (0 : Int32)) C dX8_worm_1 (by decide) ?_
  refine q_aload_n C 0 dX8_worm_2 rfl ?_
  refine q_getr (T := TX8) C kC0 iC0 inX8_worm_X8 rfl 1 (by decide) (List.mem_of_getElem? (i := 1) rfl) (fun _ h9 => h9) rfl dX8_worm_3 ?_
  refine q_geti (T := TX3) C kC3 iC3 inX8_worm_X3 rfl 4 (by decide) (List.mem_of_getElem? (i := 2) rfl) (fun _ h9 => h9) rfl dX8_worm_6 ?_
  refine q_iconst (v := (1 : Int32)) C dX8_worm_9 (by decide) ?_
  refine q_isub C dX8_worm_10 ?_
  refine q_callSi (As := [.int p1, .int (0 : Int32), .int ((σ 3 4) - (1 : Int32))]) (st := []) C (c_X8_isWithin Y p1 (0 : Int32) (((σ 3 4) - (1 : Int32))) σ _ h) gX8_worm_X8_isWithin rfl nkX8_isWithin rmOk_X8_worm__X8_isWithin rfl (Nat.le_of_ble_eq_true rfl) dX8_worm_11 rfl (fun x2 σ1 h => ?_)
  refine q_if_ne C 20 dX8_worm_14 (by decide) (fun c3 => ?_) (fun c3 => ?_)
  · replace h := h.1 c3
    refine q_aload_n C 0 dX8_worm_20 rfl ?_
    refine q_getr (T := TX8) C kC0 iC0 inX8_worm_X8 rfl 1 (by decide) (List.mem_of_getElem? (i := 1) rfl) (fun _ h9 => h9) rfl dX8_worm_21 ?_
    refine q_iload_n C 1 dX8_worm_24 rfl ?_
    refine q_callVi (As := [.int p1]) (st := []) C (c_X3_wormAt Y kC3 iC3 kC4 iC4 kC5 iC5 kC6 iC6 p1 σ1 _ h) gX8_worm_X3_wormAt rfl ⟨rfl, nkX3_wormAt⟩ rmOk_X8_worm__X3_wormAt kC3 iC3 rfl rfl (Nat.le_of_ble_eq_true rfl) dX8_worm_25 rfl (fun x5 σ4 h => ?_)
    refine q_bipush (v := (9 : Int32)) C dX8_worm_28 (by decide) ?_
    refine q_iadd C dX8_worm_30 ?_
    exact q_iret C hQ dX8_worm_31 h
  · replace h := h.2 c3
    refine q_ldc (v := (-1000000002 : Int32)) C (List.mem_of_getElem? (i := 3) rfl) dX8_worm_17 ?_
    exact q_iret C hQ dX8_worm_19 h
theorem c_X8_worm (Y : CY)  (p1 : Int32) (σ : St) (Post : Int32 → St → Prop) (h : w_X8_worm p1 σ Post) : Ki SC Y yX8_worm wsX8_worm rmX8_worm [.ref (qa Y 0), .int p1] σ Post :=
  Ki_of (cc := cX8_worm) (nL := 2) (ret := (some .int)) (by decide +kernel) rfl (Nat.le_of_ble_eq_true rfl) (fun Z C hQ => b_X8_worm C hQ  p1 σ h)
abbrev rmX8_write : Room := { frames := 2, cells := 0, slots := 0, locals := 47 }
theorem nkX8_write : NmOk yX8_write 2 := by decide +kernel
theorem rmOk_X8_write__X5_addToBook : RmOk rmX5_addToBook rmX8_write 4 := ⟨rfl, rfl, by decide, by decide⟩
theorem rmOk_X8_write__X8_isWithin : RmOk rmX8_isWithin rmX8_write 3 := ⟨rfl, rfl, by decide, by decide⟩
theorem inX8_write_X5 : ∀ w ∈ u_ws RX5 TX5 9, w ∈ wsX8_write := fun _ h => List.mem_cons_of_mem _ (List.mem_append_right _ h)
theorem inX8_write_X8 : ∀ w ∈ u_ws RX8 TX8 10, w ∈ wsX8_write := fun _ h => List.mem_cons_of_mem _ (List.mem_append_left _ (List.mem_append_right _ h))
def w_X8_write (p1 : Int32) (p2 : Int32) (σ : St) (Post : Int32 → St → Prop) : Prop := w_X8_isWithin p1 (-2000 : Int32) (2000 : Int32) σ (fun x2 σ1 => (x2 = 0 → Post (-1000000002 : Int32) σ1) ∧ (¬ x2 = 0 → w_X8_isWithin p2 (-2000 : Int32) (2000 : Int32) σ1 (fun x5 σ4 => (¬ x5 = 0 → w_X5_addToBook p1 p2 σ4 (fun x8 σ7 => (x8 = 0 → Post (-1000000004 : Int32) σ7) ∧ (¬ x8 = 0 → Post ((σ7 36 2)) σ7))) ∧ (x5 = 0 → Post (-1000000002 : Int32) σ4))))
set_option maxHeartbeats 4000000 in
set_option maxRecDepth 100000 in
theorem b_X8_write {Y : CY} {Z : CZ} (C : cx SC 3 Y Z cX8_write RX8 wsX8_write (some .int) rmX8_write) {Post : Int32 → St → Prop} (hQ : Qi SC Y Z Post)  (p1 : Int32) (p2 : Int32) (σ : St) (h : w_X8_write p1 p2 σ Post) : WW SC 3 Y Z σ 0 [(0, .ref (qa Y 0)), (1, .int p1), (2, .int p2)] [] := by
  unfold w_X8_write at h
  refine q_iload_n C 1 dX8_write_0 rfl ?_
  refine q_sipush (v := (-2000 : Int32)) C dX8_write_1 (by decide) ?_
  refine q_sipush (v := (2000 : Int32)) C dX8_write_4 (by decide) ?_
  refine q_callSi (As := [.int p1, .int (-2000 : Int32), .int (2000 : Int32)]) (st := []) C (c_X8_isWithin Y p1 (-2000 : Int32) (2000 : Int32) σ _ h) gX8_write_X8_isWithin rfl nkX8_isWithin rmOk_X8_write__X8_isWithin rfl (Nat.le_of_ble_eq_true rfl) dX8_write_7 rfl (fun x2 σ1 h => ?_)
  refine q_if_eq C 26 dX8_write_10 (by decide) (fun c3 => ?_) (fun c3 => ?_)
  · replace h := h.1 c3
    refine q_ldc (v := (-1000000002 : Int32)) C (List.mem_of_getElem? (i := 1) rfl) dX8_write_26 ?_
    exact q_iret C hQ dX8_write_28 h
  · replace h := h.2 c3
    refine q_iload_n C 2 dX8_write_13 rfl ?_
    refine q_sipush (v := (-2000 : Int32)) C dX8_write_14 (by decide) ?_
    refine q_sipush (v := (2000 : Int32)) C dX8_write_17 (by decide) ?_
    refine q_callSi (As := [.int p2, .int (-2000 : Int32), .int (2000 : Int32)]) (st := []) C (c_X8_isWithin Y p2 (-2000 : Int32) (2000 : Int32) σ1 _ h) gX8_write_X8_isWithin rfl nkX8_isWithin rmOk_X8_write__X8_isWithin rfl (Nat.le_of_ble_eq_true rfl) dX8_write_20 rfl (fun x5 σ4 h => ?_)
    refine q_if_ne C 29 dX8_write_23 (by decide) (fun c6 => ?_) (fun c6 => ?_)
    · replace h := h.1 c6
      refine q_aload_n C 0 dX8_write_29 rfl ?_
      refine q_getr (T := TX8) C kC0 iC0 inX8_write_X8 rfl 6 (by decide) (List.mem_of_getElem? (i := 2) rfl) (fun _ h9 => h9) rfl dX8_write_30 ?_
      refine q_iload_n C 1 dX8_write_33 rfl ?_
      refine q_iload_n C 2 dX8_write_34 rfl ?_
      refine q_callVi (As := [.int p1, .int p2]) (st := []) C (c_X5_addToBook Y p1 p2 σ4 _ h) gX8_write_X5_addToBook rfl ⟨rfl, nkX5_addToBook⟩ rmOk_X8_write__X5_addToBook kC36 iC36 rfl rfl (Nat.le_of_ble_eq_true rfl) dX8_write_35 rfl (fun x8 σ7 h => ?_)
      refine q_if_eq C 51 dX8_write_38 (by decide) (fun c9 => ?_) (fun c9 => ?_)
      · replace h := h.1 c9
        refine q_ldc (v := (-1000000004 : Int32)) C (List.mem_of_getElem? (i := 4) rfl) dX8_write_51 ?_
        exact q_iret C hQ dX8_write_53 h
      · replace h := h.2 c9
        refine q_aload_n C 0 dX8_write_41 rfl ?_
        refine q_getr (T := TX8) C kC0 iC0 inX8_write_X8 rfl 6 (by decide) (List.mem_of_getElem? (i := 2) rfl) (fun _ h9 => h9) rfl dX8_write_42 ?_
        refine q_geti (T := TX5) C kC36 iC36 inX8_write_X5 rfl 2 (by decide) (List.mem_of_getElem? (i := 3) rfl) (fun _ h9 => h9) rfl dX8_write_45 ?_
        refine q_goto C 53 dX8_write_48 (by decide) ?_
        exact q_iret C hQ dX8_write_53 h
    · replace h := h.2 c6
      refine q_ldc (v := (-1000000002 : Int32)) C (List.mem_of_getElem? (i := 1) rfl) dX8_write_26 ?_
      exact q_iret C hQ dX8_write_28 h
theorem c_X8_write (Y : CY)  (p1 : Int32) (p2 : Int32) (σ : St) (Post : Int32 → St → Prop) (h : w_X8_write p1 p2 σ Post) : Ki SC Y yX8_write wsX8_write rmX8_write [.ref (qa Y 0), .int p1, .int p2] σ Post :=
  Ki_of (cc := cX8_write) (nL := 3) (ret := (some .int)) (by decide +kernel) rfl (Nat.le_of_ble_eq_true rfl) (fun Z C hQ => b_X8_write C hQ  p1 p2 σ h)
