abbrev rmX9_axes : Room := { frames := 0, cells := 0, slots := 0, locals := 0 }
theorem nkX9_axes : NmOk yX9_axes 0 := by decide +kernel
theorem inX9_axes_X9 : ∀ w ∈ u_ws RX9 TX9 47, w ∈ wsX9_axes := fun _ h => List.mem_cons_of_mem _ (List.mem_append_right _ h)
def w_X9_axes_J61 (K5 : Int32 → Int32 → St → Prop) (K16 : Int32 → Int32 → Int32 → Int32 → St → Prop) (Post : Int32 → St → Prop) (v1 : Int32) (v2 : Int32) (v4 : Int32) (s0 : Int32) (σ : St) : Prop := ∀ x11 : Int32, x11 = v4 + (1 : Int32) → K16 v1 v2 s0 x11 σ
def w_X9_axes_J60 (K5 : Int32 → Int32 → St → Prop) (K16 : Int32 → Int32 → Int32 → Int32 → St → Prop) (Post : Int32 → St → Prop) (v1 : Int32) (v2 : Int32) (v4 : Int32) (σ : St) : Prop := w_X9_axes_J61 K5 K16 Post v1 v2 v4 (0 : Int32) σ
def w_X9_axes_J83 (K5 : Int32 → Int32 → St → Prop) (Post : Int32 → St → Prop) (v2 : Int32) (s0 : Int32) (s1 : Int32) (σ : St) : Prop := ∀ x9 : Int32, x9 = (s1 ||| s0) → ∀ x10 : Int32, x10 = v2 + (1 : Int32) → K5 x9 x10 σ
def w_X9_axes_B16 (K5 : Int32 → Int32 → St → Prop) (Post : Int32 → St → Prop) (K16 : Int32 → Int32 → Int32 → Int32 → St → Prop) (v1 : Int32) (v2 : Int32) (v3 : Int32) (v4 : Int32) (σ : St) : Prop := ((σ 0 38) ≤ v4 → (v3 = 0 → w_X9_axes_J83 K5 Post v2 (0 : Int32) v1 σ) ∧ (¬ v3 = 0 → w_X9_axes_J83 K5 Post v2 (((1 : Int32) <<< ((v2 + (9 : Int32)) &&& 31))) v1 σ)) ∧ (¬ (σ 0 38) ≤ v4 → (v3 = 0 → w_X9_axes_J60 K5 K16 Post v1 v2 v4 σ) ∧ (¬ v3 = 0 → (vp_in v4 6) ∧ ((vp_in v4 6) ∧ ((vp_in v4 6) ∧ ((¬ (σ 18 v4.toNatClampNeg) = (v2 * ((σ 17 v4.toNatClampNeg) - (σ 16 v4.toNatClampNeg))) → w_X9_axes_J60 K5 K16 Post v1 v2 v4 σ) ∧ ((σ 18 v4.toNatClampNeg) = (v2 * ((σ 17 v4.toNatClampNeg) - (σ 16 v4.toNatClampNeg))) → w_X9_axes_J61 K5 K16 Post v1 v2 v4 (1 : Int32) σ))))))
def w_X9_axes_L16 (K5 : Int32 → Int32 → St → Prop) (Post : Int32 → St → Prop) : Nat → Int32 → Int32 → Int32 → Int32 → St → Prop
  | 0 => fun _ _ _ _ _ => False
  | n + 1 => w_X9_axes_B16  K5 Post (w_X9_axes_L16  K5 Post n)
def w_X9_axes_B5 (Post : Int32 → St → Prop) (K5 : Int32 → Int32 → St → Prop) (v1 : Int32) (v2 : Int32) (σ : St) : Prop := ((10 : Int32) ≤ v2 → Post v1 σ) ∧ (¬ (10 : Int32) ≤ v2 → w_X9_axes_L16 K5 Post FU v1 v2 (1 : Int32) (0 : Int32) σ)
def w_X9_axes_L5 (Post : Int32 → St → Prop) : Nat → Int32 → Int32 → St → Prop
  | 0 => fun _ _ _ => False
  | n + 1 => w_X9_axes_B5   Post (w_X9_axes_L5   Post n)
def w_X9_axes (σ : St) (Post : Int32 → St → Prop) : Prop := w_X9_axes_L5 Post FU (0 : Int32) (-9 : Int32) σ
set_option maxHeartbeats 4000000 in
set_option maxRecDepth 100000 in
theorem b_X9_axes_J61 {Y : CY} {Z : CZ} (C : cx SM 5 Y Z cX9_axes RX9 wsX9_axes (some .int) rmX9_axes) {Post : Int32 → St → Prop} (hQ : Qi SM Y Z Post)  {K5 : Int32 → Int32 → St → Prop} (hK5 : ∀ (v1 : Int32) (v2 : Int32) (σ : St), K5 v1 v2 σ → WW SM 5 Y Z σ 5 [(0, .ref (qa Y 0)), (1, .int v1), (2, .int v2)] []) {K16 : Int32 → Int32 → Int32 → Int32 → St → Prop} (hK16 : ∀ (v1 : Int32) (v2 : Int32) (v3 : Int32) (v4 : Int32) (σ : St), K16 v1 v2 v3 v4 σ → WW SM 5 Y Z σ 16 [(0, .ref (qa Y 0)), (1, .int v1), (2, .int v2), (3, .int v3), (4, .int v4)] []) (v1 : Int32) (v2 : Int32) (v4 : Int32) (s0 : Int32) (σ : St) (h : w_X9_axes_J61 K5 K16 Post v1 v2 v4 s0 σ) : WW SM 5 Y Z σ 61 [(0, .ref (qa Y 0)), (1, .int v1), (2, .int v2), (4, .int v4)] [.int s0] := by
  unfold w_X9_axes_J61 at h
  refine q_istore_n C [(3, .int s0), (0, .ref (qa Y 0)), (1, .int v1), (2, .int v2), (4, .int v4)] dX9_axes_61 (by decide) rfl ?_
  obtain ⟨x11, ex11⟩ : ∃ y : Int32, y = v4 + (1 : Int32) := ⟨_, rfl⟩
  replace h := h x11 ex11
  refine q_iinc C x11 4 [(4, .int x11), (3, .int s0), (0, .ref (qa Y 0)), (1, .int v1), (2, .int v2)] dX9_axes_62 rfl (by rw [ex11]; rfl) (by decide) rfl ?_
  refine q_goto C 16 dX9_axes_65 (by decide) ?_
  refine q_sub (lv' := [(0, .ref (qa Y 0)), (1, .int v1), (2, .int v2), (3, .int s0), (4, .int x11)]) [2, 3, 4, 1, 0] rfl ?_
  exact hK16 v1 v2 s0 x11 σ h
set_option maxHeartbeats 4000000 in
set_option maxRecDepth 100000 in
theorem b_X9_axes_J60 {Y : CY} {Z : CZ} (C : cx SM 5 Y Z cX9_axes RX9 wsX9_axes (some .int) rmX9_axes) {Post : Int32 → St → Prop} (hQ : Qi SM Y Z Post)  {K5 : Int32 → Int32 → St → Prop} (hK5 : ∀ (v1 : Int32) (v2 : Int32) (σ : St), K5 v1 v2 σ → WW SM 5 Y Z σ 5 [(0, .ref (qa Y 0)), (1, .int v1), (2, .int v2)] []) {K16 : Int32 → Int32 → Int32 → Int32 → St → Prop} (hK16 : ∀ (v1 : Int32) (v2 : Int32) (v3 : Int32) (v4 : Int32) (σ : St), K16 v1 v2 v3 v4 σ → WW SM 5 Y Z σ 16 [(0, .ref (qa Y 0)), (1, .int v1), (2, .int v2), (3, .int v3), (4, .int v4)] []) (v1 : Int32) (v2 : Int32) (v4 : Int32) (σ : St) (h : w_X9_axes_J60 K5 K16 Post v1 v2 v4 σ) : WW SM 5 Y Z σ 60 [(0, .ref (qa Y 0)), (1, .int v1), (2, .int v2), (4, .int v4)] [] := by
  unfold w_X9_axes_J60 at h
  refine q_iconst (v := (0 : Int32)) C dX9_axes_60 (by decide) ?_
  exact b_X9_axes_J61 C hQ hK5 hK16 v1 v2 v4 (0 : Int32) σ h
set_option maxHeartbeats 4000000 in
set_option maxRecDepth 100000 in
theorem b_X9_axes_J83 {Y : CY} {Z : CZ} (C : cx SM 5 Y Z cX9_axes RX9 wsX9_axes (some .int) rmX9_axes) {Post : Int32 → St → Prop} (hQ : Qi SM Y Z Post)  {K5 : Int32 → Int32 → St → Prop} (hK5 : ∀ (v1 : Int32) (v2 : Int32) (σ : St), K5 v1 v2 σ → WW SM 5 Y Z σ 5 [(0, .ref (qa Y 0)), (1, .int v1), (2, .int v2)] []) (v2 : Int32) (s0 : Int32) (s1 : Int32) (σ : St) (h : w_X9_axes_J83 K5 Post v2 s0 s1 σ) : WW SM 5 Y Z σ 83 [(0, .ref (qa Y 0)), (2, .int v2)] [.int s0, .int s1] := by
  unfold w_X9_axes_J83 at h
  refine q_ior C dX9_axes_83 ?_
  refine q_topi (fun x9 ex9 => ?_)
  replace h := h x9 ex9
  refine q_istore_n C [(1, .int x9), (0, .ref (qa Y 0)), (2, .int v2)] dX9_axes_84 (by decide) rfl ?_
  obtain ⟨x10, ex10⟩ : ∃ y : Int32, y = v2 + (1 : Int32) := ⟨_, rfl⟩
  replace h := h x10 ex10
  refine q_iinc C x10 2 [(2, .int x10), (1, .int x9), (0, .ref (qa Y 0))] dX9_axes_85 rfl (by rw [ex10]; rfl) (by decide) rfl ?_
  refine q_goto C 5 dX9_axes_88 (by decide) ?_
  refine q_sub (lv' := [(0, .ref (qa Y 0)), (1, .int x9), (2, .int x10)]) [2, 1, 0] rfl ?_
  exact hK5 x9 x10 σ h
set_option maxHeartbeats 4000000 in
set_option maxRecDepth 100000 in
theorem b_X9_axes_B16 {Y : CY} {Z : CZ} (C : cx SM 5 Y Z cX9_axes RX9 wsX9_axes (some .int) rmX9_axes) {Post : Int32 → St → Prop} (hQ : Qi SM Y Z Post)  {K5 : Int32 → Int32 → St → Prop} (hK5 : ∀ (v1 : Int32) (v2 : Int32) (σ : St), K5 v1 v2 σ → WW SM 5 Y Z σ 5 [(0, .ref (qa Y 0)), (1, .int v1), (2, .int v2)] []) {K16 : Int32 → Int32 → Int32 → Int32 → St → Prop} (hK16 : ∀ (v1 : Int32) (v2 : Int32) (v3 : Int32) (v4 : Int32) (σ : St), K16 v1 v2 v3 v4 σ → WW SM 5 Y Z σ 16 [(0, .ref (qa Y 0)), (1, .int v1), (2, .int v2), (3, .int v3), (4, .int v4)] []) (v1 : Int32) (v2 : Int32) (v3 : Int32) (v4 : Int32) (σ : St) (h : w_X9_axes_B16 K5 Post K16 v1 v2 v3 v4 σ) : WW SM 5 Y Z σ 16 [(0, .ref (qa Y 0)), (1, .int v1), (2, .int v2), (3, .int v3), (4, .int v4)] [] := by
  unfold w_X9_axes_B16 at h
  refine q_iload C 4 dX9_axes_16 rfl ?_
  refine q_aload_n C 0 dX9_axes_18 rfl ?_
  refine q_geti (T := TX9) C kM0 iM0 inX9_axes_X9 rfl 38 (by decide) (List.mem_of_getElem? (i := 1) rfl) (fun _ h9 => h9) rfl dX9_axes_19 ?_
  refine q_icmp_ge C 68 dX9_axes_22 (by decide) (fun c2 => ?_) (fun c2 => ?_)
  · replace h := h.1 c2
    refine q_iload_n C 1 dX9_axes_68 rfl ?_
    refine q_iload_n C 3 dX9_axes_69 rfl ?_
    refine q_if_eq C 82 dX9_axes_70 (by decide) (fun c3 => ?_) (fun c3 => ?_)
    · replace h := h.1 c3
      refine q_iconst (v := (0 : Int32)) C dX9_axes_82 (by decide) ?_
      refine q_sub (lv' := [(0, .ref (qa Y 0)), (2, .int v2)]) [0, 2] rfl ?_
      exact b_X9_axes_J83 C hQ hK5 v2 (0 : Int32) v1 σ h
    · replace h := h.2 c3
      refine q_iconst (v := (1 : Int32)) C dX9_axes_73 (by decide) ?_
      refine q_iload_n C 2 dX9_axes_74 rfl ?_
      refine q_bipush (v := (9 : Int32)) C dX9_axes_75 (by decide) ?_
      refine q_iadd C dX9_axes_77 ?_
      refine q_ishl C dX9_axes_78 ?_
      refine q_goto C 83 dX9_axes_79 (by decide) ?_
      refine q_sub (lv' := [(0, .ref (qa Y 0)), (2, .int v2)]) [0, 2] rfl ?_
      exact b_X9_axes_J83 C hQ hK5 v2 (((1 : Int32) <<< ((v2 + (9 : Int32)) &&& 31))) v1 σ h
  · replace h := h.2 c2
    refine q_iload_n C 3 dX9_axes_25 rfl ?_
    refine q_if_eq C 60 dX9_axes_26 (by decide) (fun c4 => ?_) (fun c4 => ?_)
    · replace h := h.1 c4
      refine q_sub (lv' := [(0, .ref (qa Y 0)), (1, .int v1), (2, .int v2), (4, .int v4)]) [0, 1, 2, 4] rfl ?_
      exact b_X9_axes_J60 C hQ hK5 hK16 v1 v2 v4 σ h
    · replace h := h.2 c4
      refine q_aload_n C 0 dX9_axes_29 rfl ?_
      refine q_getr (T := TX9) C kM0 iM0 inX9_axes_X9 rfl 41 (by decide) (List.mem_of_getElem? (i := 2) rfl) (fun _ h9 => h9) rfl dX9_axes_30 ?_
      refine q_iload C 4 dX9_axes_33 rfl ?_
      obtain ⟨g5, h⟩ := h
      refine q_iald C kM18 iM18 g5 dX9_axes_35 ?_
      refine q_iload_n C 2 dX9_axes_36 rfl ?_
      refine q_aload_n C 0 dX9_axes_37 rfl ?_
      refine q_getr (T := TX9) C kM0 iM0 inX9_axes_X9 rfl 40 (by decide) (List.mem_of_getElem? (i := 3) rfl) (fun _ h9 => h9) rfl dX9_axes_38 ?_
      refine q_iload C 4 dX9_axes_41 rfl ?_
      obtain ⟨g6, h⟩ := h
      refine q_iald C kM17 iM17 g6 dX9_axes_43 ?_
      refine q_aload_n C 0 dX9_axes_44 rfl ?_
      refine q_getr (T := TX9) C kM0 iM0 inX9_axes_X9 rfl 39 (by decide) (List.mem_of_getElem? (i := 4) rfl) (fun _ h9 => h9) rfl dX9_axes_45 ?_
      refine q_iload C 4 dX9_axes_48 rfl ?_
      obtain ⟨g7, h⟩ := h
      refine q_iald C kM16 iM16 g7 dX9_axes_50 ?_
      refine q_isub C dX9_axes_51 ?_
      refine q_imul C dX9_axes_52 ?_
      refine q_icmp_ne C 60 dX9_axes_53 (by decide) (fun c8 => ?_) (fun c8 => ?_)
      · replace h := h.1 c8
        refine q_sub (lv' := [(0, .ref (qa Y 0)), (1, .int v1), (2, .int v2), (4, .int v4)]) [0, 1, 2, 4] rfl ?_
        exact b_X9_axes_J60 C hQ hK5 hK16 v1 v2 v4 σ h
      · replace h := h.2 c8
        refine q_iconst (v := (1 : Int32)) C dX9_axes_56 (by decide) ?_
        refine q_goto C 61 dX9_axes_57 (by decide) ?_
        refine q_sub (lv' := [(0, .ref (qa Y 0)), (1, .int v1), (2, .int v2), (4, .int v4)]) [0, 1, 2, 4] rfl ?_
        exact b_X9_axes_J61 C hQ hK5 hK16 v1 v2 v4 (1 : Int32) σ h
theorem b_X9_axes_L16 {Y : CY} {Z : CZ} (C : cx SM 5 Y Z cX9_axes RX9 wsX9_axes (some .int) rmX9_axes) {Post : Int32 → St → Prop} (hQ : Qi SM Y Z Post)  {K5 : Int32 → Int32 → St → Prop} (hK5 : ∀ (v1 : Int32) (v2 : Int32) (σ : St), K5 v1 v2 σ → WW SM 5 Y Z σ 5 [(0, .ref (qa Y 0)), (1, .int v1), (2, .int v2)] []) : ∀ (n : Nat) (v1 : Int32) (v2 : Int32) (v3 : Int32) (v4 : Int32) (σ : St) (h : w_X9_axes_L16 K5 Post n v1 v2 v3 v4 σ), WW SM 5 Y Z σ 16 [(0, .ref (qa Y 0)), (1, .int v1), (2, .int v2), (3, .int v3), (4, .int v4)] [] := by
  intro n
  induction n with
  | zero => intro v1 v2 v3 v4 σ h; exact h.elim
  | succ n ih => intro v1 v2 v3 v4 σ h; exact b_X9_axes_B16 C hQ  hK5 ih v1 v2 v3 v4 σ h
set_option maxHeartbeats 4000000 in
set_option maxRecDepth 100000 in
theorem b_X9_axes_B5 {Y : CY} {Z : CZ} (C : cx SM 5 Y Z cX9_axes RX9 wsX9_axes (some .int) rmX9_axes) {Post : Int32 → St → Prop} (hQ : Qi SM Y Z Post)  {K5 : Int32 → Int32 → St → Prop} (hK5 : ∀ (v1 : Int32) (v2 : Int32) (σ : St), K5 v1 v2 σ → WW SM 5 Y Z σ 5 [(0, .ref (qa Y 0)), (1, .int v1), (2, .int v2)] []) (v1 : Int32) (v2 : Int32) (σ : St) (h : w_X9_axes_B5  Post K5 v1 v2 σ) : WW SM 5 Y Z σ 5 [(0, .ref (qa Y 0)), (1, .int v1), (2, .int v2)] [] := by
  unfold w_X9_axes_B5 at h
  refine q_iload_n C 2 dX9_axes_5 rfl ?_
  refine q_bipush (v := (10 : Int32)) C dX9_axes_6 (by decide) ?_
  refine q_icmp_ge C 91 dX9_axes_8 (by decide) (fun c1 => ?_) (fun c1 => ?_)
  · replace h := h.1 c1
    refine q_iload_n C 1 dX9_axes_91 rfl ?_
    exact q_iret C hQ dX9_axes_92 h
  · replace h := h.2 c1
    refine q_iconst (v := (1 : Int32)) C dX9_axes_11 (by decide) ?_
    refine q_istore_n C [(3, .int (1 : Int32)), (0, .ref (qa Y 0)), (1, .int v1), (2, .int v2)] dX9_axes_12 (by decide) rfl ?_
    refine q_iconst (v := (0 : Int32)) C dX9_axes_13 (by decide) ?_
    refine q_istore C [(4, .int (0 : Int32)), (3, .int (1 : Int32)), (0, .ref (qa Y 0)), (1, .int v1), (2, .int v2)] dX9_axes_14 (by decide) rfl ?_
    refine q_sub (lv' := [(0, .ref (qa Y 0)), (1, .int v1), (2, .int v2), (3, .int (1 : Int32)), (4, .int (0 : Int32))]) [2, 3, 4, 1, 0] rfl ?_
    exact b_X9_axes_L16 C hQ hK5 FU v1 v2 (1 : Int32) (0 : Int32) σ h
theorem b_X9_axes_L5 {Y : CY} {Z : CZ} (C : cx SM 5 Y Z cX9_axes RX9 wsX9_axes (some .int) rmX9_axes) {Post : Int32 → St → Prop} (hQ : Qi SM Y Z Post)  : ∀ (n : Nat) (v1 : Int32) (v2 : Int32) (σ : St) (h : w_X9_axes_L5  Post n v1 v2 σ), WW SM 5 Y Z σ 5 [(0, .ref (qa Y 0)), (1, .int v1), (2, .int v2)] [] := by
  intro n
  induction n with
  | zero => intro v1 v2 σ h; exact h.elim
  | succ n ih => intro v1 v2 σ h; exact b_X9_axes_B5 C hQ  ih v1 v2 σ h
set_option maxHeartbeats 4000000 in
set_option maxRecDepth 100000 in
theorem b_X9_axes {Y : CY} {Z : CZ} (C : cx SM 5 Y Z cX9_axes RX9 wsX9_axes (some .int) rmX9_axes) {Post : Int32 → St → Prop} (hQ : Qi SM Y Z Post)  (σ : St) (h : w_X9_axes  σ Post) : WW SM 5 Y Z σ 0 [(0, .ref (qa Y 0))] [] := by
  unfold w_X9_axes at h
  refine q_iconst (v := (0 : Int32)) C dX9_axes_0 (by decide) ?_
  refine q_istore_n C [(1, .int (0 : Int32)), (0, .ref (qa Y 0))] dX9_axes_1 (by decide) rfl ?_
  refine q_bipush (v := (-9 : Int32)) C dX9_axes_2 (by decide) ?_
  refine q_istore_n C [(2, .int (-9 : Int32)), (1, .int (0 : Int32)), (0, .ref (qa Y 0))] dX9_axes_4 (by decide) rfl ?_
  refine q_sub (lv' := [(0, .ref (qa Y 0)), (1, .int (0 : Int32)), (2, .int (-9 : Int32))]) [2, 1, 0] rfl ?_
  exact b_X9_axes_L5 C hQ FU (0 : Int32) (-9 : Int32) σ h
theorem c_X9_axes (Y : CY)  (σ : St) (Post : Int32 → St → Prop) (h : w_X9_axes  σ Post) : Ki SM Y yX9_axes wsX9_axes rmX9_axes [.ref (qa Y 0)] σ Post :=
  Ki_of (cc := cX9_axes) (nL := 5) (ret := (some .int)) (by decide +kernel) rfl (Nat.le_of_ble_eq_true rfl) (fun Z C hQ => b_X9_axes C hQ  σ h)
abbrev rmX9_in : Room := { frames := 0, cells := 0, slots := 0, locals := 0 }
theorem nkX9_in : NmOk yX9_in 3 := by decide +kernel
def w_X9_in (p1 : Int64) (p2 : Int64) (p3 : Int64) (σ : St) (Post : Int32 → St → Prop) : Prop := ((lg_cmp p1 p2) < 0 → Post (0 : Int32) σ) ∧ (¬ (lg_cmp p1 p2) < 0 → (0 < (lg_cmp p1 p3) → Post (0 : Int32) σ) ∧ (¬ 0 < (lg_cmp p1 p3) → Post (1 : Int32) σ))
set_option maxHeartbeats 4000000 in
set_option maxRecDepth 100000 in
theorem b_X9_in {Y : CY} {Z : CZ} (C : cx SM 6 Y Z cX9_in RX9 wsX9_in (some .boolean) rmX9_in) {Post : Int32 → St → Prop} (hQ : Qi SM Y Z Post)  (p1 : Int64) (p2 : Int64) (p3 : Int64) (σ : St) (h : w_X9_in p1 p2 p3 σ Post) : WW SM 6 Y Z σ 0 [(0, .long p1), (2, .long p2), (4, .long p3)] [] := by
  unfold w_X9_in at h
  refine q_lload_n C 0 dX9_in_0 rfl ?_
  refine q_lload_n C 1 dX9_in_1 rfl ?_
  refine q_lcmp C dX9_in_2 ?_
  refine q_if_lt C 17 dX9_in_3 (by decide) (fun c1 => ?_) (fun c1 => ?_)
  · replace h := h.1 c1
    refine q_iconst (v := (0 : Int32)) C dX9_in_17 (by decide) ?_
    exact q_zret C hQ (zb_n (by decide)) dX9_in_18 h
  · replace h := h.2 c1
    refine q_lload_n C 0 dX9_in_6 rfl ?_
    refine q_lload C 2 dX9_in_7 rfl ?_
    refine q_lcmp C dX9_in_9 ?_
    refine q_if_gt C 17 dX9_in_10 (by decide) (fun c2 => ?_) (fun c2 => ?_)
    · replace h := h.1 c2
      refine q_iconst (v := (0 : Int32)) C dX9_in_17 (by decide) ?_
      exact q_zret C hQ (zb_n (by decide)) dX9_in_18 h
    · replace h := h.2 c2
      refine q_iconst (v := (1 : Int32)) C dX9_in_13 (by decide) ?_
      refine q_goto C 18 dX9_in_14 (by decide) ?_
      exact q_zret C hQ (zb_n (by decide)) dX9_in_18 h
theorem c_X9_in (Y : CY)  (p1 : Int64) (p2 : Int64) (p3 : Int64) (σ : St) (Post : Int32 → St → Prop) (h : w_X9_in p1 p2 p3 σ Post) : Ki SM Y yX9_in wsX9_in rmX9_in [.long p1, .long p2, .long p3] σ Post :=
  Ki_of (cc := cX9_in) (nL := 6) (ret := (some .boolean)) (by decide +kernel) rfl (Nat.le_of_ble_eq_true rfl) (fun Z C hQ => b_X9_in C hQ  p1 p2 p3 σ h)
abbrev rmX9_save : Room := { frames := 0, cells := 0, slots := 0, locals := 0 }
theorem nkX9_save : NmOk yX9_save 0 := by decide +kernel
theorem inX9_save_X9 : ∀ w ∈ u_ws RX9 TX9 47, w ∈ wsX9_save := fun _ h => List.mem_cons_of_mem _ (List.mem_append_right _ h)
def w_X9_save_B2 (Post : St → Prop) (K2 : Int32 → St → Prop) (v1 : Int32) (σ : St) : Prop := ((12 : Int32) ≤ v1 → Post σ) ∧ (¬ (12 : Int32) ≤ v1 → (vp_in v1 12) ∧ ((vp_in v1 12) ∧ (∀ σ3 : St, σ3 = up σ 13 v1.toNatClampNeg ((σ 4 v1.toNatClampNeg)) → ∀ x4 : Int32, x4 = v1 + (1 : Int32) → K2 x4 σ3)))
def w_X9_save_L2 (Post : St → Prop) : Nat → Int32 → St → Prop
  | 0 => fun _ _ => False
  | n + 1 => w_X9_save_B2   Post (w_X9_save_L2   Post n)
def w_X9_save (σ : St) (Post : St → Prop) : Prop := w_X9_save_L2 Post FU (0 : Int32) σ
set_option maxHeartbeats 4000000 in
set_option maxRecDepth 100000 in
theorem b_X9_save_B2 {Y : CY} {Z : CZ} (C : cx SM 2 Y Z cX9_save RX9 wsX9_save none rmX9_save) {Post : St → Prop} (hQ : Qv SM Y Z Post)  {K2 : Int32 → St → Prop} (hK2 : ∀ (v1 : Int32) (σ : St), K2 v1 σ → WW SM 2 Y Z σ 2 [(0, .ref (qa Y 0)), (1, .int v1)] []) (v1 : Int32) (σ : St) (h : w_X9_save_B2  Post K2 v1 σ) : WW SM 2 Y Z σ 2 [(0, .ref (qa Y 0)), (1, .int v1)] [] := by
  unfold w_X9_save_B2 at h
  refine q_iload_n C 1 dX9_save_2 rfl ?_
  refine q_bipush (v := (12 : Int32)) C dX9_save_3 (by decide) ?_
  refine q_icmp_ge C 26 dX9_save_5 (by decide) (fun c1 => ?_) (fun c1 => ?_)
  · replace h := h.1 c1
    exact q_vret C hQ dX9_save_26 h
  · replace h := h.2 c1
    refine q_aload_n C 0 dX9_save_8 rfl ?_
    refine q_getr (T := TX9) C kM0 iM0 inX9_save_X9 rfl 33 (by decide) (List.mem_of_getElem? (i := 1) rfl) (fun _ h9 => h9) rfl dX9_save_9 ?_
    refine q_iload_n C 1 dX9_save_12 rfl ?_
    refine q_aload_n C 0 dX9_save_13 rfl ?_
    refine q_getr (T := TX9) C kM0 iM0 inX9_save_X9 rfl 12 (by decide) (List.mem_of_getElem? (i := 2) rfl) (fun _ h9 => h9) rfl dX9_save_14 ?_
    refine q_iload_n C 1 dX9_save_17 rfl ?_
    obtain ⟨g2, h⟩ := h
    refine q_iald C kM4 iM4 g2 dX9_save_18 ?_
    obtain ⟨g5, h⟩ := h
    refine q_iast C kM13 iM13 g5 dX9_save_19 ?_
    refine q_nmS (fun σ3 eσ3 => ?_)
    replace h := h σ3 eσ3
    obtain ⟨x4, ex4⟩ : ∃ y : Int32, y = v1 + (1 : Int32) := ⟨_, rfl⟩
    replace h := h x4 ex4
    refine q_iinc C x4 1 [(1, .int x4), (0, .ref (qa Y 0))] dX9_save_20 rfl (by rw [ex4]; rfl) (by decide) rfl ?_
    refine q_goto C 2 dX9_save_23 (by decide) ?_
    refine q_sub (lv' := [(0, .ref (qa Y 0)), (1, .int x4)]) [1, 0] rfl ?_
    exact hK2 x4 σ3 h
theorem b_X9_save_L2 {Y : CY} {Z : CZ} (C : cx SM 2 Y Z cX9_save RX9 wsX9_save none rmX9_save) {Post : St → Prop} (hQ : Qv SM Y Z Post)  : ∀ (n : Nat) (v1 : Int32) (σ : St) (h : w_X9_save_L2  Post n v1 σ), WW SM 2 Y Z σ 2 [(0, .ref (qa Y 0)), (1, .int v1)] [] := by
  intro n
  induction n with
  | zero => intro v1 σ h; exact h.elim
  | succ n ih => intro v1 σ h; exact b_X9_save_B2 C hQ  ih v1 σ h
set_option maxHeartbeats 4000000 in
set_option maxRecDepth 100000 in
theorem b_X9_save {Y : CY} {Z : CZ} (C : cx SM 2 Y Z cX9_save RX9 wsX9_save none rmX9_save) {Post : St → Prop} (hQ : Qv SM Y Z Post)  (σ : St) (h : w_X9_save  σ Post) : WW SM 2 Y Z σ 0 [(0, .ref (qa Y 0))] [] := by
  unfold w_X9_save at h
  refine q_iconst (v := (0 : Int32)) C dX9_save_0 (by decide) ?_
  refine q_istore_n C [(1, .int (0 : Int32)), (0, .ref (qa Y 0))] dX9_save_1 (by decide) rfl ?_
  refine q_sub (lv' := [(0, .ref (qa Y 0)), (1, .int (0 : Int32))]) [1, 0] rfl ?_
  exact b_X9_save_L2 C hQ FU (0 : Int32) σ h
theorem c_X9_save (Y : CY)  (σ : St) (Post : St → Prop) (h : w_X9_save  σ Post) : Kv SM Y yX9_save wsX9_save rmX9_save [.ref (qa Y 0)] σ Post :=
  Kv_of (cc := cX9_save) (nL := 2) (ret := none) (by decide +kernel) rfl (Nat.le_of_ble_eq_true rfl) (fun Z C hQ => b_X9_save C hQ  σ h)
abbrev rmX9_newPlate : Room := { frames := 0, cells := 0, slots := 0, locals := 0 }
theorem nkX9_newPlate : NmOk yX9_newPlate 0 := by decide +kernel
theorem inX9_newPlate_X9 : ∀ w ∈ u_ws RX9 TX9 47, w ∈ wsX9_newPlate := fun _ h => List.mem_cons_of_mem _ (List.mem_append_right _ h)
def w_X9_newPlate_B2 (Post : St → Prop) (K2 : Int32 → St → Prop) (v1 : Int32) (σ : St) : Prop := ((12 : Int32) ≤ v1 → Post σ) ∧ (¬ (12 : Int32) ≤ v1 → (vp_in v1 12) ∧ (∀ σ2 : St, σ2 = up σ 4 v1.toNatClampNeg (0 : Int32) → ∀ x3 : Int32, x3 = v1 + (1 : Int32) → K2 x3 σ2))
def w_X9_newPlate_L2 (Post : St → Prop) : Nat → Int32 → St → Prop
  | 0 => fun _ _ => False
  | n + 1 => w_X9_newPlate_B2   Post (w_X9_newPlate_L2   Post n)
def w_X9_newPlate (σ : St) (Post : St → Prop) : Prop := w_X9_newPlate_L2 Post FU (1 : Int32) σ
set_option maxHeartbeats 4000000 in
set_option maxRecDepth 100000 in
theorem b_X9_newPlate_B2 {Y : CY} {Z : CZ} (C : cx SM 2 Y Z cX9_newPlate RX9 wsX9_newPlate none rmX9_newPlate) {Post : St → Prop} (hQ : Qv SM Y Z Post)  {K2 : Int32 → St → Prop} (hK2 : ∀ (v1 : Int32) (σ : St), K2 v1 σ → WW SM 2 Y Z σ 2 [(0, .ref (qa Y 0)), (1, .int v1)] []) (v1 : Int32) (σ : St) (h : w_X9_newPlate_B2  Post K2 v1 σ) : WW SM 2 Y Z σ 2 [(0, .ref (qa Y 0)), (1, .int v1)] [] := by
  unfold w_X9_newPlate_B2 at h
  refine q_iload_n C 1 dX9_newPlate_2 rfl ?_
  refine q_bipush (v := (12 : Int32)) C dX9_newPlate_3 (by decide) ?_
  refine q_icmp_ge C 21 dX9_newPlate_5 (by decide) (fun c1 => ?_) (fun c1 => ?_)
  · replace h := h.1 c1
    exact q_vret C hQ dX9_newPlate_21 h
  · replace h := h.2 c1
    refine q_aload_n C 0 dX9_newPlate_8 rfl ?_
    refine q_getr (T := TX9) C kM0 iM0 inX9_newPlate_X9 rfl 12 (by decide) (List.mem_of_getElem? (i := 1) rfl) (fun _ h9 => h9) rfl dX9_newPlate_9 ?_
    refine q_iload_n C 1 dX9_newPlate_12 rfl ?_
    refine q_iconst (v := (0 : Int32)) C dX9_newPlate_13 (by decide) ?_
    obtain ⟨g4, h⟩ := h
    refine q_iast C kM4 iM4 g4 dX9_newPlate_14 ?_
    refine q_nmS (fun σ2 eσ2 => ?_)
    replace h := h σ2 eσ2
    obtain ⟨x3, ex3⟩ : ∃ y : Int32, y = v1 + (1 : Int32) := ⟨_, rfl⟩
    replace h := h x3 ex3
    refine q_iinc C x3 1 [(1, .int x3), (0, .ref (qa Y 0))] dX9_newPlate_15 rfl (by rw [ex3]; rfl) (by decide) rfl ?_
    refine q_goto C 2 dX9_newPlate_18 (by decide) ?_
    refine q_sub (lv' := [(0, .ref (qa Y 0)), (1, .int x3)]) [1, 0] rfl ?_
    exact hK2 x3 σ2 h
theorem b_X9_newPlate_L2 {Y : CY} {Z : CZ} (C : cx SM 2 Y Z cX9_newPlate RX9 wsX9_newPlate none rmX9_newPlate) {Post : St → Prop} (hQ : Qv SM Y Z Post)  : ∀ (n : Nat) (v1 : Int32) (σ : St) (h : w_X9_newPlate_L2  Post n v1 σ), WW SM 2 Y Z σ 2 [(0, .ref (qa Y 0)), (1, .int v1)] [] := by
  intro n
  induction n with
  | zero => intro v1 σ h; exact h.elim
  | succ n ih => intro v1 σ h; exact b_X9_newPlate_B2 C hQ  ih v1 σ h
set_option maxHeartbeats 4000000 in
set_option maxRecDepth 100000 in
theorem b_X9_newPlate {Y : CY} {Z : CZ} (C : cx SM 2 Y Z cX9_newPlate RX9 wsX9_newPlate none rmX9_newPlate) {Post : St → Prop} (hQ : Qv SM Y Z Post)  (σ : St) (h : w_X9_newPlate  σ Post) : WW SM 2 Y Z σ 0 [(0, .ref (qa Y 0))] [] := by
  unfold w_X9_newPlate at h
  refine q_iconst (v := (1 : Int32)) C dX9_newPlate_0 (by decide) ?_
  refine q_istore_n C [(1, .int (1 : Int32)), (0, .ref (qa Y 0))] dX9_newPlate_1 (by decide) rfl ?_
  refine q_sub (lv' := [(0, .ref (qa Y 0)), (1, .int (1 : Int32))]) [1, 0] rfl ?_
  exact b_X9_newPlate_L2 C hQ FU (1 : Int32) σ h
theorem c_X9_newPlate (Y : CY)  (σ : St) (Post : St → Prop) (h : w_X9_newPlate  σ Post) : Kv SM Y yX9_newPlate wsX9_newPlate rmX9_newPlate [.ref (qa Y 0)] σ Post :=
  Kv_of (cc := cX9_newPlate) (nL := 2) (ret := none) (by decide +kernel) rfl (Nat.le_of_ble_eq_true rfl) (fun Z C hQ => b_X9_newPlate C hQ  σ h)
abbrev rmX9_jumpOf : Room := { frames := 0, cells := 0, slots := 0, locals := 0 }
theorem nkX9_jumpOf : NmOk yX9_jumpOf 1 := by decide +kernel
theorem inX9_jumpOf_X9 : ∀ w ∈ u_ws RX9 TX9 47, w ∈ wsX9_jumpOf := fun _ h => List.mem_cons_of_mem _ (List.mem_append_right _ h)
def w_X9_jumpOf (p1 : Int32) (σ : St) (Post : Int32 → St → Prop) : Prop := (¬ p1 = (σ 0 6) → Post (0 : Int32) σ) ∧ (p1 = (σ 0 6) → Post ((σ 0 7)) σ)
set_option maxHeartbeats 4000000 in
set_option maxRecDepth 100000 in
theorem b_X9_jumpOf {Y : CY} {Z : CZ} (C : cx SM 2 Y Z cX9_jumpOf RX9 wsX9_jumpOf (some .int) rmX9_jumpOf) {Post : Int32 → St → Prop} (hQ : Qi SM Y Z Post)  (p1 : Int32) (σ : St) (h : w_X9_jumpOf p1 σ Post) : WW SM 2 Y Z σ 0 [(0, .ref (qa Y 0)), (1, .int p1)] [] := by
  unfold w_X9_jumpOf at h
  refine q_iload_n C 1 dX9_jumpOf_0 rfl ?_
  refine q_aload_n C 0 dX9_jumpOf_1 rfl ?_
  refine q_geti (T := TX9) C kM0 iM0 inX9_jumpOf_X9 rfl 6 (by decide) (List.mem_of_getElem? (i := 1) rfl) (fun _ h9 => h9) rfl dX9_jumpOf_2 ?_
  refine q_icmp_ne C 15 dX9_jumpOf_5 (by decide) (fun c1 => ?_) (fun c1 => ?_)
  · replace h := h.1 c1
    refine q_iconst (v := (0 : Int32)) C dX9_jumpOf_15 (by decide) ?_
    exact q_iret C hQ dX9_jumpOf_16 h
  · replace h := h.2 c1
    refine q_aload_n C 0 dX9_jumpOf_8 rfl ?_
    refine q_geti (T := TX9) C kM0 iM0 inX9_jumpOf_X9 rfl 7 (by decide) (List.mem_of_getElem? (i := 2) rfl) (fun _ h9 => h9) rfl dX9_jumpOf_9 ?_
    refine q_goto C 16 dX9_jumpOf_12 (by decide) ?_
    exact q_iret C hQ dX9_jumpOf_16 h
theorem c_X9_jumpOf (Y : CY)  (p1 : Int32) (σ : St) (Post : Int32 → St → Prop) (h : w_X9_jumpOf p1 σ Post) : Ki SM Y yX9_jumpOf wsX9_jumpOf rmX9_jumpOf [.ref (qa Y 0), .int p1] σ Post :=
  Ki_of (cc := cX9_jumpOf) (nL := 2) (ret := (some .int)) (by decide +kernel) rfl (Nat.le_of_ble_eq_true rfl) (fun Z C hQ => b_X9_jumpOf C hQ  p1 σ h)
abbrev rmX9_size : Room := { frames := 0, cells := 0, slots := 0, locals := 0 }
theorem nkX9_size : NmOk yX9_size 1 := by decide +kernel
def w_X9_size (p1 : Int32) (σ : St) (Post : Int32 → St → Prop) : Prop := (0 ≤ p1 → Post p1 σ) ∧ (¬ 0 ≤ p1 → Post ((-p1)) σ)
set_option maxHeartbeats 4000000 in
set_option maxRecDepth 100000 in
theorem b_X9_size {Y : CY} {Z : CZ} (C : cx SM 1 Y Z cX9_size RX9 wsX9_size (some .int) rmX9_size) {Post : Int32 → St → Prop} (hQ : Qi SM Y Z Post)  (p1 : Int32) (σ : St) (h : w_X9_size p1 σ Post) : WW SM 1 Y Z σ 0 [(0, .int p1)] [] := by
  unfold w_X9_size at h
  refine q_iload_n C 0 dX9_size_0 rfl ?_
  refine q_if_ge C 9 dX9_size_1 (by decide) (fun c1 => ?_) (fun c1 => ?_)
  · replace h := h.1 c1
    refine q_iload_n C 0 dX9_size_9 rfl ?_
    exact q_iret C hQ dX9_size_10 h
  · replace h := h.2 c1
    refine q_iload_n C 0 dX9_size_4 rfl ?_
    refine q_ineg C dX9_size_5 ?_
    refine q_goto C 10 dX9_size_6 (by decide) ?_
    exact q_iret C hQ dX9_size_10 h
theorem c_X9_size (Y : CY)  (p1 : Int32) (σ : St) (Post : Int32 → St → Prop) (h : w_X9_size p1 σ Post) : Ki SM Y yX9_size wsX9_size rmX9_size [.int p1] σ Post :=
  Ki_of (cc := cX9_size) (nL := 1) (ret := (some .int)) (by decide +kernel) rfl (Nat.le_of_ble_eq_true rfl) (fun Z C hQ => b_X9_size C hQ  p1 σ h)
abbrev rmX9_gather : Room := { frames := 0, cells := 0, slots := 0, locals := 0 }
theorem nkX9_gather : NmOk yX9_gather 0 := by decide +kernel
theorem inX9_gather_X9 : ∀ w ∈ u_ws RX9 TX9 47, w ∈ wsX9_gather := fun _ h => List.mem_cons_of_mem _ (List.mem_append_right _ h)
def w_X9_gather_J195 (Post : St → Prop) (s0 : Int32) (s1 : Int32) (σ : St) : Prop := (vp_in s1 12) ∧ (∀ σ15 : St, σ15 = up σ 4 s1.toNatClampNeg s0 → ∀ σ16 : St, σ16 = up σ15 4 7 (((σ15 4 7) + (1 : Int32))) → Post σ16)
def w_X9_gather_J179 (Post : St → Prop) (s0 : Int32) (σ : St) : Prop := w_X9_gather_J195 Post ((σ 4 2)) s0 σ
def w_X9_gather_J146 (Post : St → Prop) (s0 : Int32) (s1 : Int32) (σ : St) : Prop := (vp_in s1 12) ∧ (∀ σ11 : St, σ11 = up σ 4 s1.toNatClampNeg s0 → ((σ11 4 7) = 0 → w_X9_gather_J179 Post (11 : Int32) σ11) ∧ (¬ (σ11 4 7) = 0 → ((σ11 4 2) ≤ (σ11 4 11) → w_X9_gather_J195 Post ((σ11 4 11)) (11 : Int32) σ11) ∧ (¬ (σ11 4 2) ≤ (σ11 4 11) → w_X9_gather_J179 Post (11 : Int32) σ11)))
def w_X9_gather_J130 (Post : St → Prop) (s0 : Int32) (σ : St) : Prop := w_X9_gather_J146 Post ((σ 4 2)) s0 σ
def w_X9_gather_J97 (Post : St → Prop) (s0 : Int32) (s1 : Int32) (σ : St) : Prop := (vp_in s1 12) ∧ (∀ σ7 : St, σ7 = up σ 4 s1.toNatClampNeg s0 → ((σ7 4 7) = 0 → w_X9_gather_J130 Post (10 : Int32) σ7) ∧ (¬ (σ7 4 7) = 0 → ((σ7 4 10) ≤ (σ7 4 2) → w_X9_gather_J146 Post ((σ7 4 10)) (10 : Int32) σ7) ∧ (¬ (σ7 4 10) ≤ (σ7 4 2) → w_X9_gather_J130 Post (10 : Int32) σ7)))
def w_X9_gather_J81 (Post : St → Prop) (s0 : Int32) (σ : St) : Prop := w_X9_gather_J97 Post ((σ 4 1)) s0 σ
def w_X9_gather_J48 (Post : St → Prop) (s0 : Int32) (s1 : Int32) (σ : St) : Prop := (vp_in s1 12) ∧ (∀ σ3 : St, σ3 = up σ 4 s1.toNatClampNeg s0 → ((σ3 4 7) = 0 → w_X9_gather_J81 Post (9 : Int32) σ3) ∧ (¬ (σ3 4 7) = 0 → ((σ3 4 1) ≤ (σ3 4 9) → w_X9_gather_J97 Post ((σ3 4 9)) (9 : Int32) σ3) ∧ (¬ (σ3 4 1) ≤ (σ3 4 9) → w_X9_gather_J81 Post (9 : Int32) σ3)))
def w_X9_gather_J32 (Post : St → Prop) (s0 : Int32) (σ : St) : Prop := w_X9_gather_J48 Post ((σ 4 1)) s0 σ
def w_X9_gather (σ : St) (Post : St → Prop) : Prop := ((σ 4 7) = 0 → w_X9_gather_J32 Post (8 : Int32) σ) ∧ (¬ (σ 4 7) = 0 → ((σ 4 8) ≤ (σ 4 1) → w_X9_gather_J48 Post ((σ 4 8)) (8 : Int32) σ) ∧ (¬ (σ 4 8) ≤ (σ 4 1) → w_X9_gather_J32 Post (8 : Int32) σ))
set_option maxHeartbeats 4000000 in
set_option maxRecDepth 100000 in
theorem b_X9_gather_J195 {Y : CY} {Z : CZ} (C : cx SM 1 Y Z cX9_gather RX9 wsX9_gather none rmX9_gather) {Post : St → Prop} (hQ : Qv SM Y Z Post)  (s0 : Int32) (s1 : Int32) (σ : St) (h : w_X9_gather_J195  Post s0 s1 σ) : WW SM 1 Y Z σ 195 [(0, .ref (qa Y 0))] [.int s0, .int s1, .ref (qa Y 4)] := by
  unfold w_X9_gather_J195 at h
  obtain ⟨g17, h⟩ := h
  refine q_iast C kM4 iM4 g17 dX9_gather_195 ?_
  refine q_nmS (fun σ15 eσ15 => ?_)
  replace h := h σ15 eσ15
  refine q_aload_n C 0 dX9_gather_196 rfl ?_
  refine q_getr (T := TX9) C kM0 iM0 inX9_gather_X9 rfl 12 (by decide) (List.mem_of_getElem? (i := 1) rfl) (fun _ h9 => h9) rfl dX9_gather_197 ?_
  refine q_bipush (v := (7 : Int32)) C dX9_gather_200 (by decide) ?_
  refine q_dup2 C dX9_gather_202 rfl rfl ?_
  refine q_ialdk C 7 (by decide) (by decide) (by decide) kM4 iM4 dX9_gather_203 ?_
  refine q_iconst (v := (1 : Int32)) C dX9_gather_204 (by decide) ?_
  refine q_iadd C dX9_gather_205 ?_
  refine q_iastk C 7 (by decide) (by decide) (by decide) kM4 iM4 dX9_gather_206 ?_
  refine q_nmS (fun σ16 eσ16 => ?_)
  replace h := h σ16 eσ16
  exact q_vret C hQ dX9_gather_207 h
set_option maxHeartbeats 4000000 in
set_option maxRecDepth 100000 in
theorem b_X9_gather_J179 {Y : CY} {Z : CZ} (C : cx SM 1 Y Z cX9_gather RX9 wsX9_gather none rmX9_gather) {Post : St → Prop} (hQ : Qv SM Y Z Post)  (s0 : Int32) (σ : St) (h : w_X9_gather_J179  Post s0 σ) : WW SM 1 Y Z σ 179 [(0, .ref (qa Y 0))] [.int s0, .ref (qa Y 4)] := by
  unfold w_X9_gather_J179 at h
  refine q_aload_n C 0 dX9_gather_179 rfl ?_
  refine q_getr (T := TX9) C kM0 iM0 inX9_gather_X9 rfl 12 (by decide) (List.mem_of_getElem? (i := 1) rfl) (fun _ h9 => h9) rfl dX9_gather_180 ?_
  refine q_iconst (v := (2 : Int32)) C dX9_gather_183 (by decide) ?_
  refine q_ialdk C 2 (by decide) (by decide) (by decide) kM4 iM4 dX9_gather_184 ?_
  refine q_goto C 195 dX9_gather_185 (by decide) ?_
  exact b_X9_gather_J195 C hQ ((σ 4 2)) s0 σ h
set_option maxHeartbeats 4000000 in
set_option maxRecDepth 100000 in
theorem b_X9_gather_J146 {Y : CY} {Z : CZ} (C : cx SM 1 Y Z cX9_gather RX9 wsX9_gather none rmX9_gather) {Post : St → Prop} (hQ : Qv SM Y Z Post)  (s0 : Int32) (s1 : Int32) (σ : St) (h : w_X9_gather_J146  Post s0 s1 σ) : WW SM 1 Y Z σ 146 [(0, .ref (qa Y 0))] [.int s0, .int s1, .ref (qa Y 4)] := by
  unfold w_X9_gather_J146 at h
  obtain ⟨g14, h⟩ := h
  refine q_iast C kM4 iM4 g14 dX9_gather_146 ?_
  refine q_nmS (fun σ11 eσ11 => ?_)
  replace h := h σ11 eσ11
  refine q_aload_n C 0 dX9_gather_147 rfl ?_
  refine q_getr (T := TX9) C kM0 iM0 inX9_gather_X9 rfl 12 (by decide) (List.mem_of_getElem? (i := 1) rfl) (fun _ h9 => h9) rfl dX9_gather_148 ?_
  refine q_bipush (v := (11 : Int32)) C dX9_gather_151 (by decide) ?_
  refine q_aload_n C 0 dX9_gather_153 rfl ?_
  refine q_getr (T := TX9) C kM0 iM0 inX9_gather_X9 rfl 12 (by decide) (List.mem_of_getElem? (i := 1) rfl) (fun _ h9 => h9) rfl dX9_gather_154 ?_
  refine q_bipush (v := (7 : Int32)) C dX9_gather_157 (by decide) ?_
  refine q_ialdk C 7 (by decide) (by decide) (by decide) kM4 iM4 dX9_gather_159 ?_
  refine q_if_eq C 179 dX9_gather_160 (by decide) (fun c12 => ?_) (fun c12 => ?_)
  · replace h := h.1 c12
    exact b_X9_gather_J179 C hQ (11 : Int32) σ11 h
  · replace h := h.2 c12
    refine q_aload_n C 0 dX9_gather_163 rfl ?_
    refine q_getr (T := TX9) C kM0 iM0 inX9_gather_X9 rfl 12 (by decide) (List.mem_of_getElem? (i := 1) rfl) (fun _ h9 => h9) rfl dX9_gather_164 ?_
    refine q_iconst (v := (2 : Int32)) C dX9_gather_167 (by decide) ?_
    refine q_ialdk C 2 (by decide) (by decide) (by decide) kM4 iM4 dX9_gather_168 ?_
    refine q_aload_n C 0 dX9_gather_169 rfl ?_
    refine q_getr (T := TX9) C kM0 iM0 inX9_gather_X9 rfl 12 (by decide) (List.mem_of_getElem? (i := 1) rfl) (fun _ h9 => h9) rfl dX9_gather_170 ?_
    refine q_bipush (v := (11 : Int32)) C dX9_gather_173 (by decide) ?_
    refine q_ialdk C 11 (by decide) (by decide) (by decide) kM4 iM4 dX9_gather_175 ?_
    refine q_icmp_le C 188 dX9_gather_176 (by decide) (fun c13 => ?_) (fun c13 => ?_)
    · replace h := h.1 c13
      refine q_aload_n C 0 dX9_gather_188 rfl ?_
      refine q_getr (T := TX9) C kM0 iM0 inX9_gather_X9 rfl 12 (by decide) (List.mem_of_getElem? (i := 1) rfl) (fun _ h9 => h9) rfl dX9_gather_189 ?_
      refine q_bipush (v := (11 : Int32)) C dX9_gather_192 (by decide) ?_
      refine q_ialdk C 11 (by decide) (by decide) (by decide) kM4 iM4 dX9_gather_194 ?_
      exact b_X9_gather_J195 C hQ ((σ11 4 11)) (11 : Int32) σ11 h
    · replace h := h.2 c13
      exact b_X9_gather_J179 C hQ (11 : Int32) σ11 h
set_option maxHeartbeats 4000000 in
set_option maxRecDepth 100000 in
theorem b_X9_gather_J130 {Y : CY} {Z : CZ} (C : cx SM 1 Y Z cX9_gather RX9 wsX9_gather none rmX9_gather) {Post : St → Prop} (hQ : Qv SM Y Z Post)  (s0 : Int32) (σ : St) (h : w_X9_gather_J130  Post s0 σ) : WW SM 1 Y Z σ 130 [(0, .ref (qa Y 0))] [.int s0, .ref (qa Y 4)] := by
  unfold w_X9_gather_J130 at h
  refine q_aload_n C 0 dX9_gather_130 rfl ?_
  refine q_getr (T := TX9) C kM0 iM0 inX9_gather_X9 rfl 12 (by decide) (List.mem_of_getElem? (i := 1) rfl) (fun _ h9 => h9) rfl dX9_gather_131 ?_
  refine q_iconst (v := (2 : Int32)) C dX9_gather_134 (by decide) ?_
  refine q_ialdk C 2 (by decide) (by decide) (by decide) kM4 iM4 dX9_gather_135 ?_
  refine q_goto C 146 dX9_gather_136 (by decide) ?_
  exact b_X9_gather_J146 C hQ ((σ 4 2)) s0 σ h
set_option maxHeartbeats 4000000 in
set_option maxRecDepth 100000 in
theorem b_X9_gather_J97 {Y : CY} {Z : CZ} (C : cx SM 1 Y Z cX9_gather RX9 wsX9_gather none rmX9_gather) {Post : St → Prop} (hQ : Qv SM Y Z Post)  (s0 : Int32) (s1 : Int32) (σ : St) (h : w_X9_gather_J97  Post s0 s1 σ) : WW SM 1 Y Z σ 97 [(0, .ref (qa Y 0))] [.int s0, .int s1, .ref (qa Y 4)] := by
  unfold w_X9_gather_J97 at h
  obtain ⟨g10, h⟩ := h
  refine q_iast C kM4 iM4 g10 dX9_gather_97 ?_
  refine q_nmS (fun σ7 eσ7 => ?_)
  replace h := h σ7 eσ7
  refine q_aload_n C 0 dX9_gather_98 rfl ?_
  refine q_getr (T := TX9) C kM0 iM0 inX9_gather_X9 rfl 12 (by decide) (List.mem_of_getElem? (i := 1) rfl) (fun _ h9 => h9) rfl dX9_gather_99 ?_
  refine q_bipush (v := (10 : Int32)) C dX9_gather_102 (by decide) ?_
  refine q_aload_n C 0 dX9_gather_104 rfl ?_
  refine q_getr (T := TX9) C kM0 iM0 inX9_gather_X9 rfl 12 (by decide) (List.mem_of_getElem? (i := 1) rfl) (fun _ h9 => h9) rfl dX9_gather_105 ?_
  refine q_bipush (v := (7 : Int32)) C dX9_gather_108 (by decide) ?_
  refine q_ialdk C 7 (by decide) (by decide) (by decide) kM4 iM4 dX9_gather_110 ?_
  refine q_if_eq C 130 dX9_gather_111 (by decide) (fun c8 => ?_) (fun c8 => ?_)
  · replace h := h.1 c8
    exact b_X9_gather_J130 C hQ (10 : Int32) σ7 h
  · replace h := h.2 c8
    refine q_aload_n C 0 dX9_gather_114 rfl ?_
    refine q_getr (T := TX9) C kM0 iM0 inX9_gather_X9 rfl 12 (by decide) (List.mem_of_getElem? (i := 1) rfl) (fun _ h9 => h9) rfl dX9_gather_115 ?_
    refine q_iconst (v := (2 : Int32)) C dX9_gather_118 (by decide) ?_
    refine q_ialdk C 2 (by decide) (by decide) (by decide) kM4 iM4 dX9_gather_119 ?_
    refine q_aload_n C 0 dX9_gather_120 rfl ?_
    refine q_getr (T := TX9) C kM0 iM0 inX9_gather_X9 rfl 12 (by decide) (List.mem_of_getElem? (i := 1) rfl) (fun _ h9 => h9) rfl dX9_gather_121 ?_
    refine q_bipush (v := (10 : Int32)) C dX9_gather_124 (by decide) ?_
    refine q_ialdk C 10 (by decide) (by decide) (by decide) kM4 iM4 dX9_gather_126 ?_
    refine q_icmp_ge C 139 dX9_gather_127 (by decide) (fun c9 => ?_) (fun c9 => ?_)
    · replace h := h.1 c9
      refine q_aload_n C 0 dX9_gather_139 rfl ?_
      refine q_getr (T := TX9) C kM0 iM0 inX9_gather_X9 rfl 12 (by decide) (List.mem_of_getElem? (i := 1) rfl) (fun _ h9 => h9) rfl dX9_gather_140 ?_
      refine q_bipush (v := (10 : Int32)) C dX9_gather_143 (by decide) ?_
      refine q_ialdk C 10 (by decide) (by decide) (by decide) kM4 iM4 dX9_gather_145 ?_
      exact b_X9_gather_J146 C hQ ((σ7 4 10)) (10 : Int32) σ7 h
    · replace h := h.2 c9
      exact b_X9_gather_J130 C hQ (10 : Int32) σ7 h
set_option maxHeartbeats 4000000 in
set_option maxRecDepth 100000 in
theorem b_X9_gather_J81 {Y : CY} {Z : CZ} (C : cx SM 1 Y Z cX9_gather RX9 wsX9_gather none rmX9_gather) {Post : St → Prop} (hQ : Qv SM Y Z Post)  (s0 : Int32) (σ : St) (h : w_X9_gather_J81  Post s0 σ) : WW SM 1 Y Z σ 81 [(0, .ref (qa Y 0))] [.int s0, .ref (qa Y 4)] := by
  unfold w_X9_gather_J81 at h
  refine q_aload_n C 0 dX9_gather_81 rfl ?_
  refine q_getr (T := TX9) C kM0 iM0 inX9_gather_X9 rfl 12 (by decide) (List.mem_of_getElem? (i := 1) rfl) (fun _ h9 => h9) rfl dX9_gather_82 ?_
  refine q_iconst (v := (1 : Int32)) C dX9_gather_85 (by decide) ?_
  refine q_ialdk C 1 (by decide) (by decide) (by decide) kM4 iM4 dX9_gather_86 ?_
  refine q_goto C 97 dX9_gather_87 (by decide) ?_
  exact b_X9_gather_J97 C hQ ((σ 4 1)) s0 σ h
set_option maxHeartbeats 4000000 in
set_option maxRecDepth 100000 in
theorem b_X9_gather_J48 {Y : CY} {Z : CZ} (C : cx SM 1 Y Z cX9_gather RX9 wsX9_gather none rmX9_gather) {Post : St → Prop} (hQ : Qv SM Y Z Post)  (s0 : Int32) (s1 : Int32) (σ : St) (h : w_X9_gather_J48  Post s0 s1 σ) : WW SM 1 Y Z σ 48 [(0, .ref (qa Y 0))] [.int s0, .int s1, .ref (qa Y 4)] := by
  unfold w_X9_gather_J48 at h
  obtain ⟨g6, h⟩ := h
  refine q_iast C kM4 iM4 g6 dX9_gather_48 ?_
  refine q_nmS (fun σ3 eσ3 => ?_)
  replace h := h σ3 eσ3
  refine q_aload_n C 0 dX9_gather_49 rfl ?_
  refine q_getr (T := TX9) C kM0 iM0 inX9_gather_X9 rfl 12 (by decide) (List.mem_of_getElem? (i := 1) rfl) (fun _ h9 => h9) rfl dX9_gather_50 ?_
  refine q_bipush (v := (9 : Int32)) C dX9_gather_53 (by decide) ?_
  refine q_aload_n C 0 dX9_gather_55 rfl ?_
  refine q_getr (T := TX9) C kM0 iM0 inX9_gather_X9 rfl 12 (by decide) (List.mem_of_getElem? (i := 1) rfl) (fun _ h9 => h9) rfl dX9_gather_56 ?_
  refine q_bipush (v := (7 : Int32)) C dX9_gather_59 (by decide) ?_
  refine q_ialdk C 7 (by decide) (by decide) (by decide) kM4 iM4 dX9_gather_61 ?_
  refine q_if_eq C 81 dX9_gather_62 (by decide) (fun c4 => ?_) (fun c4 => ?_)
  · replace h := h.1 c4
    exact b_X9_gather_J81 C hQ (9 : Int32) σ3 h
  · replace h := h.2 c4
    refine q_aload_n C 0 dX9_gather_65 rfl ?_
    refine q_getr (T := TX9) C kM0 iM0 inX9_gather_X9 rfl 12 (by decide) (List.mem_of_getElem? (i := 1) rfl) (fun _ h9 => h9) rfl dX9_gather_66 ?_
    refine q_iconst (v := (1 : Int32)) C dX9_gather_69 (by decide) ?_
    refine q_ialdk C 1 (by decide) (by decide) (by decide) kM4 iM4 dX9_gather_70 ?_
    refine q_aload_n C 0 dX9_gather_71 rfl ?_
    refine q_getr (T := TX9) C kM0 iM0 inX9_gather_X9 rfl 12 (by decide) (List.mem_of_getElem? (i := 1) rfl) (fun _ h9 => h9) rfl dX9_gather_72 ?_
    refine q_bipush (v := (9 : Int32)) C dX9_gather_75 (by decide) ?_
    refine q_ialdk C 9 (by decide) (by decide) (by decide) kM4 iM4 dX9_gather_77 ?_
    refine q_icmp_le C 90 dX9_gather_78 (by decide) (fun c5 => ?_) (fun c5 => ?_)
    · replace h := h.1 c5
      refine q_aload_n C 0 dX9_gather_90 rfl ?_
      refine q_getr (T := TX9) C kM0 iM0 inX9_gather_X9 rfl 12 (by decide) (List.mem_of_getElem? (i := 1) rfl) (fun _ h9 => h9) rfl dX9_gather_91 ?_
      refine q_bipush (v := (9 : Int32)) C dX9_gather_94 (by decide) ?_
      refine q_ialdk C 9 (by decide) (by decide) (by decide) kM4 iM4 dX9_gather_96 ?_
      exact b_X9_gather_J97 C hQ ((σ3 4 9)) (9 : Int32) σ3 h
    · replace h := h.2 c5
      exact b_X9_gather_J81 C hQ (9 : Int32) σ3 h
set_option maxHeartbeats 4000000 in
set_option maxRecDepth 100000 in
theorem b_X9_gather_J32 {Y : CY} {Z : CZ} (C : cx SM 1 Y Z cX9_gather RX9 wsX9_gather none rmX9_gather) {Post : St → Prop} (hQ : Qv SM Y Z Post)  (s0 : Int32) (σ : St) (h : w_X9_gather_J32  Post s0 σ) : WW SM 1 Y Z σ 32 [(0, .ref (qa Y 0))] [.int s0, .ref (qa Y 4)] := by
  unfold w_X9_gather_J32 at h
  refine q_aload_n C 0 dX9_gather_32 rfl ?_
  refine q_getr (T := TX9) C kM0 iM0 inX9_gather_X9 rfl 12 (by decide) (List.mem_of_getElem? (i := 1) rfl) (fun _ h9 => h9) rfl dX9_gather_33 ?_
  refine q_iconst (v := (1 : Int32)) C dX9_gather_36 (by decide) ?_
  refine q_ialdk C 1 (by decide) (by decide) (by decide) kM4 iM4 dX9_gather_37 ?_
  refine q_goto C 48 dX9_gather_38 (by decide) ?_
  exact b_X9_gather_J48 C hQ ((σ 4 1)) s0 σ h
set_option maxHeartbeats 4000000 in
set_option maxRecDepth 100000 in
theorem b_X9_gather {Y : CY} {Z : CZ} (C : cx SM 1 Y Z cX9_gather RX9 wsX9_gather none rmX9_gather) {Post : St → Prop} (hQ : Qv SM Y Z Post)  (σ : St) (h : w_X9_gather  σ Post) : WW SM 1 Y Z σ 0 [(0, .ref (qa Y 0))] [] := by
  unfold w_X9_gather at h
  refine q_aload_n C 0 dX9_gather_0 rfl ?_
  refine q_getr (T := TX9) C kM0 iM0 inX9_gather_X9 rfl 12 (by decide) (List.mem_of_getElem? (i := 1) rfl) (fun _ h9 => h9) rfl dX9_gather_1 ?_
  refine q_bipush (v := (8 : Int32)) C dX9_gather_4 (by decide) ?_
  refine q_aload_n C 0 dX9_gather_6 rfl ?_
  refine q_getr (T := TX9) C kM0 iM0 inX9_gather_X9 rfl 12 (by decide) (List.mem_of_getElem? (i := 1) rfl) (fun _ h9 => h9) rfl dX9_gather_7 ?_
  refine q_bipush (v := (7 : Int32)) C dX9_gather_10 (by decide) ?_
  refine q_ialdk C 7 (by decide) (by decide) (by decide) kM4 iM4 dX9_gather_12 ?_
  refine q_if_eq C 32 dX9_gather_13 (by decide) (fun c1 => ?_) (fun c1 => ?_)
  · replace h := h.1 c1
    exact b_X9_gather_J32 C hQ (8 : Int32) σ h
  · replace h := h.2 c1
    refine q_aload_n C 0 dX9_gather_16 rfl ?_
    refine q_getr (T := TX9) C kM0 iM0 inX9_gather_X9 rfl 12 (by decide) (List.mem_of_getElem? (i := 1) rfl) (fun _ h9 => h9) rfl dX9_gather_17 ?_
    refine q_iconst (v := (1 : Int32)) C dX9_gather_20 (by decide) ?_
    refine q_ialdk C 1 (by decide) (by decide) (by decide) kM4 iM4 dX9_gather_21 ?_
    refine q_aload_n C 0 dX9_gather_22 rfl ?_
    refine q_getr (T := TX9) C kM0 iM0 inX9_gather_X9 rfl 12 (by decide) (List.mem_of_getElem? (i := 1) rfl) (fun _ h9 => h9) rfl dX9_gather_23 ?_
    refine q_bipush (v := (8 : Int32)) C dX9_gather_26 (by decide) ?_
    refine q_ialdk C 8 (by decide) (by decide) (by decide) kM4 iM4 dX9_gather_28 ?_
    refine q_icmp_ge C 41 dX9_gather_29 (by decide) (fun c2 => ?_) (fun c2 => ?_)
    · replace h := h.1 c2
      refine q_aload_n C 0 dX9_gather_41 rfl ?_
      refine q_getr (T := TX9) C kM0 iM0 inX9_gather_X9 rfl 12 (by decide) (List.mem_of_getElem? (i := 1) rfl) (fun _ h9 => h9) rfl dX9_gather_42 ?_
      refine q_bipush (v := (8 : Int32)) C dX9_gather_45 (by decide) ?_
      refine q_ialdk C 8 (by decide) (by decide) (by decide) kM4 iM4 dX9_gather_47 ?_
      exact b_X9_gather_J48 C hQ ((σ 4 8)) (8 : Int32) σ h
    · replace h := h.2 c2
      exact b_X9_gather_J32 C hQ (8 : Int32) σ h
theorem c_X9_gather (Y : CY)  (σ : St) (Post : St → Prop) (h : w_X9_gather  σ Post) : Kv SM Y yX9_gather wsX9_gather rmX9_gather [.ref (qa Y 0)] σ Post :=
  Kv_of (cc := cX9_gather) (nL := 1) (ret := none) (by decide +kernel) rfl (Nat.le_of_ble_eq_true rfl) (fun Z C hQ => b_X9_gather C hQ  σ h)
abbrev rmX9_pass : Room := { frames := 1, cells := 0, slots := 0, locals := 21 }
theorem nkX9_pass : NmOk yX9_pass 0 := by decide +kernel
theorem rmOk_X9_pass__X9_gather : RmOk rmX9_gather rmX9_pass 1 := ⟨rfl, rfl, by decide, by decide⟩
theorem rmOk_X9_pass__X9_jumpOf : RmOk rmX9_jumpOf rmX9_pass 2 := ⟨rfl, rfl, by decide, by decide⟩
theorem rmOk_X9_pass__X9_size : RmOk rmX9_size rmX9_pass 1 := ⟨rfl, rfl, by decide, by decide⟩
theorem inX9_pass_X9 : ∀ w ∈ u_ws RX9 TX9 47, w ∈ wsX9_pass := fun _ h => List.mem_cons_of_mem _ (List.mem_append_right _ h)
def w_X9_pass_J141 (Post : St → Prop) (s0 : Int32) (s1 : Int32) (σ : St) : Prop := (vp_in s1 12) ∧ (∀ σ17 : St, σ17 = up σ 4 s1.toNatClampNeg s0 → (¬ (σ17 4 5) = 0 → Post σ17) ∧ ((σ17 4 5) = 0 → (¬ (σ17 4 6) = 0 → Post σ17) ∧ ((σ17 4 6) = 0 → w_X9_gather σ17 (fun σ20 => Post σ20))))
def w_X9_pass_J136 (Post : St → Prop) (s0 : Int32) (σ : St) : Prop := w_X9_pass_J141 Post (1 : Int32) s0 σ
def w_X9_pass (σ : St) (Post : St → Prop) : Prop := ∀ x1 : Int32, x1 = (σ 4 0) → (¬ (σ 0 4) = 0) ∧ ((vp_in (x1 - x1 / (σ 0 4) * (σ 0 4)) 9) ∧ (w_X9_jumpOf x1 σ (fun x5 σ4 => ∀ σ6 : St, σ6 = up σ4 4 1 (((σ 4 1) + (((((σ 4 3) * (σ 0 8)) + (σ 0 1)) + (σ 1 (x1 - x1 / (σ 0 4) * (σ 0 4)).toNatClampNeg)) + x5))) → ∀ σ7 : St, σ7 = up σ6 4 2 (((σ6 4 2) + (((σ6 4 4) * (σ6 0 8)) + (σ6 0 2)))) → ∀ σ8 : St, σ8 = up σ7 4 3 (0 : Int32) → ∀ σ9 : St, σ9 = up σ8 4 4 (0 : Int32) → ∀ σ10 : St, σ10 = up σ9 4 0 (((σ9 4 0) + (1 : Int32))) → w_X9_size ((σ10 4 1)) σ10 (fun x12 σ11 => ((σ11 0 3) < x12 → w_X9_pass_J136 Post (5 : Int32) σ11) ∧ (¬ (σ11 0 3) < x12 → w_X9_size ((σ11 4 2)) σ11 (fun x15 σ14 => (x15 ≤ (σ14 0 3) → w_X9_pass_J141 Post (0 : Int32) (5 : Int32) σ14) ∧ (¬ x15 ≤ (σ14 0 3) → w_X9_pass_J136 Post (5 : Int32) σ14)))))))
set_option maxHeartbeats 4000000 in
set_option maxRecDepth 100000 in
theorem b_X9_pass_J141 {Y : CY} {Z : CZ} (C : cx SM 2 Y Z cX9_pass RX9 wsX9_pass none rmX9_pass) {Post : St → Prop} (hQ : Qv SM Y Z Post)  (s0 : Int32) (s1 : Int32) (σ : St) (h : w_X9_pass_J141  Post s0 s1 σ) : WW SM 2 Y Z σ 141 [(0, .ref (qa Y 0))] [.int s0, .int s1, .ref (qa Y 4)] := by
  unfold w_X9_pass_J141 at h
  obtain ⟨g21, h⟩ := h
  refine q_iast C kM4 iM4 g21 dX9_pass_141 ?_
  refine q_nmS (fun σ17 eσ17 => ?_)
  replace h := h σ17 eσ17
  refine q_aload_n C 0 dX9_pass_142 rfl ?_
  refine q_getr (T := TX9) C kM0 iM0 inX9_pass_X9 rfl 12 (by decide) (List.mem_of_getElem? (i := 1) rfl) (fun _ h9 => h9) rfl dX9_pass_143 ?_
  refine q_iconst (v := (5 : Int32)) C dX9_pass_146 (by decide) ?_
  refine q_ialdk C 5 (by decide) (by decide) (by decide) kM4 iM4 dX9_pass_147 ?_
  refine q_if_ne C 165 dX9_pass_148 (by decide) (fun c18 => ?_) (fun c18 => ?_)
  · replace h := h.1 c18
    exact q_vret C hQ dX9_pass_165 h
  · replace h := h.2 c18
    refine q_aload_n C 0 dX9_pass_151 rfl ?_
    refine q_getr (T := TX9) C kM0 iM0 inX9_pass_X9 rfl 12 (by decide) (List.mem_of_getElem? (i := 1) rfl) (fun _ h9 => h9) rfl dX9_pass_152 ?_
    refine q_bipush (v := (6 : Int32)) C dX9_pass_155 (by decide) ?_
    refine q_ialdk C 6 (by decide) (by decide) (by decide) kM4 iM4 dX9_pass_157 ?_
    refine q_if_ne C 165 dX9_pass_158 (by decide) (fun c19 => ?_) (fun c19 => ?_)
    · replace h := h.1 c19
      exact q_vret C hQ dX9_pass_165 h
    · replace h := h.2 c19
      refine q_aload_n C 0 dX9_pass_161 rfl ?_
      refine q_callVv (As := []) (st := []) C (c_X9_gather Y σ17 _ h) gX9_pass_X9_gather rfl ⟨rfl, nkX9_gather⟩ rmOk_X9_pass__X9_gather kM0 iM0 rfl rfl (Nat.le_of_ble_eq_true rfl) dX9_pass_162 rfl (fun σ20 h => ?_)
      exact q_vret C hQ dX9_pass_165 h
set_option maxHeartbeats 4000000 in
set_option maxRecDepth 100000 in
theorem b_X9_pass_J136 {Y : CY} {Z : CZ} (C : cx SM 2 Y Z cX9_pass RX9 wsX9_pass none rmX9_pass) {Post : St → Prop} (hQ : Qv SM Y Z Post)  (s0 : Int32) (σ : St) (h : w_X9_pass_J136  Post s0 σ) : WW SM 2 Y Z σ 136 [(0, .ref (qa Y 0))] [.int s0, .ref (qa Y 4)] := by
  unfold w_X9_pass_J136 at h
  refine q_iconst (v := (1 : Int32)) C dX9_pass_136 (by decide) ?_
  refine q_goto C 141 dX9_pass_137 (by decide) ?_
  exact b_X9_pass_J141 C hQ (1 : Int32) s0 σ h
set_option maxHeartbeats 4000000 in
set_option maxRecDepth 100000 in
theorem b_X9_pass {Y : CY} {Z : CZ} (C : cx SM 2 Y Z cX9_pass RX9 wsX9_pass none rmX9_pass) {Post : St → Prop} (hQ : Qv SM Y Z Post)  (σ : St) (h : w_X9_pass  σ Post) : WW SM 2 Y Z σ 0 [(0, .ref (qa Y 0))] [] := by
  unfold w_X9_pass at h
  refine q_aload_n C 0 dX9_pass_0 rfl ?_
  refine q_getr (T := TX9) C kM0 iM0 inX9_pass_X9 rfl 12 (by decide) (List.mem_of_getElem? (i := 1) rfl) (fun _ h9 => h9) rfl dX9_pass_1 ?_
  refine q_iconst (v := (0 : Int32)) C dX9_pass_4 (by decide) ?_
  refine q_ialdk C 0 (by decide) (by decide) (by decide) kM4 iM4 dX9_pass_5 ?_
  refine q_topi (fun x1 ex1 => ?_)
  replace h := h x1 ex1
  refine q_istore_n C [(1, .int x1), (0, .ref (qa Y 0))] dX9_pass_6 (by decide) rfl ?_
  refine q_aload_n C 1 dX9_pass_7 rfl ?_
  refine q_getr (T := TX9) C kM0 iM0 inX9_pass_X9 rfl 12 (by decide) (List.mem_of_getElem? (i := 1) rfl) (fun _ h9 => h9) rfl dX9_pass_8 ?_
  refine q_iconst (v := (1 : Int32)) C dX9_pass_11 (by decide) ?_
  refine q_dup2 C dX9_pass_12 rfl rfl ?_
  refine q_ialdk C 1 (by decide) (by decide) (by decide) kM4 iM4 dX9_pass_13 ?_
  refine q_aload_n C 1 dX9_pass_14 rfl ?_
  refine q_getr (T := TX9) C kM0 iM0 inX9_pass_X9 rfl 12 (by decide) (List.mem_of_getElem? (i := 1) rfl) (fun _ h9 => h9) rfl dX9_pass_15 ?_
  refine q_iconst (v := (3 : Int32)) C dX9_pass_18 (by decide) ?_
  refine q_ialdk C 3 (by decide) (by decide) (by decide) kM4 iM4 dX9_pass_19 ?_
  refine q_aload_n C 1 dX9_pass_20 rfl ?_
  refine q_geti (T := TX9) C kM0 iM0 inX9_pass_X9 rfl 8 (by decide) (List.mem_of_getElem? (i := 2) rfl) (fun _ h9 => h9) rfl dX9_pass_21 ?_
  refine q_imul C dX9_pass_24 ?_
  refine q_aload_n C 1 dX9_pass_25 rfl ?_
  refine q_geti (T := TX9) C kM0 iM0 inX9_pass_X9 rfl 1 (by decide) (List.mem_of_getElem? (i := 3) rfl) (fun _ h9 => h9) rfl dX9_pass_26 ?_
  refine q_iadd C dX9_pass_29 ?_
  refine q_aload_n C 1 dX9_pass_30 rfl ?_
  refine q_getr (T := TX9) C kM0 iM0 inX9_pass_X9 rfl 5 (by decide) (List.mem_of_getElem? (i := 4) rfl) (fun _ h9 => h9) rfl dX9_pass_31 ?_
  refine q_iload_n C 0 dX9_pass_34 rfl ?_
  refine q_aload_n C 1 dX9_pass_35 rfl ?_
  refine q_geti (T := TX9) C kM0 iM0 inX9_pass_X9 rfl 4 (by decide) (List.mem_of_getElem? (i := 5) rfl) (fun _ h9 => h9) rfl dX9_pass_36 ?_
  obtain ⟨g2, h⟩ := h
  refine q_irem C dX9_pass_39 g2 ?_
  obtain ⟨g3, h⟩ := h
  refine q_iald C kM1 iM1 g3 dX9_pass_40 ?_
  refine q_iadd C dX9_pass_41 ?_
  refine q_aload_n C 1 dX9_pass_42 rfl ?_
  refine q_iload_n C 0 dX9_pass_43 rfl ?_
  refine q_callVi (As := [.int x1]) (st := [.int ((((σ 4 3) * (σ 0 8)) + (σ 0 1)) + (σ 1 (x1 - x1 / (σ 0 4) * (σ 0 4)).toNatClampNeg)), .int (σ 4 1), .int (1 : Int32), .ref (qa Y 4)]) C (c_X9_jumpOf Y x1 σ _ h) gX9_pass_X9_jumpOf rfl ⟨rfl, nkX9_jumpOf⟩ rmOk_X9_pass__X9_jumpOf kM0 iM0 rfl rfl (Nat.le_of_ble_eq_true rfl) dX9_pass_44 rfl (fun x5 σ4 h => ?_)
  refine q_iadd C dX9_pass_47 ?_
  refine q_iadd C dX9_pass_48 ?_
  refine q_iastk C 1 (by decide) (by decide) (by decide) kM4 iM4 dX9_pass_49 ?_
  refine q_nmS (fun σ6 eσ6 => ?_)
  replace h := h σ6 eσ6
  refine q_aload_n C 1 dX9_pass_50 rfl ?_
  refine q_getr (T := TX9) C kM0 iM0 inX9_pass_X9 rfl 12 (by decide) (List.mem_of_getElem? (i := 1) rfl) (fun _ h9 => h9) rfl dX9_pass_51 ?_
  refine q_iconst (v := (2 : Int32)) C dX9_pass_54 (by decide) ?_
  refine q_dup2 C dX9_pass_55 rfl rfl ?_
  refine q_ialdk C 2 (by decide) (by decide) (by decide) kM4 iM4 dX9_pass_56 ?_
  refine q_aload_n C 1 dX9_pass_57 rfl ?_
  refine q_getr (T := TX9) C kM0 iM0 inX9_pass_X9 rfl 12 (by decide) (List.mem_of_getElem? (i := 1) rfl) (fun _ h9 => h9) rfl dX9_pass_58 ?_
  refine q_iconst (v := (4 : Int32)) C dX9_pass_61 (by decide) ?_
  refine q_ialdk C 4 (by decide) (by decide) (by decide) kM4 iM4 dX9_pass_62 ?_
  refine q_aload_n C 1 dX9_pass_63 rfl ?_
  refine q_geti (T := TX9) C kM0 iM0 inX9_pass_X9 rfl 8 (by decide) (List.mem_of_getElem? (i := 2) rfl) (fun _ h9 => h9) rfl dX9_pass_64 ?_
  refine q_imul C dX9_pass_67 ?_
  refine q_aload_n C 1 dX9_pass_68 rfl ?_
  refine q_geti (T := TX9) C kM0 iM0 inX9_pass_X9 rfl 2 (by decide) (List.mem_of_getElem? (i := 6) rfl) (fun _ h9 => h9) rfl dX9_pass_69 ?_
  refine q_iadd C dX9_pass_72 ?_
  refine q_iadd C dX9_pass_73 ?_
  refine q_iastk C 2 (by decide) (by decide) (by decide) kM4 iM4 dX9_pass_74 ?_
  refine q_nmS (fun σ7 eσ7 => ?_)
  replace h := h σ7 eσ7
  refine q_aload_n C 1 dX9_pass_75 rfl ?_
  refine q_getr (T := TX9) C kM0 iM0 inX9_pass_X9 rfl 12 (by decide) (List.mem_of_getElem? (i := 1) rfl) (fun _ h9 => h9) rfl dX9_pass_76 ?_
  refine q_iconst (v := (3 : Int32)) C dX9_pass_79 (by decide) ?_
  refine q_iconst (v := (0 : Int32)) C dX9_pass_80 (by decide) ?_
  refine q_iastk C 3 (by decide) (by decide) (by decide) kM4 iM4 dX9_pass_81 ?_
  refine q_nmS (fun σ8 eσ8 => ?_)
  replace h := h σ8 eσ8
  refine q_aload_n C 1 dX9_pass_82 rfl ?_
  refine q_getr (T := TX9) C kM0 iM0 inX9_pass_X9 rfl 12 (by decide) (List.mem_of_getElem? (i := 1) rfl) (fun _ h9 => h9) rfl dX9_pass_83 ?_
  refine q_iconst (v := (4 : Int32)) C dX9_pass_86 (by decide) ?_
  refine q_iconst (v := (0 : Int32)) C dX9_pass_87 (by decide) ?_
  refine q_iastk C 4 (by decide) (by decide) (by decide) kM4 iM4 dX9_pass_88 ?_
  refine q_nmS (fun σ9 eσ9 => ?_)
  replace h := h σ9 eσ9
  refine q_aload_n C 1 dX9_pass_89 rfl ?_
  refine q_getr (T := TX9) C kM0 iM0 inX9_pass_X9 rfl 12 (by decide) (List.mem_of_getElem? (i := 1) rfl) (fun _ h9 => h9) rfl dX9_pass_90 ?_
  refine q_iconst (v := (0 : Int32)) C dX9_pass_93 (by decide) ?_
  refine q_dup2 C dX9_pass_94 rfl rfl ?_
  refine q_ialdk C 0 (by decide) (by decide) (by decide) kM4 iM4 dX9_pass_95 ?_
  refine q_iconst (v := (1 : Int32)) C dX9_pass_96 (by decide) ?_
  refine q_iadd C dX9_pass_97 ?_
  refine q_iastk C 0 (by decide) (by decide) (by decide) kM4 iM4 dX9_pass_98 ?_
  refine q_nmS (fun σ10 eσ10 => ?_)
  replace h := h σ10 eσ10
  refine q_aload_n C 1 dX9_pass_99 rfl ?_
  refine q_getr (T := TX9) C kM0 iM0 inX9_pass_X9 rfl 12 (by decide) (List.mem_of_getElem? (i := 1) rfl) (fun _ h9 => h9) rfl dX9_pass_100 ?_
  refine q_iconst (v := (5 : Int32)) C dX9_pass_103 (by decide) ?_
  refine q_aload_n C 1 dX9_pass_104 rfl ?_
  refine q_getr (T := TX9) C kM0 iM0 inX9_pass_X9 rfl 12 (by decide) (List.mem_of_getElem? (i := 1) rfl) (fun _ h9 => h9) rfl dX9_pass_105 ?_
  refine q_iconst (v := (1 : Int32)) C dX9_pass_108 (by decide) ?_
  refine q_ialdk C 1 (by decide) (by decide) (by decide) kM4 iM4 dX9_pass_109 ?_
  refine q_callSi (As := [.int (σ10 4 1)]) (st := [.int (5 : Int32), .ref (qa Y 4)]) C (c_X9_size Y ((σ10 4 1)) σ10 _ h) gX9_pass_X9_size rfl nkX9_size rmOk_X9_pass__X9_size rfl (Nat.le_of_ble_eq_true rfl) dX9_pass_110 rfl (fun x12 σ11 h => ?_)
  refine q_aload_n C 1 dX9_pass_113 rfl ?_
  refine q_geti (T := TX9) C kM0 iM0 inX9_pass_X9 rfl 3 (by decide) (List.mem_of_getElem? (i := 7) rfl) (fun _ h9 => h9) rfl dX9_pass_114 ?_
  refine q_icmp_gt C 136 dX9_pass_117 (by decide) (fun c13 => ?_) (fun c13 => ?_)
  · replace h := h.1 c13
    refine q_sub (lv' := [(0, .ref (qa Y 0))]) [1] rfl ?_
    exact b_X9_pass_J136 C hQ (5 : Int32) σ11 h
  · replace h := h.2 c13
    refine q_aload_n C 1 dX9_pass_120 rfl ?_
    refine q_getr (T := TX9) C kM0 iM0 inX9_pass_X9 rfl 12 (by decide) (List.mem_of_getElem? (i := 1) rfl) (fun _ h9 => h9) rfl dX9_pass_121 ?_
    refine q_iconst (v := (2 : Int32)) C dX9_pass_124 (by decide) ?_
    refine q_ialdk C 2 (by decide) (by decide) (by decide) kM4 iM4 dX9_pass_125 ?_
    refine q_callSi (As := [.int (σ11 4 2)]) (st := [.int (5 : Int32), .ref (qa Y 4)]) C (c_X9_size Y ((σ11 4 2)) σ11 _ h) gX9_pass_X9_size rfl nkX9_size rmOk_X9_pass__X9_size rfl (Nat.le_of_ble_eq_true rfl) dX9_pass_126 rfl (fun x15 σ14 h => ?_)
    refine q_aload_n C 1 dX9_pass_129 rfl ?_
    refine q_geti (T := TX9) C kM0 iM0 inX9_pass_X9 rfl 3 (by decide) (List.mem_of_getElem? (i := 7) rfl) (fun _ h9 => h9) rfl dX9_pass_130 ?_
    refine q_icmp_le C 140 dX9_pass_133 (by decide) (fun c16 => ?_) (fun c16 => ?_)
    · replace h := h.1 c16
      refine q_iconst (v := (0 : Int32)) C dX9_pass_140 (by decide) ?_
      refine q_sub (lv' := [(0, .ref (qa Y 0))]) [1] rfl ?_
      exact b_X9_pass_J141 C hQ (0 : Int32) (5 : Int32) σ14 h
    · replace h := h.2 c16
      refine q_sub (lv' := [(0, .ref (qa Y 0))]) [1] rfl ?_
      exact b_X9_pass_J136 C hQ (5 : Int32) σ14 h
theorem c_X9_pass (Y : CY)  (σ : St) (Post : St → Prop) (h : w_X9_pass  σ Post) : Kv SM Y yX9_pass wsX9_pass rmX9_pass [.ref (qa Y 0)] σ Post :=
  Kv_of (cc := cX9_pass) (nL := 2) (ret := none) (by decide +kernel) rfl (Nat.le_of_ble_eq_true rfl) (fun Z C hQ => b_X9_pass C hQ  σ h)
abbrev rmX9_pressesFor : Room := { frames := 1, cells := 0, slots := 0, locals := 20 }
theorem nkX9_pressesFor : NmOk yX9_pressesFor 3 := by decide +kernel
theorem rmOk_X9_pressesFor__X9_size : RmOk rmX9_size rmX9_pressesFor 1 := ⟨rfl, rfl, by decide, by decide⟩
theorem inX9_pressesFor_X9 : ∀ w ∈ u_ws RX9 TX9 47, w ∈ wsX9_pressesFor := fun _ h => List.mem_cons_of_mem _ (List.mem_append_right _ h)
def w_X9_pressesFor (p1 : Int32) (p2 : Int32) (p3 : Int32) (σ : St) (Post : Int32 → St → Prop) : Prop := w_X9_size p1 σ (fun x2 σ1 => (x2 ≤ p2 → Post (0 : Int32) σ1) ∧ (¬ x2 ≤ p2 → (¬ (σ1 0 8) = 0) ∧ (Post ((-(((p1 * p3) / (10 : Int32)) / (σ1 0 8)))) σ1)))
set_option maxHeartbeats 4000000 in
set_option maxRecDepth 100000 in
theorem b_X9_pressesFor {Y : CY} {Z : CZ} (C : cx SM 4 Y Z cX9_pressesFor RX9 wsX9_pressesFor (some .int) rmX9_pressesFor) {Post : Int32 → St → Prop} (hQ : Qi SM Y Z Post)  (p1 : Int32) (p2 : Int32) (p3 : Int32) (σ : St) (h : w_X9_pressesFor p1 p2 p3 σ Post) : WW SM 4 Y Z σ 0 [(0, .ref (qa Y 0)), (1, .int p1), (2, .int p2), (3, .int p3)] [] := by
  unfold w_X9_pressesFor at h
  refine q_iload_n C 1 dX9_pressesFor_0 rfl ?_
  refine q_callSi (As := [.int p1]) (st := []) C (c_X9_size Y p1 σ _ h) gX9_pressesFor_X9_size rfl nkX9_size rmOk_X9_pressesFor__X9_size rfl (Nat.le_of_ble_eq_true rfl) dX9_pressesFor_1 rfl (fun x2 σ1 h => ?_)
  refine q_iload_n C 2 dX9_pressesFor_4 rfl ?_
  refine q_icmp_le C 23 dX9_pressesFor_5 (by decide) (fun c3 => ?_) (fun c3 => ?_)
  · replace h := h.1 c3
    refine q_iconst (v := (0 : Int32)) C dX9_pressesFor_23 (by decide) ?_
    exact q_iret C hQ dX9_pressesFor_24 h
  · replace h := h.2 c3
    refine q_iload_n C 1 dX9_pressesFor_8 rfl ?_
    refine q_iload_n C 3 dX9_pressesFor_9 rfl ?_
    refine q_imul C dX9_pressesFor_10 ?_
    refine q_bipush (v := (10 : Int32)) C dX9_pressesFor_11 (by decide) ?_
    refine q_idiv C dX9_pressesFor_13 (by decide) ?_
    refine q_aload_n C 0 dX9_pressesFor_14 rfl ?_
    refine q_geti (T := TX9) C kM0 iM0 inX9_pressesFor_X9 rfl 8 (by decide) (List.mem_of_getElem? (i := 1) rfl) (fun _ h9 => h9) rfl dX9_pressesFor_15 ?_
    obtain ⟨g4, h⟩ := h
    refine q_idiv C dX9_pressesFor_18 g4 ?_
    refine q_ineg C dX9_pressesFor_19 ?_
    refine q_goto C 24 dX9_pressesFor_20 (by decide) ?_
    exact q_iret C hQ dX9_pressesFor_24 h
theorem c_X9_pressesFor (Y : CY)  (p1 : Int32) (p2 : Int32) (p3 : Int32) (σ : St) (Post : Int32 → St → Prop) (h : w_X9_pressesFor p1 p2 p3 σ Post) : Ki SM Y yX9_pressesFor wsX9_pressesFor rmX9_pressesFor [.ref (qa Y 0), .int p1, .int p2, .int p3] σ Post :=
  Ki_of (cc := cX9_pressesFor) (nL := 4) (ret := (some .int)) (by decide +kernel) rfl (Nat.le_of_ble_eq_true rfl) (fun Z C hQ => b_X9_pressesFor C hQ  p1 p2 p3 σ h)
abbrev rmX9_ruled : Room := { frames := 2, cells := 0, slots := 0, locals := 43 }
theorem nkX9_ruled : NmOk yX9_ruled 2 := by decide +kernel
theorem rmOk_X9_ruled__X9_pass : RmOk rmX9_pass rmX9_ruled 2 := ⟨rfl, rfl, by decide, by decide⟩
theorem rmOk_X9_ruled__X9_pressesFor : RmOk rmX9_pressesFor rmX9_ruled 4 := ⟨rfl, rfl, by decide, by decide⟩
theorem inX9_ruled_X9 : ∀ w ∈ u_ws RX9 TX9 47, w ∈ wsX9_ruled := fun _ h => List.mem_cons_of_mem _ (List.mem_append_right _ h)
def w_X9_ruled_J59 (Post : Int32 → St → Prop) (s0 : Int32) (σ : St) : Prop := w_X9_pass σ (fun σ9 => (s0 = 0 ∨ s0 = 1) ∧ Post s0 σ9)
def w_X9_ruled_J54 (Post : Int32 → St → Prop) (σ : St) : Prop := w_X9_ruled_J59 Post (1 : Int32) σ
def w_X9_ruled (p1 : Int32) (p2 : Int32) (σ : St) (Post : Int32 → St → Prop) : Prop := w_X9_pressesFor ((σ 4 1)) p1 p2 σ (fun x2 σ1 => ∀ σ3 : St, σ3 = up σ1 4 3 x2 → w_X9_pressesFor ((σ3 4 2)) p1 p2 σ3 (fun x5 σ4 => ∀ σ6 : St, σ6 = up σ4 4 4 x5 → (¬ (σ6 4 3) = 0 → w_X9_ruled_J54 Post σ6) ∧ ((σ6 4 3) = 0 → ((σ6 4 4) = 0 → w_X9_ruled_J59 Post (0 : Int32) σ6) ∧ (¬ (σ6 4 4) = 0 → w_X9_ruled_J54 Post σ6))))
set_option maxHeartbeats 4000000 in
set_option maxRecDepth 100000 in
theorem b_X9_ruled_J59 {Y : CY} {Z : CZ} (C : cx SM 4 Y Z cX9_ruled RX9 wsX9_ruled (some .boolean) rmX9_ruled) {Post : Int32 → St → Prop} (hQ : Qi SM Y Z Post)  (s0 : Int32) (σ : St) (h : w_X9_ruled_J59  Post s0 σ) : WW SM 4 Y Z σ 59 [(0, .ref (qa Y 0))] [.int s0] := by
  unfold w_X9_ruled_J59 at h
  refine q_istore_n C [(3, .int s0), (0, .ref (qa Y 0))] dX9_ruled_59 (by decide) rfl ?_
  refine q_aload_n C 1 dX9_ruled_60 rfl ?_
  refine q_callVv (As := []) (st := []) C (c_X9_pass Y σ _ h) gX9_ruled_X9_pass rfl ⟨rfl, nkX9_pass⟩ rmOk_X9_ruled__X9_pass kM0 iM0 rfl rfl (Nat.le_of_ble_eq_true rfl) dX9_ruled_61 rfl (fun σ9 h => ?_)
  refine q_iload_n C 0 dX9_ruled_64 rfl ?_
  exact q_zret C hQ (zb_n h.1) dX9_ruled_65 h.2
set_option maxHeartbeats 4000000 in
set_option maxRecDepth 100000 in
theorem b_X9_ruled_J54 {Y : CY} {Z : CZ} (C : cx SM 4 Y Z cX9_ruled RX9 wsX9_ruled (some .boolean) rmX9_ruled) {Post : Int32 → St → Prop} (hQ : Qi SM Y Z Post)  (σ : St) (h : w_X9_ruled_J54  Post σ) : WW SM 4 Y Z σ 54 [(0, .ref (qa Y 0))] [] := by
  unfold w_X9_ruled_J54 at h
  refine q_iconst (v := (1 : Int32)) C dX9_ruled_54 (by decide) ?_
  refine q_goto C 59 dX9_ruled_55 (by decide) ?_
  exact b_X9_ruled_J59 C hQ (1 : Int32) σ h
set_option maxHeartbeats 4000000 in
set_option maxRecDepth 100000 in
theorem b_X9_ruled {Y : CY} {Z : CZ} (C : cx SM 4 Y Z cX9_ruled RX9 wsX9_ruled (some .boolean) rmX9_ruled) {Post : Int32 → St → Prop} (hQ : Qi SM Y Z Post)  (p1 : Int32) (p2 : Int32) (σ : St) (h : w_X9_ruled p1 p2 σ Post) : WW SM 4 Y Z σ 0 [(0, .ref (qa Y 0)), (1, .int p1), (2, .int p2)] [] := by
  unfold w_X9_ruled at h
  refine q_aload_n C 0 dX9_ruled_0 rfl ?_
  refine q_getr (T := TX9) C kM0 iM0 inX9_ruled_X9 rfl 12 (by decide) (List.mem_of_getElem? (i := 1) rfl) (fun _ h9 => h9) rfl dX9_ruled_1 ?_
  refine q_iconst (v := (3 : Int32)) C dX9_ruled_4 (by decide) ?_
  refine q_aload_n C 0 dX9_ruled_5 rfl ?_
  refine q_aload_n C 0 dX9_ruled_6 rfl ?_
  refine q_getr (T := TX9) C kM0 iM0 inX9_ruled_X9 rfl 12 (by decide) (List.mem_of_getElem? (i := 1) rfl) (fun _ h9 => h9) rfl dX9_ruled_7 ?_
  refine q_iconst (v := (1 : Int32)) C dX9_ruled_10 (by decide) ?_
  refine q_ialdk C 1 (by decide) (by decide) (by decide) kM4 iM4 dX9_ruled_11 ?_
  refine q_iload_n C 1 dX9_ruled_12 rfl ?_
  refine q_iload_n C 2 dX9_ruled_13 rfl ?_
  refine q_callVi (As := [.int (σ 4 1), .int p1, .int p2]) (st := [.int (3 : Int32), .ref (qa Y 4)]) C (c_X9_pressesFor Y ((σ 4 1)) p1 p2 σ _ h) gX9_ruled_X9_pressesFor rfl ⟨rfl, nkX9_pressesFor⟩ rmOk_X9_ruled__X9_pressesFor kM0 iM0 rfl rfl (Nat.le_of_ble_eq_true rfl) dX9_ruled_14 rfl (fun x2 σ1 h => ?_)
  refine q_iastk C 3 (by decide) (by decide) (by decide) kM4 iM4 dX9_ruled_17 ?_
  refine q_nmS (fun σ3 eσ3 => ?_)
  replace h := h σ3 eσ3
  refine q_aload_n C 0 dX9_ruled_18 rfl ?_
  refine q_getr (T := TX9) C kM0 iM0 inX9_ruled_X9 rfl 12 (by decide) (List.mem_of_getElem? (i := 1) rfl) (fun _ h9 => h9) rfl dX9_ruled_19 ?_
  refine q_iconst (v := (4 : Int32)) C dX9_ruled_22 (by decide) ?_
  refine q_aload_n C 0 dX9_ruled_23 rfl ?_
  refine q_aload_n C 0 dX9_ruled_24 rfl ?_
  refine q_getr (T := TX9) C kM0 iM0 inX9_ruled_X9 rfl 12 (by decide) (List.mem_of_getElem? (i := 1) rfl) (fun _ h9 => h9) rfl dX9_ruled_25 ?_
  refine q_iconst (v := (2 : Int32)) C dX9_ruled_28 (by decide) ?_
  refine q_ialdk C 2 (by decide) (by decide) (by decide) kM4 iM4 dX9_ruled_29 ?_
  refine q_iload_n C 1 dX9_ruled_30 rfl ?_
  refine q_iload_n C 2 dX9_ruled_31 rfl ?_
  refine q_callVi (As := [.int (σ3 4 2), .int p1, .int p2]) (st := [.int (4 : Int32), .ref (qa Y 4)]) C (c_X9_pressesFor Y ((σ3 4 2)) p1 p2 σ3 _ h) gX9_ruled_X9_pressesFor rfl ⟨rfl, nkX9_pressesFor⟩ rmOk_X9_ruled__X9_pressesFor kM0 iM0 rfl rfl (Nat.le_of_ble_eq_true rfl) dX9_ruled_32 rfl (fun x5 σ4 h => ?_)
  refine q_iastk C 4 (by decide) (by decide) (by decide) kM4 iM4 dX9_ruled_35 ?_
  refine q_nmS (fun σ6 eσ6 => ?_)
  replace h := h σ6 eσ6
  refine q_aload_n C 0 dX9_ruled_36 rfl ?_
  refine q_getr (T := TX9) C kM0 iM0 inX9_ruled_X9 rfl 12 (by decide) (List.mem_of_getElem? (i := 1) rfl) (fun _ h9 => h9) rfl dX9_ruled_37 ?_
  refine q_iconst (v := (3 : Int32)) C dX9_ruled_40 (by decide) ?_
  refine q_ialdk C 3 (by decide) (by decide) (by decide) kM4 iM4 dX9_ruled_41 ?_
  refine q_if_ne C 54 dX9_ruled_42 (by decide) (fun c7 => ?_) (fun c7 => ?_)
  · replace h := h.1 c7
    refine q_sub (lv' := [(0, .ref (qa Y 0))]) [0] rfl ?_
    exact b_X9_ruled_J54 C hQ σ6 h
  · replace h := h.2 c7
    refine q_aload_n C 0 dX9_ruled_45 rfl ?_
    refine q_getr (T := TX9) C kM0 iM0 inX9_ruled_X9 rfl 12 (by decide) (List.mem_of_getElem? (i := 1) rfl) (fun _ h9 => h9) rfl dX9_ruled_46 ?_
    refine q_iconst (v := (4 : Int32)) C dX9_ruled_49 (by decide) ?_
    refine q_ialdk C 4 (by decide) (by decide) (by decide) kM4 iM4 dX9_ruled_50 ?_
    refine q_if_eq C 58 dX9_ruled_51 (by decide) (fun c8 => ?_) (fun c8 => ?_)
    · replace h := h.1 c8
      refine q_iconst (v := (0 : Int32)) C dX9_ruled_58 (by decide) ?_
      refine q_sub (lv' := [(0, .ref (qa Y 0))]) [0] rfl ?_
      exact b_X9_ruled_J59 C hQ (0 : Int32) σ6 h
    · replace h := h.2 c8
      refine q_sub (lv' := [(0, .ref (qa Y 0))]) [0] rfl ?_
      exact b_X9_ruled_J54 C hQ σ6 h
theorem c_X9_ruled (Y : CY)  (p1 : Int32) (p2 : Int32) (σ : St) (Post : Int32 → St → Prop) (h : w_X9_ruled p1 p2 σ Post) : Ki SM Y yX9_ruled wsX9_ruled rmX9_ruled [.ref (qa Y 0), .int p1, .int p2] σ Post :=
  Ki_of (cc := cX9_ruled) (nL := 4) (ret := (some .boolean)) (by decide +kernel) rfl (Nat.le_of_ble_eq_true rfl) (fun Z C hQ => b_X9_ruled C hQ  p1 p2 σ h)
abbrev rmX9_tailNow : Room := { frames := 0, cells := 0, slots := 0, locals := 0 }
theorem nkX9_tailNow : NmOk yX9_tailNow 0 := by decide +kernel
theorem inX9_tailNow_X9 : ∀ w ∈ u_ws RX9 TX9 47, w ∈ wsX9_tailNow := fun _ h => List.mem_cons_of_mem _ (List.mem_append_right _ h)
def w_X9_tailNow (σ : St) (Post : Int32 → St → Prop) : Prop := ∀ x1 : Int32, x1 = ((σ 4 9) - (σ 4 8)) → ∀ x2 : Int32, x2 = ((σ 4 11) - (σ 4 10)) → (¬ (σ 4 7) = 0 → (x1 ≤ x2 → Post x2 σ) ∧ (¬ x1 ≤ x2 → Post x1 σ)) ∧ ((σ 4 7) = 0 → Post (0 : Int32) σ)
set_option maxHeartbeats 4000000 in
set_option maxRecDepth 100000 in
theorem b_X9_tailNow {Y : CY} {Z : CZ} (C : cx SM 3 Y Z cX9_tailNow RX9 wsX9_tailNow (some .int) rmX9_tailNow) {Post : Int32 → St → Prop} (hQ : Qi SM Y Z Post)  (σ : St) (h : w_X9_tailNow  σ Post) : WW SM 3 Y Z σ 0 [(0, .ref (qa Y 0))] [] := by
  unfold w_X9_tailNow at h
  refine q_aload_n C 0 dX9_tailNow_0 rfl ?_
  refine q_getr (T := TX9) C kM0 iM0 inX9_tailNow_X9 rfl 12 (by decide) (List.mem_of_getElem? (i := 1) rfl) (fun _ h9 => h9) rfl dX9_tailNow_1 ?_
  refine q_bipush (v := (9 : Int32)) C dX9_tailNow_4 (by decide) ?_
  refine q_ialdk C 9 (by decide) (by decide) (by decide) kM4 iM4 dX9_tailNow_6 ?_
  refine q_aload_n C 0 dX9_tailNow_7 rfl ?_
  refine q_getr (T := TX9) C kM0 iM0 inX9_tailNow_X9 rfl 12 (by decide) (List.mem_of_getElem? (i := 1) rfl) (fun _ h9 => h9) rfl dX9_tailNow_8 ?_
  refine q_bipush (v := (8 : Int32)) C dX9_tailNow_11 (by decide) ?_
  refine q_ialdk C 8 (by decide) (by decide) (by decide) kM4 iM4 dX9_tailNow_13 ?_
  refine q_isub C dX9_tailNow_14 ?_
  refine q_topi (fun x1 ex1 => ?_)
  replace h := h x1 ex1
  refine q_istore_n C [(1, .int x1), (0, .ref (qa Y 0))] dX9_tailNow_15 (by decide) rfl ?_
  refine q_aload_n C 1 dX9_tailNow_16 rfl ?_
  refine q_getr (T := TX9) C kM0 iM0 inX9_tailNow_X9 rfl 12 (by decide) (List.mem_of_getElem? (i := 1) rfl) (fun _ h9 => h9) rfl dX9_tailNow_17 ?_
  refine q_bipush (v := (11 : Int32)) C dX9_tailNow_20 (by decide) ?_
  refine q_ialdk C 11 (by decide) (by decide) (by decide) kM4 iM4 dX9_tailNow_22 ?_
  refine q_aload_n C 1 dX9_tailNow_23 rfl ?_
  refine q_getr (T := TX9) C kM0 iM0 inX9_tailNow_X9 rfl 12 (by decide) (List.mem_of_getElem? (i := 1) rfl) (fun _ h9 => h9) rfl dX9_tailNow_24 ?_
  refine q_bipush (v := (10 : Int32)) C dX9_tailNow_27 (by decide) ?_
  refine q_ialdk C 10 (by decide) (by decide) (by decide) kM4 iM4 dX9_tailNow_29 ?_
  refine q_isub C dX9_tailNow_30 ?_
  refine q_topi (fun x2 ex2 => ?_)
  replace h := h x2 ex2
  refine q_istore_n C [(2, .int x2), (1, .int x1), (0, .ref (qa Y 0))] dX9_tailNow_31 (by decide) rfl ?_
  refine q_aload_n C 2 dX9_tailNow_32 rfl ?_
  refine q_getr (T := TX9) C kM0 iM0 inX9_tailNow_X9 rfl 12 (by decide) (List.mem_of_getElem? (i := 1) rfl) (fun _ h9 => h9) rfl dX9_tailNow_33 ?_
  refine q_bipush (v := (7 : Int32)) C dX9_tailNow_36 (by decide) ?_
  refine q_ialdk C 7 (by decide) (by decide) (by decide) kM4 iM4 dX9_tailNow_38 ?_
  refine q_if_ne C 46 dX9_tailNow_39 (by decide) (fun c3 => ?_) (fun c3 => ?_)
  · replace h := h.1 c3
    refine q_iload_n C 1 dX9_tailNow_46 rfl ?_
    refine q_iload_n C 0 dX9_tailNow_47 rfl ?_
    refine q_icmp_le C 55 dX9_tailNow_48 (by decide) (fun c4 => ?_) (fun c4 => ?_)
    · replace h := h.1 c4
      refine q_iload_n C 0 dX9_tailNow_55 rfl ?_
      exact q_iret C hQ dX9_tailNow_56 h
    · replace h := h.2 c4
      refine q_iload_n C 1 dX9_tailNow_51 rfl ?_
      refine q_goto C 56 dX9_tailNow_52 (by decide) ?_
      exact q_iret C hQ dX9_tailNow_56 h
  · replace h := h.2 c3
    refine q_iconst (v := (0 : Int32)) C dX9_tailNow_42 (by decide) ?_
    refine q_goto C 56 dX9_tailNow_43 (by decide) ?_
    exact q_iret C hQ dX9_tailNow_56 h
theorem c_X9_tailNow (Y : CY)  (σ : St) (Post : Int32 → St → Prop) (h : w_X9_tailNow  σ Post) : Ki SM Y yX9_tailNow wsX9_tailNow rmX9_tailNow [.ref (qa Y 0)] σ Post :=
  Ki_of (cc := cX9_tailNow) (nL := 3) (ret := (some .int)) (by decide +kernel) rfl (Nat.le_of_ble_eq_true rfl) (fun Z C hQ => b_X9_tailNow C hQ  σ h)
abbrev rmX9_putBack : Room := { frames := 0, cells := 0, slots := 0, locals := 0 }
theorem nkX9_putBack : NmOk yX9_putBack 0 := by decide +kernel
theorem inX9_putBack_X9 : ∀ w ∈ u_ws RX9 TX9 47, w ∈ wsX9_putBack := fun _ h => List.mem_cons_of_mem _ (List.mem_append_right _ h)
def w_X9_putBack_B2 (Post : St → Prop) (K2 : Int32 → St → Prop) (v1 : Int32) (σ : St) : Prop := ((12 : Int32) ≤ v1 → Post σ) ∧ (¬ (12 : Int32) ≤ v1 → (vp_in v1 12) ∧ ((vp_in v1 12) ∧ (∀ σ3 : St, σ3 = up σ 4 v1.toNatClampNeg ((σ 13 v1.toNatClampNeg)) → ∀ x4 : Int32, x4 = v1 + (1 : Int32) → K2 x4 σ3)))
def w_X9_putBack_L2 (Post : St → Prop) : Nat → Int32 → St → Prop
  | 0 => fun _ _ => False
  | n + 1 => w_X9_putBack_B2   Post (w_X9_putBack_L2   Post n)
def w_X9_putBack (σ : St) (Post : St → Prop) : Prop := w_X9_putBack_L2 Post FU (0 : Int32) σ
set_option maxHeartbeats 4000000 in
set_option maxRecDepth 100000 in
theorem b_X9_putBack_B2 {Y : CY} {Z : CZ} (C : cx SM 2 Y Z cX9_putBack RX9 wsX9_putBack none rmX9_putBack) {Post : St → Prop} (hQ : Qv SM Y Z Post)  {K2 : Int32 → St → Prop} (hK2 : ∀ (v1 : Int32) (σ : St), K2 v1 σ → WW SM 2 Y Z σ 2 [(0, .ref (qa Y 0)), (1, .int v1)] []) (v1 : Int32) (σ : St) (h : w_X9_putBack_B2  Post K2 v1 σ) : WW SM 2 Y Z σ 2 [(0, .ref (qa Y 0)), (1, .int v1)] [] := by
  unfold w_X9_putBack_B2 at h
  refine q_iload_n C 1 dX9_putBack_2 rfl ?_
  refine q_bipush (v := (12 : Int32)) C dX9_putBack_3 (by decide) ?_
  refine q_icmp_ge C 26 dX9_putBack_5 (by decide) (fun c1 => ?_) (fun c1 => ?_)
  · replace h := h.1 c1
    exact q_vret C hQ dX9_putBack_26 h
  · replace h := h.2 c1
    refine q_aload_n C 0 dX9_putBack_8 rfl ?_
    refine q_getr (T := TX9) C kM0 iM0 inX9_putBack_X9 rfl 12 (by decide) (List.mem_of_getElem? (i := 1) rfl) (fun _ h9 => h9) rfl dX9_putBack_9 ?_
    refine q_iload_n C 1 dX9_putBack_12 rfl ?_
    refine q_aload_n C 0 dX9_putBack_13 rfl ?_
    refine q_getr (T := TX9) C kM0 iM0 inX9_putBack_X9 rfl 33 (by decide) (List.mem_of_getElem? (i := 2) rfl) (fun _ h9 => h9) rfl dX9_putBack_14 ?_
    refine q_iload_n C 1 dX9_putBack_17 rfl ?_
    obtain ⟨g2, h⟩ := h
    refine q_iald C kM13 iM13 g2 dX9_putBack_18 ?_
    obtain ⟨g5, h⟩ := h
    refine q_iast C kM4 iM4 g5 dX9_putBack_19 ?_
    refine q_nmS (fun σ3 eσ3 => ?_)
    replace h := h σ3 eσ3
    obtain ⟨x4, ex4⟩ : ∃ y : Int32, y = v1 + (1 : Int32) := ⟨_, rfl⟩
    replace h := h x4 ex4
    refine q_iinc C x4 1 [(1, .int x4), (0, .ref (qa Y 0))] dX9_putBack_20 rfl (by rw [ex4]; rfl) (by decide) rfl ?_
    refine q_goto C 2 dX9_putBack_23 (by decide) ?_
    refine q_sub (lv' := [(0, .ref (qa Y 0)), (1, .int x4)]) [1, 0] rfl ?_
    exact hK2 x4 σ3 h
theorem b_X9_putBack_L2 {Y : CY} {Z : CZ} (C : cx SM 2 Y Z cX9_putBack RX9 wsX9_putBack none rmX9_putBack) {Post : St → Prop} (hQ : Qv SM Y Z Post)  : ∀ (n : Nat) (v1 : Int32) (σ : St) (h : w_X9_putBack_L2  Post n v1 σ), WW SM 2 Y Z σ 2 [(0, .ref (qa Y 0)), (1, .int v1)] [] := by
  intro n
  induction n with
  | zero => intro v1 σ h; exact h.elim
  | succ n ih => intro v1 σ h; exact b_X9_putBack_B2 C hQ  ih v1 σ h
set_option maxHeartbeats 4000000 in
set_option maxRecDepth 100000 in
theorem b_X9_putBack {Y : CY} {Z : CZ} (C : cx SM 2 Y Z cX9_putBack RX9 wsX9_putBack none rmX9_putBack) {Post : St → Prop} (hQ : Qv SM Y Z Post)  (σ : St) (h : w_X9_putBack  σ Post) : WW SM 2 Y Z σ 0 [(0, .ref (qa Y 0))] [] := by
  unfold w_X9_putBack at h
  refine q_iconst (v := (0 : Int32)) C dX9_putBack_0 (by decide) ?_
  refine q_istore_n C [(1, .int (0 : Int32)), (0, .ref (qa Y 0))] dX9_putBack_1 (by decide) rfl ?_
  refine q_sub (lv' := [(0, .ref (qa Y 0)), (1, .int (0 : Int32))]) [1, 0] rfl ?_
  exact b_X9_putBack_L2 C hQ FU (0 : Int32) σ h
theorem c_X9_putBack (Y : CY)  (σ : St) (Post : St → Prop) (h : w_X9_putBack  σ Post) : Kv SM Y yX9_putBack wsX9_putBack rmX9_putBack [.ref (qa Y 0)] σ Post :=
  Kv_of (cc := cX9_putBack) (nL := 2) (ret := none) (by decide +kernel) rfl (Nat.le_of_ble_eq_true rfl) (fun Z C hQ => b_X9_putBack C hQ  σ h)
abbrev rmX9_tailBy : Room := { frames := 3, cells := 0, slots := 0, locals := 66 }
theorem nkX9_tailBy : NmOk yX9_tailBy 5 := by decide +kernel
theorem rmOk_X9_tailBy__X9_in : RmOk rmX9_in rmX9_tailBy 6 := ⟨rfl, rfl, by decide, by decide⟩
theorem rmOk_X9_tailBy__X9_newPlate : RmOk rmX9_newPlate rmX9_tailBy 2 := ⟨rfl, rfl, by decide, by decide⟩
theorem rmOk_X9_tailBy__X9_pass : RmOk rmX9_pass rmX9_tailBy 2 := ⟨rfl, rfl, by decide, by decide⟩
theorem rmOk_X9_tailBy__X9_putBack : RmOk rmX9_putBack rmX9_tailBy 2 := ⟨rfl, rfl, by decide, by decide⟩
theorem rmOk_X9_tailBy__X9_ruled : RmOk rmX9_ruled rmX9_tailBy 4 := ⟨rfl, rfl, by decide, by decide⟩
theorem rmOk_X9_tailBy__X9_tailNow : RmOk rmX9_tailNow rmX9_tailBy 3 := ⟨rfl, rfl, by decide, by decide⟩
theorem inX9_tailBy_X9 : ∀ w ∈ u_ws RX9 TX9 47, w ∈ wsX9_tailBy := fun _ h => List.mem_cons_of_mem _ (List.mem_append_right _ h)
def w_X9_tailBy_J77 (K12 : Int32 → Int32 → Int32 → Int32 → Int32 → Int32 → St → Prop) (Post : Int32 → St → Prop) (v1 : Int32) (v2 : Int32) (v3 : Int32) (v4 : Int32) (v5 : Int32) (v6 : Int32) (σ : St) : Prop := ∀ x16 : Int32, x16 = v6 + (1 : Int32) → K12 v1 v2 v3 v4 v5 x16 σ
def w_X9_tailBy_J73 (K12 : Int32 → Int32 → Int32 → Int32 → Int32 → Int32 → St → Prop) (Post : Int32 → St → Prop) (v1 : Int32) (v2 : Int32) (v3 : Int32) (v4 : Int32) (v5 : Int32) (v6 : Int32) (s0 : Int32) (s1 : Int32) (σ : St) : Prop := ∀ σ15 : St, σ15 = up σ 0 34 ((s1 + s0)) → w_X9_tailBy_J77 K12 Post v1 v2 v3 v4 v5 v6 σ15
def w_X9_tailBy_J103 (Post : Int32 → St → Prop) (s0 : Int32) (σ : St) : Prop := w_X9_putBack σ (fun σ17 => Post s0 σ17)
def w_X9_tailBy_J83 (Post : Int32 → St → Prop) (σ : St) : Prop := (¬ (σ 4 5) = (1 : Int32) → w_X9_tailNow σ (fun x14 σ13 => w_X9_tailBy_J103 Post x14 σ13)) ∧ ((σ 4 5) = (1 : Int32) → w_X9_tailBy_J103 Post (9999 : Int32) σ)
def w_X9_tailBy_B12 (Post : Int32 → St → Prop) (K12 : Int32 → Int32 → Int32 → Int32 → Int32 → Int32 → St → Prop) (v1 : Int32) (v2 : Int32) (v3 : Int32) (v4 : Int32) (v5 : Int32) (v6 : Int32) (σ : St) : Prop := (v3 ≤ v6 → w_X9_tailBy_J83 Post σ) ∧ (¬ v3 ≤ v6 → (¬ (σ 4 5) = 0 → w_X9_tailBy_J83 Post σ) ∧ ((σ 4 5) = 0 → w_X9_in (v6.toInt64) (v4.toInt64) (((v4 + v5) - (1 : Int32)).toInt64) σ (fun x6 σ5 => (x6 = 0 → w_X9_ruled v1 v2 σ5 (fun x9 σ8 => (x9 = 0 → w_X9_tailBy_J73 K12 Post v1 v2 v3 v4 v5 v6 (0 : Int32) ((σ5 0 34)) σ8) ∧ (¬ x9 = 0 → w_X9_tailBy_J73 K12 Post v1 v2 v3 v4 v5 v6 (1 : Int32) ((σ5 0 34)) σ8))) ∧ (¬ x6 = 0 → w_X9_pass σ5 (fun σ11 => w_X9_tailBy_J77 K12 Post v1 v2 v3 v4 v5 v6 σ11)))))
def w_X9_tailBy_L12 (Post : Int32 → St → Prop) : Nat → Int32 → Int32 → Int32 → Int32 → Int32 → Int32 → St → Prop
  | 0 => fun _ _ _ _ _ _ _ => False
  | n + 1 => w_X9_tailBy_B12   Post (w_X9_tailBy_L12   Post n)
def w_X9_tailBy (p1 : Int32) (p2 : Int32) (p3 : Int32) (p4 : Int32) (p5 : Int32) (σ : St) (Post : Int32 → St → Prop) : Prop := w_X9_newPlate σ (fun σ1 => ∀ σ2 : St, σ2 = up σ1 0 34 (0 : Int32) → w_X9_tailBy_L12 Post FU p1 p2 p3 p4 p5 (0 : Int32) σ2)
set_option maxHeartbeats 4000000 in
set_option maxRecDepth 100000 in
theorem b_X9_tailBy_J77 {Y : CY} {Z : CZ} (C : cx SM 7 Y Z cX9_tailBy RX9 wsX9_tailBy (some .int) rmX9_tailBy) {Post : Int32 → St → Prop} (hQ : Qi SM Y Z Post)  {K12 : Int32 → Int32 → Int32 → Int32 → Int32 → Int32 → St → Prop} (hK12 : ∀ (v1 : Int32) (v2 : Int32) (v3 : Int32) (v4 : Int32) (v5 : Int32) (v6 : Int32) (σ : St), K12 v1 v2 v3 v4 v5 v6 σ → WW SM 7 Y Z σ 12 [(0, .ref (qa Y 0)), (1, .int v1), (2, .int v2), (3, .int v3), (4, .int v4), (5, .int v5), (6, .int v6)] []) (v1 : Int32) (v2 : Int32) (v3 : Int32) (v4 : Int32) (v5 : Int32) (v6 : Int32) (σ : St) (h : w_X9_tailBy_J77 K12 Post v1 v2 v3 v4 v5 v6 σ) : WW SM 7 Y Z σ 77 [(0, .ref (qa Y 0)), (1, .int v1), (2, .int v2), (3, .int v3), (4, .int v4), (5, .int v5), (6, .int v6)] [] := by
  unfold w_X9_tailBy_J77 at h
  obtain ⟨x16, ex16⟩ : ∃ y : Int32, y = v6 + (1 : Int32) := ⟨_, rfl⟩
  replace h := h x16 ex16
  refine q_iinc C x16 6 [(6, .int x16), (0, .ref (qa Y 0)), (1, .int v1), (2, .int v2), (3, .int v3), (4, .int v4), (5, .int v5)] dX9_tailBy_77 rfl (by rw [ex16]; rfl) (by decide) rfl ?_
  refine q_goto C 12 dX9_tailBy_80 (by decide) ?_
  refine q_sub (lv' := [(0, .ref (qa Y 0)), (1, .int v1), (2, .int v2), (3, .int v3), (4, .int v4), (5, .int v5), (6, .int x16)]) [1, 2, 3, 4, 5, 6, 0] rfl ?_
  exact hK12 v1 v2 v3 v4 v5 x16 σ h
set_option maxHeartbeats 4000000 in
set_option maxRecDepth 100000 in
theorem b_X9_tailBy_J73 {Y : CY} {Z : CZ} (C : cx SM 7 Y Z cX9_tailBy RX9 wsX9_tailBy (some .int) rmX9_tailBy) {Post : Int32 → St → Prop} (hQ : Qi SM Y Z Post)  {K12 : Int32 → Int32 → Int32 → Int32 → Int32 → Int32 → St → Prop} (hK12 : ∀ (v1 : Int32) (v2 : Int32) (v3 : Int32) (v4 : Int32) (v5 : Int32) (v6 : Int32) (σ : St), K12 v1 v2 v3 v4 v5 v6 σ → WW SM 7 Y Z σ 12 [(0, .ref (qa Y 0)), (1, .int v1), (2, .int v2), (3, .int v3), (4, .int v4), (5, .int v5), (6, .int v6)] []) (v1 : Int32) (v2 : Int32) (v3 : Int32) (v4 : Int32) (v5 : Int32) (v6 : Int32) (s0 : Int32) (s1 : Int32) (σ : St) (h : w_X9_tailBy_J73 K12 Post v1 v2 v3 v4 v5 v6 s0 s1 σ) : WW SM 7 Y Z σ 73 [(0, .ref (qa Y 0)), (1, .int v1), (2, .int v2), (3, .int v3), (4, .int v4), (5, .int v5), (6, .int v6)] [.int s0, .int s1, .ref (qa Y 0)] := by
  unfold w_X9_tailBy_J73 at h
  refine q_iadd C dX9_tailBy_73 ?_
  refine q_puti (T := TX9) C kM0 iM0 inX9_tailBy_X9 rfl tyX9 tyX9_ok nmX9 34 (by decide) (List.mem_of_getElem? (i := 1) rfl) (fun _ h9 => h9) rfl dgM0 rfl (ni_n _) (ni_f _) dX9_tailBy_74 ?_
  refine q_nmS (fun σ15 eσ15 => ?_)
  replace h := h σ15 eσ15
  exact b_X9_tailBy_J77 C hQ hK12 v1 v2 v3 v4 v5 v6 σ15 h
set_option maxHeartbeats 4000000 in
set_option maxRecDepth 100000 in
theorem b_X9_tailBy_J103 {Y : CY} {Z : CZ} (C : cx SM 7 Y Z cX9_tailBy RX9 wsX9_tailBy (some .int) rmX9_tailBy) {Post : Int32 → St → Prop} (hQ : Qi SM Y Z Post)  (s0 : Int32) (σ : St) (h : w_X9_tailBy_J103  Post s0 σ) : WW SM 7 Y Z σ 103 [(0, .ref (qa Y 0))] [.int s0] := by
  unfold w_X9_tailBy_J103 at h
  refine q_istore C [(6, .int s0), (0, .ref (qa Y 0))] dX9_tailBy_103 (by decide) rfl ?_
  refine q_aload_n C 1 dX9_tailBy_105 rfl ?_
  refine q_callVv (As := []) (st := []) C (c_X9_putBack Y σ _ h) gX9_tailBy_X9_putBack rfl ⟨rfl, nkX9_putBack⟩ rmOk_X9_tailBy__X9_putBack kM0 iM0 rfl rfl (Nat.le_of_ble_eq_true rfl) dX9_tailBy_106 rfl (fun σ17 h => ?_)
  refine q_iload C 0 dX9_tailBy_109 rfl ?_
  exact q_iret C hQ dX9_tailBy_111 h
set_option maxHeartbeats 4000000 in
set_option maxRecDepth 100000 in
theorem b_X9_tailBy_J83 {Y : CY} {Z : CZ} (C : cx SM 7 Y Z cX9_tailBy RX9 wsX9_tailBy (some .int) rmX9_tailBy) {Post : Int32 → St → Prop} (hQ : Qi SM Y Z Post)  (σ : St) (h : w_X9_tailBy_J83  Post σ) : WW SM 7 Y Z σ 83 [(0, .ref (qa Y 0))] [] := by
  unfold w_X9_tailBy_J83 at h
  refine q_aload_n C 0 dX9_tailBy_83 rfl ?_
  refine q_getr (T := TX9) C kM0 iM0 inX9_tailBy_X9 rfl 12 (by decide) (List.mem_of_getElem? (i := 2) rfl) (fun _ h9 => h9) rfl dX9_tailBy_84 ?_
  refine q_iconst (v := (5 : Int32)) C dX9_tailBy_87 (by decide) ?_
  refine q_ialdk C 5 (by decide) (by decide) (by decide) kM4 iM4 dX9_tailBy_88 ?_
  refine q_iconst (v := (1 : Int32)) C dX9_tailBy_89 (by decide) ?_
  refine q_icmp_ne C 99 dX9_tailBy_90 (by decide) (fun c12 => ?_) (fun c12 => ?_)
  · replace h := h.1 c12
    refine q_aload_n C 0 dX9_tailBy_99 rfl ?_
    refine q_callVi (As := []) (st := []) C (c_X9_tailNow Y σ _ h) gX9_tailBy_X9_tailNow rfl ⟨rfl, nkX9_tailNow⟩ rmOk_X9_tailBy__X9_tailNow kM0 iM0 rfl rfl (Nat.le_of_ble_eq_true rfl) dX9_tailBy_100 rfl (fun x14 σ13 h => ?_)
    exact b_X9_tailBy_J103 C hQ x14 σ13 h
  · replace h := h.2 c12
    refine q_sipush (v := (9999 : Int32)) C dX9_tailBy_93 (by decide) ?_
    refine q_goto C 103 dX9_tailBy_96 (by decide) ?_
    exact b_X9_tailBy_J103 C hQ (9999 : Int32) σ h
set_option maxHeartbeats 4000000 in
set_option maxRecDepth 100000 in
theorem b_X9_tailBy_B12 {Y : CY} {Z : CZ} (C : cx SM 7 Y Z cX9_tailBy RX9 wsX9_tailBy (some .int) rmX9_tailBy) {Post : Int32 → St → Prop} (hQ : Qi SM Y Z Post)  {K12 : Int32 → Int32 → Int32 → Int32 → Int32 → Int32 → St → Prop} (hK12 : ∀ (v1 : Int32) (v2 : Int32) (v3 : Int32) (v4 : Int32) (v5 : Int32) (v6 : Int32) (σ : St), K12 v1 v2 v3 v4 v5 v6 σ → WW SM 7 Y Z σ 12 [(0, .ref (qa Y 0)), (1, .int v1), (2, .int v2), (3, .int v3), (4, .int v4), (5, .int v5), (6, .int v6)] []) (v1 : Int32) (v2 : Int32) (v3 : Int32) (v4 : Int32) (v5 : Int32) (v6 : Int32) (σ : St) (h : w_X9_tailBy_B12  Post K12 v1 v2 v3 v4 v5 v6 σ) : WW SM 7 Y Z σ 12 [(0, .ref (qa Y 0)), (1, .int v1), (2, .int v2), (3, .int v3), (4, .int v4), (5, .int v5), (6, .int v6)] [] := by
  unfold w_X9_tailBy_B12 at h
  refine q_iload C 6 dX9_tailBy_12 rfl ?_
  refine q_iload_n C 3 dX9_tailBy_14 rfl ?_
  refine q_icmp_ge C 83 dX9_tailBy_15 (by decide) (fun c3 => ?_) (fun c3 => ?_)
  · replace h := h.1 c3
    refine q_sub (lv' := [(0, .ref (qa Y 0))]) [0] rfl ?_
    exact b_X9_tailBy_J83 C hQ σ h
  · replace h := h.2 c3
    refine q_aload_n C 0 dX9_tailBy_18 rfl ?_
    refine q_getr (T := TX9) C kM0 iM0 inX9_tailBy_X9 rfl 12 (by decide) (List.mem_of_getElem? (i := 2) rfl) (fun _ h9 => h9) rfl dX9_tailBy_19 ?_
    refine q_iconst (v := (5 : Int32)) C dX9_tailBy_22 (by decide) ?_
    refine q_ialdk C 5 (by decide) (by decide) (by decide) kM4 iM4 dX9_tailBy_23 ?_
    refine q_if_ne C 83 dX9_tailBy_24 (by decide) (fun c4 => ?_) (fun c4 => ?_)
    · replace h := h.1 c4
      refine q_sub (lv' := [(0, .ref (qa Y 0))]) [0] rfl ?_
      exact b_X9_tailBy_J83 C hQ σ h
    · replace h := h.2 c4
      refine q_iload C 6 dX9_tailBy_27 rfl ?_
      refine q_i2l C dX9_tailBy_29 ?_
      refine q_iload C 4 dX9_tailBy_30 rfl ?_
      refine q_i2l C dX9_tailBy_32 ?_
      refine q_iload C 4 dX9_tailBy_33 rfl ?_
      refine q_iload C 5 dX9_tailBy_35 rfl ?_
      refine q_iadd C dX9_tailBy_37 ?_
      refine q_iconst (v := (1 : Int32)) C dX9_tailBy_38 (by decide) ?_
      refine q_isub C dX9_tailBy_39 ?_
      refine q_i2l C dX9_tailBy_40 ?_
      refine q_callSi (As := [.long v6.toInt64, .long v4.toInt64, .long ((v4 + v5) - (1 : Int32)).toInt64]) (st := []) C (c_X9_in Y (v6.toInt64) (v4.toInt64) (((v4 + v5) - (1 : Int32)).toInt64) σ _ h) gX9_tailBy_X9_in rfl nkX9_in rmOk_X9_tailBy__X9_in rfl (Nat.le_of_ble_eq_true rfl) dX9_tailBy_41 rfl (fun x6 σ5 h => ?_)
      refine q_if_eq C 54 dX9_tailBy_44 (by decide) (fun c7 => ?_) (fun c7 => ?_)
      · replace h := h.1 c7
        refine q_aload_n C 0 dX9_tailBy_54 rfl ?_
        refine q_dup C dX9_tailBy_55 rfl ?_
        refine q_geti (T := TX9) C kM0 iM0 inX9_tailBy_X9 rfl 34 (by decide) (List.mem_of_getElem? (i := 1) rfl) (fun _ h9 => h9) rfl dX9_tailBy_56 ?_
        refine q_aload_n C 0 dX9_tailBy_59 rfl ?_
        refine q_iload_n C 1 dX9_tailBy_60 rfl ?_
        refine q_iload_n C 2 dX9_tailBy_61 rfl ?_
        refine q_callVi (As := [.int v1, .int v2]) (st := [.int (σ5 0 34), .ref (qa Y 0)]) C (c_X9_ruled Y v1 v2 σ5 _ h) gX9_tailBy_X9_ruled rfl ⟨rfl, nkX9_ruled⟩ rmOk_X9_tailBy__X9_ruled kM0 iM0 rfl rfl (Nat.le_of_ble_eq_true rfl) dX9_tailBy_62 rfl (fun x9 σ8 h => ?_)
        refine q_if_eq C 72 dX9_tailBy_65 (by decide) (fun c10 => ?_) (fun c10 => ?_)
        · replace h := h.1 c10
          refine q_iconst (v := (0 : Int32)) C dX9_tailBy_72 (by decide) ?_
          exact b_X9_tailBy_J73 C hQ hK12 v1 v2 v3 v4 v5 v6 (0 : Int32) ((σ5 0 34)) σ8 h
        · replace h := h.2 c10
          refine q_iconst (v := (1 : Int32)) C dX9_tailBy_68 (by decide) ?_
          refine q_goto C 73 dX9_tailBy_69 (by decide) ?_
          exact b_X9_tailBy_J73 C hQ hK12 v1 v2 v3 v4 v5 v6 (1 : Int32) ((σ5 0 34)) σ8 h
      · replace h := h.2 c7
        refine q_aload_n C 0 dX9_tailBy_47 rfl ?_
        refine q_callVv (As := []) (st := []) C (c_X9_pass Y σ5 _ h) gX9_tailBy_X9_pass rfl ⟨rfl, nkX9_pass⟩ rmOk_X9_tailBy__X9_pass kM0 iM0 rfl rfl (Nat.le_of_ble_eq_true rfl) dX9_tailBy_48 rfl (fun σ11 h => ?_)
        refine q_goto C 77 dX9_tailBy_51 (by decide) ?_
        exact b_X9_tailBy_J77 C hQ hK12 v1 v2 v3 v4 v5 v6 σ11 h
theorem b_X9_tailBy_L12 {Y : CY} {Z : CZ} (C : cx SM 7 Y Z cX9_tailBy RX9 wsX9_tailBy (some .int) rmX9_tailBy) {Post : Int32 → St → Prop} (hQ : Qi SM Y Z Post)  : ∀ (n : Nat) (v1 : Int32) (v2 : Int32) (v3 : Int32) (v4 : Int32) (v5 : Int32) (v6 : Int32) (σ : St) (h : w_X9_tailBy_L12  Post n v1 v2 v3 v4 v5 v6 σ), WW SM 7 Y Z σ 12 [(0, .ref (qa Y 0)), (1, .int v1), (2, .int v2), (3, .int v3), (4, .int v4), (5, .int v5), (6, .int v6)] [] := by
  intro n
  induction n with
  | zero => intro v1 v2 v3 v4 v5 v6 σ h; exact h.elim
  | succ n ih => intro v1 v2 v3 v4 v5 v6 σ h; exact b_X9_tailBy_B12 C hQ  ih v1 v2 v3 v4 v5 v6 σ h
set_option maxHeartbeats 4000000 in
set_option maxRecDepth 100000 in
theorem b_X9_tailBy {Y : CY} {Z : CZ} (C : cx SM 7 Y Z cX9_tailBy RX9 wsX9_tailBy (some .int) rmX9_tailBy) {Post : Int32 → St → Prop} (hQ : Qi SM Y Z Post)  (p1 : Int32) (p2 : Int32) (p3 : Int32) (p4 : Int32) (p5 : Int32) (σ : St) (h : w_X9_tailBy p1 p2 p3 p4 p5 σ Post) : WW SM 7 Y Z σ 0 [(0, .ref (qa Y 0)), (1, .int p1), (2, .int p2), (3, .int p3), (4, .int p4), (5, .int p5)] [] := by
  unfold w_X9_tailBy at h
  refine q_aload_n C 0 dX9_tailBy_0 rfl ?_
  refine q_callVv (As := []) (st := []) C (c_X9_newPlate Y σ _ h) gX9_tailBy_X9_newPlate rfl ⟨rfl, nkX9_newPlate⟩ rmOk_X9_tailBy__X9_newPlate kM0 iM0 rfl rfl (Nat.le_of_ble_eq_true rfl) dX9_tailBy_1 rfl (fun σ1 h => ?_)
  refine q_aload_n C 0 dX9_tailBy_4 rfl ?_
  refine q_iconst (v := (0 : Int32)) C dX9_tailBy_5 (by decide) ?_
  refine q_puti (T := TX9) C kM0 iM0 inX9_tailBy_X9 rfl tyX9 tyX9_ok nmX9 34 (by decide) (List.mem_of_getElem? (i := 1) rfl) (fun _ h9 => h9) rfl dgM0 rfl (ni_n _) (ni_f _) dX9_tailBy_6 ?_
  refine q_nmS (fun σ2 eσ2 => ?_)
  replace h := h σ2 eσ2
  refine q_iconst (v := (0 : Int32)) C dX9_tailBy_9 (by decide) ?_
  refine q_istore C [(6, .int (0 : Int32)), (0, .ref (qa Y 0)), (1, .int p1), (2, .int p2), (3, .int p3), (4, .int p4), (5, .int p5)] dX9_tailBy_10 (by decide) rfl ?_
  refine q_sub (lv' := [(0, .ref (qa Y 0)), (1, .int p1), (2, .int p2), (3, .int p3), (4, .int p4), (5, .int p5), (6, .int (0 : Int32))]) [1, 2, 3, 4, 5, 6, 0] rfl ?_
  exact b_X9_tailBy_L12 C hQ FU p1 p2 p3 p4 p5 (0 : Int32) σ2 h
theorem c_X9_tailBy (Y : CY)  (p1 : Int32) (p2 : Int32) (p3 : Int32) (p4 : Int32) (p5 : Int32) (σ : St) (Post : Int32 → St → Prop) (h : w_X9_tailBy p1 p2 p3 p4 p5 σ Post) : Ki SM Y yX9_tailBy wsX9_tailBy rmX9_tailBy [.ref (qa Y 0), .int p1, .int p2, .int p3, .int p4, .int p5] σ Post :=
  Ki_of (cc := cX9_tailBy) (nL := 7) (ret := (some .int)) (by decide +kernel) rfl (Nat.le_of_ble_eq_true rfl) (fun Z C hQ => b_X9_tailBy C hQ  p1 p2 p3 p4 p5 σ h)
abbrev rmX9_bestRule : Room := { frames := 4, cells := 0, slots := 0, locals := 92 }
theorem nkX9_bestRule : NmOk yX9_bestRule 2 := by decide +kernel
theorem rmOk_X9_bestRule__X9_in : RmOk rmX9_in rmX9_bestRule 6 := ⟨rfl, rfl, by decide, by decide⟩
theorem rmOk_X9_bestRule__X9_save : RmOk rmX9_save rmX9_bestRule 2 := ⟨rfl, rfl, by decide, by decide⟩
theorem rmOk_X9_bestRule__X9_tailBy : RmOk rmX9_tailBy rmX9_bestRule 7 := ⟨rfl, rfl, by decide, by decide⟩
theorem inX9_bestRule_X9 : ∀ w ∈ u_ws RX9 TX9 47, w ∈ wsX9_bestRule := fun _ h => List.mem_cons_of_mem _ (List.mem_append_right _ h)
def w_X9_bestRule_J160 (K50 : Int32 → Int32 → Int32 → Int32 → Int32 → Int32 → St → Prop) (K60 : Int32 → Int32 → Int32 → Int32 → Int32 → Int32 → Int32 → St → Prop) (Post : Int32 → St → Prop) (v1 : Int32) (v2 : Int32) (v3 : Int32) (v4 : Int32) (v6 : Int32) (v7 : Int32) (s0 : Int32) (σ : St) : Prop := ∀ x22 : Int32, x22 = v7 + (1 : Int32) → K60 v1 v2 v3 v4 s0 v6 x22 σ
def w_X9_bestRule_J144 (K50 : Int32 → Int32 → Int32 → Int32 → Int32 → Int32 → St → Prop) (K60 : Int32 → Int32 → Int32 → Int32 → Int32 → Int32 → Int32 → St → Prop) (Post : Int32 → St → Prop) (v1 : Int32) (v2 : Int32) (v3 : Int32) (v5 : Int32) (v6 : Int32) (v7 : Int32) (v9 : Int32) (s0 : Int32) (σ : St) : Prop := (v9 = 0 → w_X9_bestRule_J160 K50 K60 Post v1 v2 v3 s0 v6 v7 v5 σ) ∧ (¬ v9 = 0 → w_X9_bestRule_J160 K50 K60 Post v1 v2 v3 s0 v6 v7 ((σ 0 34)) σ)
def w_X9_bestRule_J131 (K50 : Int32 → Int32 → Int32 → Int32 → Int32 → Int32 → St → Prop) (K60 : Int32 → Int32 → Int32 → Int32 → Int32 → Int32 → Int32 → St → Prop) (Post : Int32 → St → Prop) (v1 : Int32) (v2 : Int32) (v4 : Int32) (v5 : Int32) (v6 : Int32) (v7 : Int32) (v8 : Int32) (v9 : Int32) (s0 : Int32) (σ : St) : Prop := (v9 = 0 → w_X9_bestRule_J144 K50 K60 Post v1 v2 s0 v5 v6 v7 v9 v4 σ) ∧ (¬ v9 = 0 → w_X9_bestRule_J144 K50 K60 Post v1 v2 s0 v5 v6 v7 v9 v8 σ)
def w_X9_bestRule_J112 (K50 : Int32 → Int32 → Int32 → Int32 → Int32 → Int32 → St → Prop) (K60 : Int32 → Int32 → Int32 → Int32 → Int32 → Int32 → Int32 → St → Prop) (Post : Int32 → St → Prop) (v1 : Int32) (v2 : Int32) (v3 : Int32) (v4 : Int32) (v5 : Int32) (v6 : Int32) (v7 : Int32) (v8 : Int32) (s0 : Int32) (σ : St) : Prop := (s0 = 0 → w_X9_bestRule_J131 K50 K60 Post v1 v2 v4 v5 v6 v7 v8 s0 v3 σ) ∧ (¬ s0 = 0 → w_X9_bestRule_J131 K50 K60 Post v1 v2 v4 v5 v6 v7 v8 s0 ((((100 : Int32) * v6) + v7)) σ)
def w_X9_bestRule_J107 (K50 : Int32 → Int32 → Int32 → Int32 → Int32 → Int32 → St → Prop) (K60 : Int32 → Int32 → Int32 → Int32 → Int32 → Int32 → Int32 → St → Prop) (Post : Int32 → St → Prop) (v1 : Int32) (v2 : Int32) (v3 : Int32) (v4 : Int32) (v5 : Int32) (v6 : Int32) (v7 : Int32) (v8 : Int32) (σ : St) : Prop := w_X9_bestRule_J112 K50 K60 Post v1 v2 v3 v4 v5 v6 v7 v8 (1 : Int32) σ
def w_X9_bestRule_J111 (K50 : Int32 → Int32 → Int32 → Int32 → Int32 → Int32 → St → Prop) (K60 : Int32 → Int32 → Int32 → Int32 → Int32 → Int32 → Int32 → St → Prop) (Post : Int32 → St → Prop) (v1 : Int32) (v2 : Int32) (v3 : Int32) (v4 : Int32) (v5 : Int32) (v6 : Int32) (v7 : Int32) (v8 : Int32) (σ : St) : Prop := w_X9_bestRule_J112 K50 K60 Post v1 v2 v3 v4 v5 v6 v7 v8 (0 : Int32) σ
def w_X9_bestRule_B60 (K50 : Int32 → Int32 → Int32 → Int32 → Int32 → Int32 → St → Prop) (Post : Int32 → St → Prop) (K60 : Int32 → Int32 → Int32 → Int32 → Int32 → Int32 → Int32 → St → Prop) (v1 : Int32) (v2 : Int32) (v3 : Int32) (v4 : Int32) (v5 : Int32) (v6 : Int32) (v7 : Int32) (σ : St) : Prop := ((11 : Int32) ≤ v7 → ∀ x12 : Int32, x12 = v6 + (1 : Int32) → K50 v1 v2 v3 v4 v5 x12 σ) ∧ (¬ (11 : Int32) ≤ v7 → w_X9_tailBy v6 v7 v1 (0 : Int32) (0 : Int32) σ (fun x14 σ13 => (v3 < 0 → w_X9_bestRule_J107 K50 K60 Post v1 v2 v3 v4 v5 v6 v7 x14 σ13) ∧ (¬ v3 < 0 → (x14 < v4 → w_X9_bestRule_J107 K50 K60 Post v1 v2 v3 v4 v5 v6 v7 x14 σ13) ∧ (¬ x14 < v4 → (¬ x14 = v4 → w_X9_bestRule_J111 K50 K60 Post v1 v2 v3 v4 v5 v6 v7 x14 σ13) ∧ (x14 = v4 → (v5 ≤ (σ13 0 34) → w_X9_bestRule_J111 K50 K60 Post v1 v2 v3 v4 v5 v6 v7 x14 σ13) ∧ (¬ v5 ≤ (σ13 0 34) → w_X9_bestRule_J107 K50 K60 Post v1 v2 v3 v4 v5 v6 v7 x14 σ13))))))
def w_X9_bestRule_L60 (K50 : Int32 → Int32 → Int32 → Int32 → Int32 → Int32 → St → Prop) (Post : Int32 → St → Prop) : Nat → Int32 → Int32 → Int32 → Int32 → Int32 → Int32 → Int32 → St → Prop
  | 0 => fun _ _ _ _ _ _ _ _ => False
  | n + 1 => w_X9_bestRule_B60  K50 Post (w_X9_bestRule_L60  K50 Post n)
def w_X9_bestRule_B50 (Post : Int32 → St → Prop) (K50 : Int32 → Int32 → Int32 → Int32 → Int32 → Int32 → St → Prop) (v1 : Int32) (v2 : Int32) (v3 : Int32) (v4 : Int32) (v5 : Int32) (v6 : Int32) (σ : St) : Prop := ((10 : Int32) ≤ v6 → (¬ v2 = 0 → Post v4 σ) ∧ (v2 = 0 → Post v3 σ)) ∧ (¬ (10 : Int32) ≤ v6 → w_X9_bestRule_L60 K50 Post FU v1 v2 v3 v4 v5 v6 (1 : Int32) σ)
def w_X9_bestRule_L50 (Post : Int32 → St → Prop) : Nat → Int32 → Int32 → Int32 → Int32 → Int32 → Int32 → St → Prop
  | 0 => fun _ _ _ _ _ _ _ => False
  | n + 1 => w_X9_bestRule_B50   Post (w_X9_bestRule_L50   Post n)
def w_X9_bestRule (p1 : Int32) (p2 : Int32) (σ : St) (Post : Int32 → St → Prop) : Prop := w_X9_in (p1.toInt64) (1 : Int64) (200 : Int64) σ (fun x2 σ1 => (x2 = 0 → Post (-1000000002 : Int32) σ1) ∧ (¬ x2 = 0 → w_X9_in (p2.toInt64) (0 : Int64) (1 : Int64) σ1 (fun x5 σ4 => (¬ x5 = 0 → (¬ (σ4 0 0) = 0 → w_X9_save σ4 (fun σ8 => w_X9_bestRule_L50 Post FU p1 p2 (-1 : Int32) (0 : Int32) (0 : Int32) (0 : Int32) σ8)) ∧ ((σ4 0 0) = 0 → Post (-1000000003 : Int32) σ4)) ∧ (x5 = 0 → Post (-1000000002 : Int32) σ4))))
set_option maxHeartbeats 4000000 in
set_option maxRecDepth 100000 in
theorem b_X9_bestRule_J160 {Y : CY} {Z : CZ} (C : cx SM 10 Y Z cX9_bestRule RX9 wsX9_bestRule (some .int) rmX9_bestRule) {Post : Int32 → St → Prop} (hQ : Qi SM Y Z Post)  {K50 : Int32 → Int32 → Int32 → Int32 → Int32 → Int32 → St → Prop} (hK50 : ∀ (v1 : Int32) (v2 : Int32) (v3 : Int32) (v4 : Int32) (v5 : Int32) (v6 : Int32) (σ : St), K50 v1 v2 v3 v4 v5 v6 σ → WW SM 10 Y Z σ 50 [(0, .ref (qa Y 0)), (1, .int v1), (2, .int v2), (3, .int v3), (4, .int v4), (5, .int v5), (6, .int v6)] []) {K60 : Int32 → Int32 → Int32 → Int32 → Int32 → Int32 → Int32 → St → Prop} (hK60 : ∀ (v1 : Int32) (v2 : Int32) (v3 : Int32) (v4 : Int32) (v5 : Int32) (v6 : Int32) (v7 : Int32) (σ : St), K60 v1 v2 v3 v4 v5 v6 v7 σ → WW SM 10 Y Z σ 60 [(0, .ref (qa Y 0)), (1, .int v1), (2, .int v2), (3, .int v3), (4, .int v4), (5, .int v5), (6, .int v6), (7, .int v7)] []) (v1 : Int32) (v2 : Int32) (v3 : Int32) (v4 : Int32) (v6 : Int32) (v7 : Int32) (s0 : Int32) (σ : St) (h : w_X9_bestRule_J160 K50 K60 Post v1 v2 v3 v4 v6 v7 s0 σ) : WW SM 10 Y Z σ 160 [(0, .ref (qa Y 0)), (1, .int v1), (2, .int v2), (3, .int v3), (4, .int v4), (6, .int v6), (7, .int v7)] [.int s0] := by
  unfold w_X9_bestRule_J160 at h
  refine q_istore C [(5, .int s0), (0, .ref (qa Y 0)), (1, .int v1), (2, .int v2), (3, .int v3), (4, .int v4), (6, .int v6), (7, .int v7)] dX9_bestRule_160 (by decide) rfl ?_
  obtain ⟨x22, ex22⟩ : ∃ y : Int32, y = v7 + (1 : Int32) := ⟨_, rfl⟩
  replace h := h x22 ex22
  refine q_iinc C x22 7 [(7, .int x22), (5, .int s0), (0, .ref (qa Y 0)), (1, .int v1), (2, .int v2), (3, .int v3), (4, .int v4), (6, .int v6)] dX9_bestRule_162 rfl (by rw [ex22]; rfl) (by decide) rfl ?_
  refine q_goto C 60 dX9_bestRule_165 (by decide) ?_
  refine q_sub (lv' := [(0, .ref (qa Y 0)), (1, .int v1), (2, .int v2), (3, .int v3), (4, .int v4), (5, .int s0), (6, .int v6), (7, .int x22)]) [2, 3, 4, 5, 6, 1, 7, 0] rfl ?_
  exact hK60 v1 v2 v3 v4 s0 v6 x22 σ h
set_option maxHeartbeats 4000000 in
set_option maxRecDepth 100000 in
theorem b_X9_bestRule_J144 {Y : CY} {Z : CZ} (C : cx SM 10 Y Z cX9_bestRule RX9 wsX9_bestRule (some .int) rmX9_bestRule) {Post : Int32 → St → Prop} (hQ : Qi SM Y Z Post)  {K50 : Int32 → Int32 → Int32 → Int32 → Int32 → Int32 → St → Prop} (hK50 : ∀ (v1 : Int32) (v2 : Int32) (v3 : Int32) (v4 : Int32) (v5 : Int32) (v6 : Int32) (σ : St), K50 v1 v2 v3 v4 v5 v6 σ → WW SM 10 Y Z σ 50 [(0, .ref (qa Y 0)), (1, .int v1), (2, .int v2), (3, .int v3), (4, .int v4), (5, .int v5), (6, .int v6)] []) {K60 : Int32 → Int32 → Int32 → Int32 → Int32 → Int32 → Int32 → St → Prop} (hK60 : ∀ (v1 : Int32) (v2 : Int32) (v3 : Int32) (v4 : Int32) (v5 : Int32) (v6 : Int32) (v7 : Int32) (σ : St), K60 v1 v2 v3 v4 v5 v6 v7 σ → WW SM 10 Y Z σ 60 [(0, .ref (qa Y 0)), (1, .int v1), (2, .int v2), (3, .int v3), (4, .int v4), (5, .int v5), (6, .int v6), (7, .int v7)] []) (v1 : Int32) (v2 : Int32) (v3 : Int32) (v5 : Int32) (v6 : Int32) (v7 : Int32) (v9 : Int32) (s0 : Int32) (σ : St) (h : w_X9_bestRule_J144 K50 K60 Post v1 v2 v3 v5 v6 v7 v9 s0 σ) : WW SM 10 Y Z σ 144 [(0, .ref (qa Y 0)), (1, .int v1), (2, .int v2), (3, .int v3), (5, .int v5), (6, .int v6), (7, .int v7), (9, .int v9)] [.int s0] := by
  unfold w_X9_bestRule_J144 at h
  refine q_istore C [(4, .int s0), (0, .ref (qa Y 0)), (1, .int v1), (2, .int v2), (3, .int v3), (5, .int v5), (6, .int v6), (7, .int v7), (9, .int v9)] dX9_bestRule_144 (by decide) rfl ?_
  refine q_iload C 8 dX9_bestRule_146 rfl ?_
  refine q_if_eq C 158 dX9_bestRule_148 (by decide) (fun c21 => ?_) (fun c21 => ?_)
  · replace h := h.1 c21
    refine q_iload C 5 dX9_bestRule_158 rfl ?_
    refine q_sub (lv' := [(0, .ref (qa Y 0)), (1, .int v1), (2, .int v2), (3, .int v3), (4, .int s0), (6, .int v6), (7, .int v7)]) [1, 2, 3, 4, 0, 6, 7] rfl ?_
    exact b_X9_bestRule_J160 C hQ hK50 hK60 v1 v2 v3 s0 v6 v7 v5 σ h
  · replace h := h.2 c21
    refine q_aload_n C 1 dX9_bestRule_151 rfl ?_
    refine q_geti (T := TX9) C kM0 iM0 inX9_bestRule_X9 rfl 34 (by decide) (List.mem_of_getElem? (i := 5) rfl) (fun _ h9 => h9) rfl dX9_bestRule_152 ?_
    refine q_goto C 160 dX9_bestRule_155 (by decide) ?_
    refine q_sub (lv' := [(0, .ref (qa Y 0)), (1, .int v1), (2, .int v2), (3, .int v3), (4, .int s0), (6, .int v6), (7, .int v7)]) [1, 2, 3, 4, 0, 6, 7] rfl ?_
    exact b_X9_bestRule_J160 C hQ hK50 hK60 v1 v2 v3 s0 v6 v7 ((σ 0 34)) σ h
set_option maxHeartbeats 4000000 in
set_option maxRecDepth 100000 in
theorem b_X9_bestRule_J131 {Y : CY} {Z : CZ} (C : cx SM 10 Y Z cX9_bestRule RX9 wsX9_bestRule (some .int) rmX9_bestRule) {Post : Int32 → St → Prop} (hQ : Qi SM Y Z Post)  {K50 : Int32 → Int32 → Int32 → Int32 → Int32 → Int32 → St → Prop} (hK50 : ∀ (v1 : Int32) (v2 : Int32) (v3 : Int32) (v4 : Int32) (v5 : Int32) (v6 : Int32) (σ : St), K50 v1 v2 v3 v4 v5 v6 σ → WW SM 10 Y Z σ 50 [(0, .ref (qa Y 0)), (1, .int v1), (2, .int v2), (3, .int v3), (4, .int v4), (5, .int v5), (6, .int v6)] []) {K60 : Int32 → Int32 → Int32 → Int32 → Int32 → Int32 → Int32 → St → Prop} (hK60 : ∀ (v1 : Int32) (v2 : Int32) (v3 : Int32) (v4 : Int32) (v5 : Int32) (v6 : Int32) (v7 : Int32) (σ : St), K60 v1 v2 v3 v4 v5 v6 v7 σ → WW SM 10 Y Z σ 60 [(0, .ref (qa Y 0)), (1, .int v1), (2, .int v2), (3, .int v3), (4, .int v4), (5, .int v5), (6, .int v6), (7, .int v7)] []) (v1 : Int32) (v2 : Int32) (v4 : Int32) (v5 : Int32) (v6 : Int32) (v7 : Int32) (v8 : Int32) (v9 : Int32) (s0 : Int32) (σ : St) (h : w_X9_bestRule_J131 K50 K60 Post v1 v2 v4 v5 v6 v7 v8 v9 s0 σ) : WW SM 10 Y Z σ 131 [(0, .ref (qa Y 0)), (1, .int v1), (2, .int v2), (4, .int v4), (5, .int v5), (6, .int v6), (7, .int v7), (8, .int v8), (9, .int v9)] [.int s0] := by
  unfold w_X9_bestRule_J131 at h
  refine q_istore_n C [(3, .int s0), (0, .ref (qa Y 0)), (1, .int v1), (2, .int v2), (4, .int v4), (5, .int v5), (6, .int v6), (7, .int v7), (8, .int v8), (9, .int v9)] dX9_bestRule_131 (by decide) rfl ?_
  refine q_iload C 9 dX9_bestRule_132 rfl ?_
  refine q_if_eq C 142 dX9_bestRule_134 (by decide) (fun c20 => ?_) (fun c20 => ?_)
  · replace h := h.1 c20
    refine q_iload C 4 dX9_bestRule_142 rfl ?_
    refine q_sub (lv' := [(0, .ref (qa Y 0)), (1, .int v1), (2, .int v2), (3, .int s0), (5, .int v5), (6, .int v6), (7, .int v7), (9, .int v9)]) [1, 2, 3, 0, 5, 6, 7, 9] rfl ?_
    exact b_X9_bestRule_J144 C hQ hK50 hK60 v1 v2 s0 v5 v6 v7 v9 v4 σ h
  · replace h := h.2 c20
    refine q_iload C 8 dX9_bestRule_137 rfl ?_
    refine q_goto C 144 dX9_bestRule_139 (by decide) ?_
    refine q_sub (lv' := [(0, .ref (qa Y 0)), (1, .int v1), (2, .int v2), (3, .int s0), (5, .int v5), (6, .int v6), (7, .int v7), (9, .int v9)]) [1, 2, 3, 0, 5, 6, 7, 9] rfl ?_
    exact b_X9_bestRule_J144 C hQ hK50 hK60 v1 v2 s0 v5 v6 v7 v9 v8 σ h
set_option maxHeartbeats 4000000 in
set_option maxRecDepth 100000 in
theorem b_X9_bestRule_J112 {Y : CY} {Z : CZ} (C : cx SM 10 Y Z cX9_bestRule RX9 wsX9_bestRule (some .int) rmX9_bestRule) {Post : Int32 → St → Prop} (hQ : Qi SM Y Z Post)  {K50 : Int32 → Int32 → Int32 → Int32 → Int32 → Int32 → St → Prop} (hK50 : ∀ (v1 : Int32) (v2 : Int32) (v3 : Int32) (v4 : Int32) (v5 : Int32) (v6 : Int32) (σ : St), K50 v1 v2 v3 v4 v5 v6 σ → WW SM 10 Y Z σ 50 [(0, .ref (qa Y 0)), (1, .int v1), (2, .int v2), (3, .int v3), (4, .int v4), (5, .int v5), (6, .int v6)] []) {K60 : Int32 → Int32 → Int32 → Int32 → Int32 → Int32 → Int32 → St → Prop} (hK60 : ∀ (v1 : Int32) (v2 : Int32) (v3 : Int32) (v4 : Int32) (v5 : Int32) (v6 : Int32) (v7 : Int32) (σ : St), K60 v1 v2 v3 v4 v5 v6 v7 σ → WW SM 10 Y Z σ 60 [(0, .ref (qa Y 0)), (1, .int v1), (2, .int v2), (3, .int v3), (4, .int v4), (5, .int v5), (6, .int v6), (7, .int v7)] []) (v1 : Int32) (v2 : Int32) (v3 : Int32) (v4 : Int32) (v5 : Int32) (v6 : Int32) (v7 : Int32) (v8 : Int32) (s0 : Int32) (σ : St) (h : w_X9_bestRule_J112 K50 K60 Post v1 v2 v3 v4 v5 v6 v7 v8 s0 σ) : WW SM 10 Y Z σ 112 [(0, .ref (qa Y 0)), (1, .int v1), (2, .int v2), (3, .int v3), (4, .int v4), (5, .int v5), (6, .int v6), (7, .int v7), (8, .int v8)] [.int s0] := by
  unfold w_X9_bestRule_J112 at h
  refine q_istore C [(9, .int s0), (0, .ref (qa Y 0)), (1, .int v1), (2, .int v2), (3, .int v3), (4, .int v4), (5, .int v5), (6, .int v6), (7, .int v7), (8, .int v8)] dX9_bestRule_112 (by decide) rfl ?_
  refine q_iload C 0 dX9_bestRule_114 rfl ?_
  refine q_if_eq C 130 dX9_bestRule_116 (by decide) (fun c19 => ?_) (fun c19 => ?_)
  · replace h := h.1 c19
    refine q_iload_n C 4 dX9_bestRule_130 rfl ?_
    refine q_sub (lv' := [(0, .ref (qa Y 0)), (1, .int v1), (2, .int v2), (4, .int v4), (5, .int v5), (6, .int v6), (7, .int v7), (8, .int v8), (9, .int s0)]) [1, 2, 3, 5, 6, 7, 8, 9, 0] rfl ?_
    exact b_X9_bestRule_J131 C hQ hK50 hK60 v1 v2 v4 v5 v6 v7 v8 s0 v3 σ h
  · replace h := h.2 c19
    refine q_bipush (v := (100 : Int32)) C dX9_bestRule_119 (by decide) ?_
    refine q_iload C 7 dX9_bestRule_121 rfl ?_
    refine q_imul C dX9_bestRule_123 ?_
    refine q_iload C 8 dX9_bestRule_124 rfl ?_
    refine q_iadd C dX9_bestRule_126 ?_
    refine q_goto C 131 dX9_bestRule_127 (by decide) ?_
    refine q_sub (lv' := [(0, .ref (qa Y 0)), (1, .int v1), (2, .int v2), (4, .int v4), (5, .int v5), (6, .int v6), (7, .int v7), (8, .int v8), (9, .int s0)]) [1, 2, 3, 5, 6, 7, 8, 9, 0] rfl ?_
    exact b_X9_bestRule_J131 C hQ hK50 hK60 v1 v2 v4 v5 v6 v7 v8 s0 ((((100 : Int32) * v6) + v7)) σ h
set_option maxHeartbeats 4000000 in
set_option maxRecDepth 100000 in
theorem b_X9_bestRule_J107 {Y : CY} {Z : CZ} (C : cx SM 10 Y Z cX9_bestRule RX9 wsX9_bestRule (some .int) rmX9_bestRule) {Post : Int32 → St → Prop} (hQ : Qi SM Y Z Post)  {K50 : Int32 → Int32 → Int32 → Int32 → Int32 → Int32 → St → Prop} (hK50 : ∀ (v1 : Int32) (v2 : Int32) (v3 : Int32) (v4 : Int32) (v5 : Int32) (v6 : Int32) (σ : St), K50 v1 v2 v3 v4 v5 v6 σ → WW SM 10 Y Z σ 50 [(0, .ref (qa Y 0)), (1, .int v1), (2, .int v2), (3, .int v3), (4, .int v4), (5, .int v5), (6, .int v6)] []) {K60 : Int32 → Int32 → Int32 → Int32 → Int32 → Int32 → Int32 → St → Prop} (hK60 : ∀ (v1 : Int32) (v2 : Int32) (v3 : Int32) (v4 : Int32) (v5 : Int32) (v6 : Int32) (v7 : Int32) (σ : St), K60 v1 v2 v3 v4 v5 v6 v7 σ → WW SM 10 Y Z σ 60 [(0, .ref (qa Y 0)), (1, .int v1), (2, .int v2), (3, .int v3), (4, .int v4), (5, .int v5), (6, .int v6), (7, .int v7)] []) (v1 : Int32) (v2 : Int32) (v3 : Int32) (v4 : Int32) (v5 : Int32) (v6 : Int32) (v7 : Int32) (v8 : Int32) (σ : St) (h : w_X9_bestRule_J107 K50 K60 Post v1 v2 v3 v4 v5 v6 v7 v8 σ) : WW SM 10 Y Z σ 107 [(0, .ref (qa Y 0)), (1, .int v1), (2, .int v2), (3, .int v3), (4, .int v4), (5, .int v5), (6, .int v6), (7, .int v7), (8, .int v8)] [] := by
  unfold w_X9_bestRule_J107 at h
  refine q_iconst (v := (1 : Int32)) C dX9_bestRule_107 (by decide) ?_
  refine q_goto C 112 dX9_bestRule_108 (by decide) ?_
  exact b_X9_bestRule_J112 C hQ hK50 hK60 v1 v2 v3 v4 v5 v6 v7 v8 (1 : Int32) σ h
set_option maxHeartbeats 4000000 in
set_option maxRecDepth 100000 in
theorem b_X9_bestRule_J111 {Y : CY} {Z : CZ} (C : cx SM 10 Y Z cX9_bestRule RX9 wsX9_bestRule (some .int) rmX9_bestRule) {Post : Int32 → St → Prop} (hQ : Qi SM Y Z Post)  {K50 : Int32 → Int32 → Int32 → Int32 → Int32 → Int32 → St → Prop} (hK50 : ∀ (v1 : Int32) (v2 : Int32) (v3 : Int32) (v4 : Int32) (v5 : Int32) (v6 : Int32) (σ : St), K50 v1 v2 v3 v4 v5 v6 σ → WW SM 10 Y Z σ 50 [(0, .ref (qa Y 0)), (1, .int v1), (2, .int v2), (3, .int v3), (4, .int v4), (5, .int v5), (6, .int v6)] []) {K60 : Int32 → Int32 → Int32 → Int32 → Int32 → Int32 → Int32 → St → Prop} (hK60 : ∀ (v1 : Int32) (v2 : Int32) (v3 : Int32) (v4 : Int32) (v5 : Int32) (v6 : Int32) (v7 : Int32) (σ : St), K60 v1 v2 v3 v4 v5 v6 v7 σ → WW SM 10 Y Z σ 60 [(0, .ref (qa Y 0)), (1, .int v1), (2, .int v2), (3, .int v3), (4, .int v4), (5, .int v5), (6, .int v6), (7, .int v7)] []) (v1 : Int32) (v2 : Int32) (v3 : Int32) (v4 : Int32) (v5 : Int32) (v6 : Int32) (v7 : Int32) (v8 : Int32) (σ : St) (h : w_X9_bestRule_J111 K50 K60 Post v1 v2 v3 v4 v5 v6 v7 v8 σ) : WW SM 10 Y Z σ 111 [(0, .ref (qa Y 0)), (1, .int v1), (2, .int v2), (3, .int v3), (4, .int v4), (5, .int v5), (6, .int v6), (7, .int v7), (8, .int v8)] [] := by
  unfold w_X9_bestRule_J111 at h
  refine q_iconst (v := (0 : Int32)) C dX9_bestRule_111 (by decide) ?_
  exact b_X9_bestRule_J112 C hQ hK50 hK60 v1 v2 v3 v4 v5 v6 v7 v8 (0 : Int32) σ h
set_option maxHeartbeats 4000000 in
set_option maxRecDepth 100000 in
theorem b_X9_bestRule_B60 {Y : CY} {Z : CZ} (C : cx SM 10 Y Z cX9_bestRule RX9 wsX9_bestRule (some .int) rmX9_bestRule) {Post : Int32 → St → Prop} (hQ : Qi SM Y Z Post)  {K50 : Int32 → Int32 → Int32 → Int32 → Int32 → Int32 → St → Prop} (hK50 : ∀ (v1 : Int32) (v2 : Int32) (v3 : Int32) (v4 : Int32) (v5 : Int32) (v6 : Int32) (σ : St), K50 v1 v2 v3 v4 v5 v6 σ → WW SM 10 Y Z σ 50 [(0, .ref (qa Y 0)), (1, .int v1), (2, .int v2), (3, .int v3), (4, .int v4), (5, .int v5), (6, .int v6)] []) {K60 : Int32 → Int32 → Int32 → Int32 → Int32 → Int32 → Int32 → St → Prop} (hK60 : ∀ (v1 : Int32) (v2 : Int32) (v3 : Int32) (v4 : Int32) (v5 : Int32) (v6 : Int32) (v7 : Int32) (σ : St), K60 v1 v2 v3 v4 v5 v6 v7 σ → WW SM 10 Y Z σ 60 [(0, .ref (qa Y 0)), (1, .int v1), (2, .int v2), (3, .int v3), (4, .int v4), (5, .int v5), (6, .int v6), (7, .int v7)] []) (v1 : Int32) (v2 : Int32) (v3 : Int32) (v4 : Int32) (v5 : Int32) (v6 : Int32) (v7 : Int32) (σ : St) (h : w_X9_bestRule_B60 K50 Post K60 v1 v2 v3 v4 v5 v6 v7 σ) : WW SM 10 Y Z σ 60 [(0, .ref (qa Y 0)), (1, .int v1), (2, .int v2), (3, .int v3), (4, .int v4), (5, .int v5), (6, .int v6), (7, .int v7)] [] := by
  unfold w_X9_bestRule_B60 at h
  refine q_iload C 7 dX9_bestRule_60 rfl ?_
  refine q_bipush (v := (11 : Int32)) C dX9_bestRule_62 (by decide) ?_
  refine q_icmp_ge C 168 dX9_bestRule_64 (by decide) (fun c11 => ?_) (fun c11 => ?_)
  · replace h := h.1 c11
    obtain ⟨x12, ex12⟩ : ∃ y : Int32, y = v6 + (1 : Int32) := ⟨_, rfl⟩
    replace h := h x12 ex12
    refine q_iinc C x12 6 [(6, .int x12), (0, .ref (qa Y 0)), (1, .int v1), (2, .int v2), (3, .int v3), (4, .int v4), (5, .int v5), (7, .int v7)] dX9_bestRule_168 rfl (by rw [ex12]; rfl) (by decide) rfl ?_
    refine q_goto C 50 dX9_bestRule_171 (by decide) ?_
    refine q_sub (lv' := [(0, .ref (qa Y 0)), (1, .int v1), (2, .int v2), (3, .int v3), (4, .int v4), (5, .int v5), (6, .int x12)]) [1, 2, 3, 4, 5, 6, 0] rfl ?_
    exact hK50 v1 v2 v3 v4 v5 x12 σ h
  · replace h := h.2 c11
    refine q_aload_n C 0 dX9_bestRule_67 rfl ?_
    refine q_iload C 6 dX9_bestRule_68 rfl ?_
    refine q_iload C 7 dX9_bestRule_70 rfl ?_
    refine q_iload_n C 1 dX9_bestRule_72 rfl ?_
    refine q_iconst (v := (0 : Int32)) C dX9_bestRule_73 (by decide) ?_
    refine q_iconst (v := (0 : Int32)) C dX9_bestRule_74 (by decide) ?_
    refine q_callVi (As := [.int v6, .int v7, .int v1, .int (0 : Int32), .int (0 : Int32)]) (st := []) C (c_X9_tailBy Y v6 v7 v1 (0 : Int32) (0 : Int32) σ _ h) gX9_bestRule_X9_tailBy rfl ⟨rfl, nkX9_tailBy⟩ rmOk_X9_bestRule__X9_tailBy kM0 iM0 rfl rfl (Nat.le_of_ble_eq_true rfl) dX9_bestRule_75 rfl (fun x14 σ13 h => ?_)
    refine q_istore C [(8, .int x14), (0, .ref (qa Y 0)), (1, .int v1), (2, .int v2), (3, .int v3), (4, .int v4), (5, .int v5), (6, .int v6), (7, .int v7)] dX9_bestRule_78 (by decide) rfl ?_
    refine q_iload_n C 4 dX9_bestRule_80 rfl ?_
    refine q_if_lt C 107 dX9_bestRule_81 (by decide) (fun c15 => ?_) (fun c15 => ?_)
    · replace h := h.1 c15
      refine q_sub (lv' := [(0, .ref (qa Y 0)), (1, .int v1), (2, .int v2), (3, .int v3), (4, .int v4), (5, .int v5), (6, .int v6), (7, .int v7), (8, .int x14)]) [1, 2, 3, 4, 5, 6, 7, 8, 0] rfl ?_
      exact b_X9_bestRule_J107 C hQ hK50 hK60 v1 v2 v3 v4 v5 v6 v7 x14 σ13 h
    · replace h := h.2 c15
      refine q_iload C 0 dX9_bestRule_84 rfl ?_
      refine q_iload C 5 dX9_bestRule_86 rfl ?_
      refine q_icmp_lt C 107 dX9_bestRule_88 (by decide) (fun c16 => ?_) (fun c16 => ?_)
      · replace h := h.1 c16
        refine q_sub (lv' := [(0, .ref (qa Y 0)), (1, .int v1), (2, .int v2), (3, .int v3), (4, .int v4), (5, .int v5), (6, .int v6), (7, .int v7), (8, .int x14)]) [1, 2, 3, 4, 5, 6, 7, 8, 0] rfl ?_
        exact b_X9_bestRule_J107 C hQ hK50 hK60 v1 v2 v3 v4 v5 v6 v7 x14 σ13 h
      · replace h := h.2 c16
        refine q_iload C 0 dX9_bestRule_91 rfl ?_
        refine q_iload C 5 dX9_bestRule_93 rfl ?_
        refine q_icmp_ne C 111 dX9_bestRule_95 (by decide) (fun c17 => ?_) (fun c17 => ?_)
        · replace h := h.1 c17
          refine q_sub (lv' := [(0, .ref (qa Y 0)), (1, .int v1), (2, .int v2), (3, .int v3), (4, .int v4), (5, .int v5), (6, .int v6), (7, .int v7), (8, .int x14)]) [1, 2, 3, 4, 5, 6, 7, 8, 0] rfl ?_
          exact b_X9_bestRule_J111 C hQ hK50 hK60 v1 v2 v3 v4 v5 v6 v7 x14 σ13 h
        · replace h := h.2 c17
          refine q_aload_n C 1 dX9_bestRule_98 rfl ?_
          refine q_geti (T := TX9) C kM0 iM0 inX9_bestRule_X9 rfl 34 (by decide) (List.mem_of_getElem? (i := 5) rfl) (fun _ h9 => h9) rfl dX9_bestRule_99 ?_
          refine q_iload C 6 dX9_bestRule_102 rfl ?_
          refine q_icmp_ge C 111 dX9_bestRule_104 (by decide) (fun c18 => ?_) (fun c18 => ?_)
          · replace h := h.1 c18
            refine q_sub (lv' := [(0, .ref (qa Y 0)), (1, .int v1), (2, .int v2), (3, .int v3), (4, .int v4), (5, .int v5), (6, .int v6), (7, .int v7), (8, .int x14)]) [1, 2, 3, 4, 5, 6, 7, 8, 0] rfl ?_
            exact b_X9_bestRule_J111 C hQ hK50 hK60 v1 v2 v3 v4 v5 v6 v7 x14 σ13 h
          · replace h := h.2 c18
            refine q_sub (lv' := [(0, .ref (qa Y 0)), (1, .int v1), (2, .int v2), (3, .int v3), (4, .int v4), (5, .int v5), (6, .int v6), (7, .int v7), (8, .int x14)]) [1, 2, 3, 4, 5, 6, 7, 8, 0] rfl ?_
            exact b_X9_bestRule_J107 C hQ hK50 hK60 v1 v2 v3 v4 v5 v6 v7 x14 σ13 h
theorem b_X9_bestRule_L60 {Y : CY} {Z : CZ} (C : cx SM 10 Y Z cX9_bestRule RX9 wsX9_bestRule (some .int) rmX9_bestRule) {Post : Int32 → St → Prop} (hQ : Qi SM Y Z Post)  {K50 : Int32 → Int32 → Int32 → Int32 → Int32 → Int32 → St → Prop} (hK50 : ∀ (v1 : Int32) (v2 : Int32) (v3 : Int32) (v4 : Int32) (v5 : Int32) (v6 : Int32) (σ : St), K50 v1 v2 v3 v4 v5 v6 σ → WW SM 10 Y Z σ 50 [(0, .ref (qa Y 0)), (1, .int v1), (2, .int v2), (3, .int v3), (4, .int v4), (5, .int v5), (6, .int v6)] []) : ∀ (n : Nat) (v1 : Int32) (v2 : Int32) (v3 : Int32) (v4 : Int32) (v5 : Int32) (v6 : Int32) (v7 : Int32) (σ : St) (h : w_X9_bestRule_L60 K50 Post n v1 v2 v3 v4 v5 v6 v7 σ), WW SM 10 Y Z σ 60 [(0, .ref (qa Y 0)), (1, .int v1), (2, .int v2), (3, .int v3), (4, .int v4), (5, .int v5), (6, .int v6), (7, .int v7)] [] := by
  intro n
  induction n with
  | zero => intro v1 v2 v3 v4 v5 v6 v7 σ h; exact h.elim
  | succ n ih => intro v1 v2 v3 v4 v5 v6 v7 σ h; exact b_X9_bestRule_B60 C hQ  hK50 ih v1 v2 v3 v4 v5 v6 v7 σ h
set_option maxHeartbeats 4000000 in
set_option maxRecDepth 100000 in
theorem b_X9_bestRule_B50 {Y : CY} {Z : CZ} (C : cx SM 10 Y Z cX9_bestRule RX9 wsX9_bestRule (some .int) rmX9_bestRule) {Post : Int32 → St → Prop} (hQ : Qi SM Y Z Post)  {K50 : Int32 → Int32 → Int32 → Int32 → Int32 → Int32 → St → Prop} (hK50 : ∀ (v1 : Int32) (v2 : Int32) (v3 : Int32) (v4 : Int32) (v5 : Int32) (v6 : Int32) (σ : St), K50 v1 v2 v3 v4 v5 v6 σ → WW SM 10 Y Z σ 50 [(0, .ref (qa Y 0)), (1, .int v1), (2, .int v2), (3, .int v3), (4, .int v4), (5, .int v5), (6, .int v6)] []) (v1 : Int32) (v2 : Int32) (v3 : Int32) (v4 : Int32) (v5 : Int32) (v6 : Int32) (σ : St) (h : w_X9_bestRule_B50  Post K50 v1 v2 v3 v4 v5 v6 σ) : WW SM 10 Y Z σ 50 [(0, .ref (qa Y 0)), (1, .int v1), (2, .int v2), (3, .int v3), (4, .int v4), (5, .int v5), (6, .int v6)] [] := by
  unfold w_X9_bestRule_B50 at h
  refine q_iload C 6 dX9_bestRule_50 rfl ?_
  refine q_bipush (v := (10 : Int32)) C dX9_bestRule_52 (by decide) ?_
  refine q_icmp_ge C 174 dX9_bestRule_54 (by decide) (fun c9 => ?_) (fun c9 => ?_)
  · replace h := h.1 c9
    refine q_iload_n C 2 dX9_bestRule_174 rfl ?_
    refine q_if_ne C 182 dX9_bestRule_175 (by decide) (fun c10 => ?_) (fun c10 => ?_)
    · replace h := h.1 c10
      refine q_iload C 4 dX9_bestRule_182 rfl ?_
      exact q_iret C hQ dX9_bestRule_184 h
    · replace h := h.2 c10
      refine q_iload_n C 3 dX9_bestRule_178 rfl ?_
      refine q_goto C 184 dX9_bestRule_179 (by decide) ?_
      exact q_iret C hQ dX9_bestRule_184 h
  · replace h := h.2 c9
    refine q_iconst (v := (1 : Int32)) C dX9_bestRule_57 (by decide) ?_
    refine q_istore C [(7, .int (1 : Int32)), (0, .ref (qa Y 0)), (1, .int v1), (2, .int v2), (3, .int v3), (4, .int v4), (5, .int v5), (6, .int v6)] dX9_bestRule_58 (by decide) rfl ?_
    refine q_sub (lv' := [(0, .ref (qa Y 0)), (1, .int v1), (2, .int v2), (3, .int v3), (4, .int v4), (5, .int v5), (6, .int v6), (7, .int (1 : Int32))]) [1, 2, 3, 4, 5, 6, 7, 0] rfl ?_
    exact b_X9_bestRule_L60 C hQ hK50 FU v1 v2 v3 v4 v5 v6 (1 : Int32) σ h
theorem b_X9_bestRule_L50 {Y : CY} {Z : CZ} (C : cx SM 10 Y Z cX9_bestRule RX9 wsX9_bestRule (some .int) rmX9_bestRule) {Post : Int32 → St → Prop} (hQ : Qi SM Y Z Post)  : ∀ (n : Nat) (v1 : Int32) (v2 : Int32) (v3 : Int32) (v4 : Int32) (v5 : Int32) (v6 : Int32) (σ : St) (h : w_X9_bestRule_L50  Post n v1 v2 v3 v4 v5 v6 σ), WW SM 10 Y Z σ 50 [(0, .ref (qa Y 0)), (1, .int v1), (2, .int v2), (3, .int v3), (4, .int v4), (5, .int v5), (6, .int v6)] [] := by
  intro n
  induction n with
  | zero => intro v1 v2 v3 v4 v5 v6 σ h; exact h.elim
  | succ n ih => intro v1 v2 v3 v4 v5 v6 σ h; exact b_X9_bestRule_B50 C hQ  ih v1 v2 v3 v4 v5 v6 σ h
set_option maxHeartbeats 4000000 in
set_option maxRecDepth 100000 in
theorem b_X9_bestRule {Y : CY} {Z : CZ} (C : cx SM 10 Y Z cX9_bestRule RX9 wsX9_bestRule (some .int) rmX9_bestRule) {Post : Int32 → St → Prop} (hQ : Qi SM Y Z Post)  (p1 : Int32) (p2 : Int32) (σ : St) (h : w_X9_bestRule p1 p2 σ Post) : WW SM 10 Y Z σ 0 [(0, .ref (qa Y 0)), (1, .int p1), (2, .int p2)] [] := by
  unfold w_X9_bestRule at h
  refine q_iload_n C 1 dX9_bestRule_0 rfl ?_
  refine q_i2l C dX9_bestRule_1 ?_
  refine q_lconst (v := (1 : Int64)) C dX9_bestRule_2 (by decide) ?_
  refine q_ldc2 (v := (200 : Int64)) C (List.mem_of_getElem? (i := 1) rfl) dX9_bestRule_3 ?_
  refine q_callSi (As := [.long p1.toInt64, .long (1 : Int64), .long (200 : Int64)]) (st := []) C (c_X9_in Y (p1.toInt64) (1 : Int64) (200 : Int64) σ _ h) gX9_bestRule_X9_in rfl nkX9_in rmOk_X9_bestRule__X9_in rfl (Nat.le_of_ble_eq_true rfl) dX9_bestRule_6 rfl (fun x2 σ1 h => ?_)
  refine q_if_eq C 22 dX9_bestRule_9 (by decide) (fun c3 => ?_) (fun c3 => ?_)
  · replace h := h.1 c3
    refine q_ldc (v := (-1000000002 : Int32)) C (List.mem_of_getElem? (i := 2) rfl) dX9_bestRule_22 ?_
    exact q_iret C hQ dX9_bestRule_24 h
  · replace h := h.2 c3
    refine q_iload_n C 2 dX9_bestRule_12 rfl ?_
    refine q_i2l C dX9_bestRule_13 ?_
    refine q_lconst (v := (0 : Int64)) C dX9_bestRule_14 (by decide) ?_
    refine q_lconst (v := (1 : Int64)) C dX9_bestRule_15 (by decide) ?_
    refine q_callSi (As := [.long p2.toInt64, .long (0 : Int64), .long (1 : Int64)]) (st := []) C (c_X9_in Y (p2.toInt64) (0 : Int64) (1 : Int64) σ1 _ h) gX9_bestRule_X9_in rfl nkX9_in rmOk_X9_bestRule__X9_in rfl (Nat.le_of_ble_eq_true rfl) dX9_bestRule_16 rfl (fun x5 σ4 h => ?_)
    refine q_if_ne C 25 dX9_bestRule_19 (by decide) (fun c6 => ?_) (fun c6 => ?_)
    · replace h := h.1 c6
      refine q_aload_n C 0 dX9_bestRule_25 rfl ?_
      refine q_geti (T := TX9) C kM0 iM0 inX9_bestRule_X9 rfl 0 (by decide) (List.mem_of_getElem? (i := 3) rfl) (fun _ h9 => h9) rfl dX9_bestRule_26 ?_
      refine q_if_ne C 35 dX9_bestRule_29 (by decide) (fun c7 => ?_) (fun c7 => ?_)
      · replace h := h.1 c7
        refine q_aload_n C 0 dX9_bestRule_35 rfl ?_
        refine q_callVv (As := []) (st := []) C (c_X9_save Y σ4 _ h) gX9_bestRule_X9_save rfl ⟨rfl, nkX9_save⟩ rmOk_X9_bestRule__X9_save kM0 iM0 rfl rfl (Nat.le_of_ble_eq_true rfl) dX9_bestRule_36 rfl (fun σ8 h => ?_)
        refine q_iconst (v := (-1 : Int32)) C dX9_bestRule_39 (by decide) ?_
        refine q_istore_n C [(3, .int (-1 : Int32)), (0, .ref (qa Y 0)), (1, .int p1), (2, .int p2)] dX9_bestRule_40 (by decide) rfl ?_
        refine q_iconst (v := (0 : Int32)) C dX9_bestRule_41 (by decide) ?_
        refine q_istore C [(4, .int (0 : Int32)), (3, .int (-1 : Int32)), (0, .ref (qa Y 0)), (1, .int p1), (2, .int p2)] dX9_bestRule_42 (by decide) rfl ?_
        refine q_iconst (v := (0 : Int32)) C dX9_bestRule_44 (by decide) ?_
        refine q_istore C [(5, .int (0 : Int32)), (4, .int (0 : Int32)), (3, .int (-1 : Int32)), (0, .ref (qa Y 0)), (1, .int p1), (2, .int p2)] dX9_bestRule_45 (by decide) rfl ?_
        refine q_iconst (v := (0 : Int32)) C dX9_bestRule_47 (by decide) ?_
        refine q_istore C [(6, .int (0 : Int32)), (5, .int (0 : Int32)), (4, .int (0 : Int32)), (3, .int (-1 : Int32)), (0, .ref (qa Y 0)), (1, .int p1), (2, .int p2)] dX9_bestRule_48 (by decide) rfl ?_
        refine q_sub (lv' := [(0, .ref (qa Y 0)), (1, .int p1), (2, .int p2), (3, .int (-1 : Int32)), (4, .int (0 : Int32)), (5, .int (0 : Int32)), (6, .int (0 : Int32))]) [4, 5, 6, 3, 2, 1, 0] rfl ?_
        exact b_X9_bestRule_L50 C hQ FU p1 p2 (-1 : Int32) (0 : Int32) (0 : Int32) (0 : Int32) σ8 h
      · replace h := h.2 c7
        refine q_ldc (v := (-1000000003 : Int32)) C (List.mem_of_getElem? (i := 4) rfl) dX9_bestRule_32 ?_
        exact q_iret C hQ dX9_bestRule_34 h
    · replace h := h.2 c6
      refine q_ldc (v := (-1000000002 : Int32)) C (List.mem_of_getElem? (i := 2) rfl) dX9_bestRule_22 ?_
      exact q_iret C hQ dX9_bestRule_24 h
theorem c_X9_bestRule (Y : CY)  (p1 : Int32) (p2 : Int32) (σ : St) (Post : Int32 → St → Prop) (h : w_X9_bestRule p1 p2 σ Post) : Ki SM Y yX9_bestRule wsX9_bestRule rmX9_bestRule [.ref (qa Y 0), .int p1, .int p2] σ Post :=
  Ki_of (cc := cX9_bestRule) (nL := 10) (ret := (some .int)) (by decide +kernel) rfl (Nat.le_of_ble_eq_true rfl) (fun Z C hQ => b_X9_bestRule C hQ  p1 p2 σ h)
abbrev rmX9_doesFit : Room := { frames := 1, cells := 0, slots := 0, locals := 21 }
theorem nkX9_doesFit : NmOk yX9_doesFit 3 := by decide +kernel
theorem rmOk_X9_doesFit__X9_jumpOf : RmOk rmX9_jumpOf rmX9_doesFit 2 := ⟨rfl, rfl, by decide, by decide⟩
theorem inX9_doesFit_X9 : ∀ w ∈ u_ws RX9 TX9 47, w ∈ wsX9_doesFit := fun _ h => List.mem_cons_of_mem _ (List.mem_append_right _ h)
def w_X9_doesFit_J66 (K6 : Int32 → Int32 → Int32 → Int32 → Int32 → St → Prop) (Post : Int32 → St → Prop) (v1 : Int32) (v2 : Int32) (v3 : Int32) (v5 : Int32) (s0 : Int32) (σ : St) : Prop := ∀ x11 : Int32, x11 = v5 + (1 : Int32) → K6 v1 v2 v3 s0 x11 σ
def w_X9_doesFit_J61 (K6 : Int32 → Int32 → Int32 → Int32 → Int32 → St → Prop) (Post : Int32 → St → Prop) (v1 : Int32) (v2 : Int32) (v3 : Int32) (v5 : Int32) (σ : St) : Prop := w_X9_doesFit_J66 K6 Post v1 v2 v3 v5 (1 : Int32) σ
def w_X9_doesFit_J65 (K6 : Int32 → Int32 → Int32 → Int32 → Int32 → St → Prop) (Post : Int32 → St → Prop) (v1 : Int32) (v2 : Int32) (v3 : Int32) (v5 : Int32) (σ : St) : Prop := w_X9_doesFit_J66 K6 Post v1 v2 v3 v5 (0 : Int32) σ
def w_X9_doesFit_B6 (Post : Int32 → St → Prop) (K6 : Int32 → Int32 → Int32 → Int32 → Int32 → St → Prop) (v1 : Int32) (v2 : Int32) (v3 : Int32) (v4 : Int32) (v5 : Int32) (σ : St) : Prop := ((σ 0 35) ≤ v5 → (v4 = 0 ∨ v4 = 1) ∧ Post v4 σ) ∧ (¬ (σ 0 35) ≤ v5 → (v4 = 0 → w_X9_doesFit_J65 K6 Post v1 v2 v3 v5 σ) ∧ (¬ v4 = 0 → (vp_in v5 10) ∧ ((¬ v2 = 0) ∧ ((¬ ((σ 14 v5.toNatClampNeg) - (σ 14 v5.toNatClampNeg) / v2 * v2) = v1 → w_X9_doesFit_J61 K6 Post v1 v2 v3 v5 σ) ∧ (((σ 14 v5.toNatClampNeg) - (σ 14 v5.toNatClampNeg) / v2 * v2) = v1 → (vp_in v5 10) ∧ ((vp_in v5 10) ∧ (w_X9_jumpOf ((σ 14 v5.toNatClampNeg)) σ (fun x9 σ8 => (¬ (σ 15 v5.toNatClampNeg) = (((σ 0 1) + v3) + x9) → w_X9_doesFit_J65 K6 Post v1 v2 v3 v5 σ8) ∧ ((σ 15 v5.toNatClampNeg) = (((σ 0 1) + v3) + x9) → w_X9_doesFit_J61 K6 Post v1 v2 v3 v5 σ8)))))))))
def w_X9_doesFit_L6 (Post : Int32 → St → Prop) : Nat → Int32 → Int32 → Int32 → Int32 → Int32 → St → Prop
  | 0 => fun _ _ _ _ _ _ => False
  | n + 1 => w_X9_doesFit_B6   Post (w_X9_doesFit_L6   Post n)
def w_X9_doesFit (p1 : Int32) (p2 : Int32) (p3 : Int32) (σ : St) (Post : Int32 → St → Prop) : Prop := w_X9_doesFit_L6 Post FU p1 p2 p3 (1 : Int32) (0 : Int32) σ
set_option maxHeartbeats 4000000 in
set_option maxRecDepth 100000 in
theorem b_X9_doesFit_J66 {Y : CY} {Z : CZ} (C : cx SM 6 Y Z cX9_doesFit RX9 wsX9_doesFit (some .boolean) rmX9_doesFit) {Post : Int32 → St → Prop} (hQ : Qi SM Y Z Post)  {K6 : Int32 → Int32 → Int32 → Int32 → Int32 → St → Prop} (hK6 : ∀ (v1 : Int32) (v2 : Int32) (v3 : Int32) (v4 : Int32) (v5 : Int32) (σ : St), K6 v1 v2 v3 v4 v5 σ → WW SM 6 Y Z σ 6 [(0, .ref (qa Y 0)), (1, .int v1), (2, .int v2), (3, .int v3), (4, .int v4), (5, .int v5)] []) (v1 : Int32) (v2 : Int32) (v3 : Int32) (v5 : Int32) (s0 : Int32) (σ : St) (h : w_X9_doesFit_J66 K6 Post v1 v2 v3 v5 s0 σ) : WW SM 6 Y Z σ 66 [(0, .ref (qa Y 0)), (1, .int v1), (2, .int v2), (3, .int v3), (5, .int v5)] [.int s0] := by
  unfold w_X9_doesFit_J66 at h
  refine q_istore C [(4, .int s0), (0, .ref (qa Y 0)), (1, .int v1), (2, .int v2), (3, .int v3), (5, .int v5)] dX9_doesFit_66 (by decide) rfl ?_
  obtain ⟨x11, ex11⟩ : ∃ y : Int32, y = v5 + (1 : Int32) := ⟨_, rfl⟩
  replace h := h x11 ex11
  refine q_iinc C x11 5 [(5, .int x11), (4, .int s0), (0, .ref (qa Y 0)), (1, .int v1), (2, .int v2), (3, .int v3)] dX9_doesFit_68 rfl (by rw [ex11]; rfl) (by decide) rfl ?_
  refine q_goto C 6 dX9_doesFit_71 (by decide) ?_
  refine q_sub (lv' := [(0, .ref (qa Y 0)), (1, .int v1), (2, .int v2), (3, .int v3), (4, .int s0), (5, .int x11)]) [2, 3, 4, 5, 1, 0] rfl ?_
  exact hK6 v1 v2 v3 s0 x11 σ h
set_option maxHeartbeats 4000000 in
set_option maxRecDepth 100000 in
theorem b_X9_doesFit_J61 {Y : CY} {Z : CZ} (C : cx SM 6 Y Z cX9_doesFit RX9 wsX9_doesFit (some .boolean) rmX9_doesFit) {Post : Int32 → St → Prop} (hQ : Qi SM Y Z Post)  {K6 : Int32 → Int32 → Int32 → Int32 → Int32 → St → Prop} (hK6 : ∀ (v1 : Int32) (v2 : Int32) (v3 : Int32) (v4 : Int32) (v5 : Int32) (σ : St), K6 v1 v2 v3 v4 v5 σ → WW SM 6 Y Z σ 6 [(0, .ref (qa Y 0)), (1, .int v1), (2, .int v2), (3, .int v3), (4, .int v4), (5, .int v5)] []) (v1 : Int32) (v2 : Int32) (v3 : Int32) (v5 : Int32) (σ : St) (h : w_X9_doesFit_J61 K6 Post v1 v2 v3 v5 σ) : WW SM 6 Y Z σ 61 [(0, .ref (qa Y 0)), (1, .int v1), (2, .int v2), (3, .int v3), (5, .int v5)] [] := by
  unfold w_X9_doesFit_J61 at h
  refine q_iconst (v := (1 : Int32)) C dX9_doesFit_61 (by decide) ?_
  refine q_goto C 66 dX9_doesFit_62 (by decide) ?_
  exact b_X9_doesFit_J66 C hQ hK6 v1 v2 v3 v5 (1 : Int32) σ h
set_option maxHeartbeats 4000000 in
set_option maxRecDepth 100000 in
theorem b_X9_doesFit_J65 {Y : CY} {Z : CZ} (C : cx SM 6 Y Z cX9_doesFit RX9 wsX9_doesFit (some .boolean) rmX9_doesFit) {Post : Int32 → St → Prop} (hQ : Qi SM Y Z Post)  {K6 : Int32 → Int32 → Int32 → Int32 → Int32 → St → Prop} (hK6 : ∀ (v1 : Int32) (v2 : Int32) (v3 : Int32) (v4 : Int32) (v5 : Int32) (σ : St), K6 v1 v2 v3 v4 v5 σ → WW SM 6 Y Z σ 6 [(0, .ref (qa Y 0)), (1, .int v1), (2, .int v2), (3, .int v3), (4, .int v4), (5, .int v5)] []) (v1 : Int32) (v2 : Int32) (v3 : Int32) (v5 : Int32) (σ : St) (h : w_X9_doesFit_J65 K6 Post v1 v2 v3 v5 σ) : WW SM 6 Y Z σ 65 [(0, .ref (qa Y 0)), (1, .int v1), (2, .int v2), (3, .int v3), (5, .int v5)] [] := by
  unfold w_X9_doesFit_J65 at h
  refine q_iconst (v := (0 : Int32)) C dX9_doesFit_65 (by decide) ?_
  exact b_X9_doesFit_J66 C hQ hK6 v1 v2 v3 v5 (0 : Int32) σ h
set_option maxHeartbeats 4000000 in
set_option maxRecDepth 100000 in
theorem b_X9_doesFit_B6 {Y : CY} {Z : CZ} (C : cx SM 6 Y Z cX9_doesFit RX9 wsX9_doesFit (some .boolean) rmX9_doesFit) {Post : Int32 → St → Prop} (hQ : Qi SM Y Z Post)  {K6 : Int32 → Int32 → Int32 → Int32 → Int32 → St → Prop} (hK6 : ∀ (v1 : Int32) (v2 : Int32) (v3 : Int32) (v4 : Int32) (v5 : Int32) (σ : St), K6 v1 v2 v3 v4 v5 σ → WW SM 6 Y Z σ 6 [(0, .ref (qa Y 0)), (1, .int v1), (2, .int v2), (3, .int v3), (4, .int v4), (5, .int v5)] []) (v1 : Int32) (v2 : Int32) (v3 : Int32) (v4 : Int32) (v5 : Int32) (σ : St) (h : w_X9_doesFit_B6  Post K6 v1 v2 v3 v4 v5 σ) : WW SM 6 Y Z σ 6 [(0, .ref (qa Y 0)), (1, .int v1), (2, .int v2), (3, .int v3), (4, .int v4), (5, .int v5)] [] := by
  unfold w_X9_doesFit_B6 at h
  refine q_iload C 5 dX9_doesFit_6 rfl ?_
  refine q_aload_n C 0 dX9_doesFit_8 rfl ?_
  refine q_geti (T := TX9) C kM0 iM0 inX9_doesFit_X9 rfl 35 (by decide) (List.mem_of_getElem? (i := 1) rfl) (fun _ h9 => h9) rfl dX9_doesFit_9 ?_
  refine q_icmp_ge C 74 dX9_doesFit_12 (by decide) (fun c1 => ?_) (fun c1 => ?_)
  · replace h := h.1 c1
    refine q_iload C 4 dX9_doesFit_74 rfl ?_
    exact q_zret C hQ (zb_n h.1) dX9_doesFit_76 h.2
  · replace h := h.2 c1
    refine q_iload C 4 dX9_doesFit_15 rfl ?_
    refine q_if_eq C 65 dX9_doesFit_17 (by decide) (fun c2 => ?_) (fun c2 => ?_)
    · replace h := h.1 c2
      refine q_sub (lv' := [(0, .ref (qa Y 0)), (1, .int v1), (2, .int v2), (3, .int v3), (5, .int v5)]) [0, 1, 2, 3, 5] rfl ?_
      exact b_X9_doesFit_J65 C hQ hK6 v1 v2 v3 v5 σ h
    · replace h := h.2 c2
      refine q_aload_n C 0 dX9_doesFit_20 rfl ?_
      refine q_getr (T := TX9) C kM0 iM0 inX9_doesFit_X9 rfl 36 (by decide) (List.mem_of_getElem? (i := 2) rfl) (fun _ h9 => h9) rfl dX9_doesFit_21 ?_
      refine q_iload C 5 dX9_doesFit_24 rfl ?_
      obtain ⟨g3, h⟩ := h
      refine q_iald C kM14 iM14 g3 dX9_doesFit_26 ?_
      refine q_iload_n C 2 dX9_doesFit_27 rfl ?_
      obtain ⟨g4, h⟩ := h
      refine q_irem C dX9_doesFit_28 g4 ?_
      refine q_iload_n C 1 dX9_doesFit_29 rfl ?_
      refine q_icmp_ne C 61 dX9_doesFit_30 (by decide) (fun c5 => ?_) (fun c5 => ?_)
      · replace h := h.1 c5
        refine q_sub (lv' := [(0, .ref (qa Y 0)), (1, .int v1), (2, .int v2), (3, .int v3), (5, .int v5)]) [0, 1, 2, 3, 5] rfl ?_
        exact b_X9_doesFit_J61 C hQ hK6 v1 v2 v3 v5 σ h
      · replace h := h.2 c5
        refine q_aload_n C 0 dX9_doesFit_33 rfl ?_
        refine q_getr (T := TX9) C kM0 iM0 inX9_doesFit_X9 rfl 37 (by decide) (List.mem_of_getElem? (i := 3) rfl) (fun _ h9 => h9) rfl dX9_doesFit_34 ?_
        refine q_iload C 5 dX9_doesFit_37 rfl ?_
        obtain ⟨g6, h⟩ := h
        refine q_iald C kM15 iM15 g6 dX9_doesFit_39 ?_
        refine q_aload_n C 0 dX9_doesFit_40 rfl ?_
        refine q_geti (T := TX9) C kM0 iM0 inX9_doesFit_X9 rfl 1 (by decide) (List.mem_of_getElem? (i := 4) rfl) (fun _ h9 => h9) rfl dX9_doesFit_41 ?_
        refine q_iload_n C 3 dX9_doesFit_44 rfl ?_
        refine q_iadd C dX9_doesFit_45 ?_
        refine q_aload_n C 0 dX9_doesFit_46 rfl ?_
        refine q_aload_n C 0 dX9_doesFit_47 rfl ?_
        refine q_getr (T := TX9) C kM0 iM0 inX9_doesFit_X9 rfl 36 (by decide) (List.mem_of_getElem? (i := 2) rfl) (fun _ h9 => h9) rfl dX9_doesFit_48 ?_
        refine q_iload C 5 dX9_doesFit_51 rfl ?_
        obtain ⟨g7, h⟩ := h
        refine q_iald C kM14 iM14 g7 dX9_doesFit_53 ?_
        refine q_callVi (As := [.int (σ 14 v5.toNatClampNeg)]) (st := [.int ((σ 0 1) + v3), .int (σ 15 v5.toNatClampNeg)]) C (c_X9_jumpOf Y ((σ 14 v5.toNatClampNeg)) σ _ h) gX9_doesFit_X9_jumpOf rfl ⟨rfl, nkX9_jumpOf⟩ rmOk_X9_doesFit__X9_jumpOf kM0 iM0 rfl rfl (Nat.le_of_ble_eq_true rfl) dX9_doesFit_54 rfl (fun x9 σ8 h => ?_)
        refine q_iadd C dX9_doesFit_57 ?_
        refine q_icmp_ne C 65 dX9_doesFit_58 (by decide) (fun c10 => ?_) (fun c10 => ?_)
        · replace h := h.1 c10
          refine q_sub (lv' := [(0, .ref (qa Y 0)), (1, .int v1), (2, .int v2), (3, .int v3), (5, .int v5)]) [0, 1, 2, 3, 5] rfl ?_
          exact b_X9_doesFit_J65 C hQ hK6 v1 v2 v3 v5 σ8 h
        · replace h := h.2 c10
          refine q_sub (lv' := [(0, .ref (qa Y 0)), (1, .int v1), (2, .int v2), (3, .int v3), (5, .int v5)]) [0, 1, 2, 3, 5] rfl ?_
          exact b_X9_doesFit_J61 C hQ hK6 v1 v2 v3 v5 σ8 h
theorem b_X9_doesFit_L6 {Y : CY} {Z : CZ} (C : cx SM 6 Y Z cX9_doesFit RX9 wsX9_doesFit (some .boolean) rmX9_doesFit) {Post : Int32 → St → Prop} (hQ : Qi SM Y Z Post)  : ∀ (n : Nat) (v1 : Int32) (v2 : Int32) (v3 : Int32) (v4 : Int32) (v5 : Int32) (σ : St) (h : w_X9_doesFit_L6  Post n v1 v2 v3 v4 v5 σ), WW SM 6 Y Z σ 6 [(0, .ref (qa Y 0)), (1, .int v1), (2, .int v2), (3, .int v3), (4, .int v4), (5, .int v5)] [] := by
  intro n
  induction n with
  | zero => intro v1 v2 v3 v4 v5 σ h; exact h.elim
  | succ n ih => intro v1 v2 v3 v4 v5 σ h; exact b_X9_doesFit_B6 C hQ  ih v1 v2 v3 v4 v5 σ h
set_option maxHeartbeats 4000000 in
set_option maxRecDepth 100000 in
theorem b_X9_doesFit {Y : CY} {Z : CZ} (C : cx SM 6 Y Z cX9_doesFit RX9 wsX9_doesFit (some .boolean) rmX9_doesFit) {Post : Int32 → St → Prop} (hQ : Qi SM Y Z Post)  (p1 : Int32) (p2 : Int32) (p3 : Int32) (σ : St) (h : w_X9_doesFit p1 p2 p3 σ Post) : WW SM 6 Y Z σ 0 [(0, .ref (qa Y 0)), (1, .int p1), (2, .int p2), (3, .int p3)] [] := by
  unfold w_X9_doesFit at h
  refine q_iconst (v := (1 : Int32)) C dX9_doesFit_0 (by decide) ?_
  refine q_istore C [(4, .int (1 : Int32)), (0, .ref (qa Y 0)), (1, .int p1), (2, .int p2), (3, .int p3)] dX9_doesFit_1 (by decide) rfl ?_
  refine q_iconst (v := (0 : Int32)) C dX9_doesFit_3 (by decide) ?_
  refine q_istore C [(5, .int (0 : Int32)), (4, .int (1 : Int32)), (0, .ref (qa Y 0)), (1, .int p1), (2, .int p2), (3, .int p3)] dX9_doesFit_4 (by decide) rfl ?_
  refine q_sub (lv' := [(0, .ref (qa Y 0)), (1, .int p1), (2, .int p2), (3, .int p3), (4, .int (1 : Int32)), (5, .int (0 : Int32))]) [2, 3, 4, 5, 1, 0] rfl ?_
  exact b_X9_doesFit_L6 C hQ FU p1 p2 p3 (1 : Int32) (0 : Int32) σ h
theorem c_X9_doesFit (Y : CY)  (p1 : Int32) (p2 : Int32) (p3 : Int32) (σ : St) (Post : Int32 → St → Prop) (h : w_X9_doesFit p1 p2 p3 σ Post) : Ki SM Y yX9_doesFit wsX9_doesFit rmX9_doesFit [.ref (qa Y 0), .int p1, .int p2, .int p3] σ Post :=
  Ki_of (cc := cX9_doesFit) (nL := 6) (ret := (some .boolean)) (by decide +kernel) rfl (Nat.le_of_ble_eq_true rfl) (fun Z C hQ => b_X9_doesFit C hQ  p1 p2 p3 σ h)
abbrev rmX9_draw : Room := { frames := 0, cells := 0, slots := 0, locals := 0 }
theorem nkX9_draw : NmOk yX9_draw 1 := by decide +kernel
theorem inX9_draw_X9 : ∀ w ∈ u_ws RX9 TX9 47, w ∈ wsX9_draw := fun _ h => List.mem_cons_of_mem _ (List.mem_append_right _ h)
def w_X9_draw (p1 : Int32) (σ : St) (Post : Int32 → St → Prop) : Prop := ∀ σ1 : St, σ1 = up σ 0 13 (((((σ 0 13).toInt64 * (1103515245 : Int64)) + (12345 : Int64)) - (((σ 0 13).toInt64 * (1103515245 : Int64)) + (12345 : Int64)) / (2147483648 : Int64) * (2147483648 : Int64)).toInt32) → (¬ p1 = 0) ∧ (Post ((((σ1 0 13) / (65536 : Int32)) - ((σ1 0 13) / (65536 : Int32)) / p1 * p1)) σ1)
set_option maxHeartbeats 4000000 in
set_option maxRecDepth 100000 in
theorem b_X9_draw {Y : CY} {Z : CZ} (C : cx SM 2 Y Z cX9_draw RX9 wsX9_draw (some .int) rmX9_draw) {Post : Int32 → St → Prop} (hQ : Qi SM Y Z Post)  (p1 : Int32) (σ : St) (h : w_X9_draw p1 σ Post) : WW SM 2 Y Z σ 0 [(0, .ref (qa Y 0)), (1, .int p1)] [] := by
  unfold w_X9_draw at h
  refine q_aload_n C 0 dX9_draw_0 rfl ?_
  refine q_aload_n C 0 dX9_draw_1 rfl ?_
  refine q_geti (T := TX9) C kM0 iM0 inX9_draw_X9 rfl 13 (by decide) (List.mem_of_getElem? (i := 1) rfl) (fun _ h9 => h9) rfl dX9_draw_2 ?_
  refine q_i2l C dX9_draw_5 ?_
  refine q_ldc2 (v := (1103515245 : Int64)) C (List.mem_of_getElem? (i := 2) rfl) dX9_draw_6 ?_
  refine q_lmul C dX9_draw_9 ?_
  refine q_ldc2 (v := (12345 : Int64)) C (List.mem_of_getElem? (i := 3) rfl) dX9_draw_10 ?_
  refine q_ladd C dX9_draw_13 ?_
  refine q_ldc2 (v := (2147483648 : Int64)) C (List.mem_of_getElem? (i := 4) rfl) dX9_draw_14 ?_
  refine q_lrem C dX9_draw_17 (by decide) ?_
  refine q_l2i C dX9_draw_18 ?_
  refine q_puti (T := TX9) C kM0 iM0 inX9_draw_X9 rfl tyX9 tyX9_ok nmX9 13 (by decide) (List.mem_of_getElem? (i := 1) rfl) (fun _ h9 => h9) rfl dgM0 rfl (ni_n _) (ni_f _) dX9_draw_19 ?_
  refine q_nmS (fun σ1 eσ1 => ?_)
  replace h := h σ1 eσ1
  refine q_aload_n C 0 dX9_draw_22 rfl ?_
  refine q_geti (T := TX9) C kM0 iM0 inX9_draw_X9 rfl 13 (by decide) (List.mem_of_getElem? (i := 1) rfl) (fun _ h9 => h9) rfl dX9_draw_23 ?_
  refine q_ldc (v := (65536 : Int32)) C (List.mem_of_getElem? (i := 5) rfl) dX9_draw_26 ?_
  refine q_idiv C dX9_draw_28 (by decide) ?_
  refine q_iload_n C 1 dX9_draw_29 rfl ?_
  obtain ⟨g2, h⟩ := h
  refine q_irem C dX9_draw_30 g2 ?_
  exact q_iret C hQ dX9_draw_31 h
theorem c_X9_draw (Y : CY)  (p1 : Int32) (σ : St) (Post : Int32 → St → Prop) (h : w_X9_draw p1 σ Post) : Ki SM Y yX9_draw wsX9_draw rmX9_draw [.ref (qa Y 0), .int p1] σ Post :=
  Ki_of (cc := cX9_draw) (nL := 2) (ret := (some .int)) (by decide +kernel) rfl (Nat.le_of_ble_eq_true rfl) (fun Z C hQ => b_X9_draw C hQ  p1 σ h)
abbrev rmX9_isReady : Room := { frames := 0, cells := 0, slots := 0, locals := 0 }
theorem nkX9_isReady : NmOk yX9_isReady 0 := by decide +kernel
theorem inX9_isReady_X9 : ∀ w ∈ u_ws RX9 TX9 47, w ∈ wsX9_isReady := fun _ h => List.mem_cons_of_mem _ (List.mem_append_right _ h)
def w_X9_isReady (σ : St) (Post : Int32 → St → Prop) : Prop := ((σ 0 0) = 0 → Post (0 : Int32) σ) ∧ (¬ (σ 0 0) = 0 → (¬ (σ 4 5) = 0 → Post (0 : Int32) σ) ∧ ((σ 4 5) = 0 → Post (1 : Int32) σ))
set_option maxHeartbeats 4000000 in
set_option maxRecDepth 100000 in
theorem b_X9_isReady {Y : CY} {Z : CZ} (C : cx SM 1 Y Z cX9_isReady RX9 wsX9_isReady (some .boolean) rmX9_isReady) {Post : Int32 → St → Prop} (hQ : Qi SM Y Z Post)  (σ : St) (h : w_X9_isReady  σ Post) : WW SM 1 Y Z σ 0 [(0, .ref (qa Y 0))] [] := by
  unfold w_X9_isReady at h
  refine q_aload_n C 0 dX9_isReady_0 rfl ?_
  refine q_geti (T := TX9) C kM0 iM0 inX9_isReady_X9 rfl 0 (by decide) (List.mem_of_getElem? (i := 1) rfl) (fun _ h9 => h9) rfl dX9_isReady_1 ?_
  refine q_if_eq C 20 dX9_isReady_4 (by decide) (fun c1 => ?_) (fun c1 => ?_)
  · replace h := h.1 c1
    refine q_iconst (v := (0 : Int32)) C dX9_isReady_20 (by decide) ?_
    exact q_zret C hQ (zb_n (by decide)) dX9_isReady_21 h
  · replace h := h.2 c1
    refine q_aload_n C 0 dX9_isReady_7 rfl ?_
    refine q_getr (T := TX9) C kM0 iM0 inX9_isReady_X9 rfl 12 (by decide) (List.mem_of_getElem? (i := 2) rfl) (fun _ h9 => h9) rfl dX9_isReady_8 ?_
    refine q_iconst (v := (5 : Int32)) C dX9_isReady_11 (by decide) ?_
    refine q_ialdk C 5 (by decide) (by decide) (by decide) kM4 iM4 dX9_isReady_12 ?_
    refine q_if_ne C 20 dX9_isReady_13 (by decide) (fun c2 => ?_) (fun c2 => ?_)
    · replace h := h.1 c2
      refine q_iconst (v := (0 : Int32)) C dX9_isReady_20 (by decide) ?_
      exact q_zret C hQ (zb_n (by decide)) dX9_isReady_21 h
    · replace h := h.2 c2
      refine q_iconst (v := (1 : Int32)) C dX9_isReady_16 (by decide) ?_
      refine q_goto C 21 dX9_isReady_17 (by decide) ?_
      exact q_zret C hQ (zb_n (by decide)) dX9_isReady_21 h
theorem c_X9_isReady (Y : CY)  (σ : St) (Post : Int32 → St → Prop) (h : w_X9_isReady  σ Post) : Ki SM Y yX9_isReady wsX9_isReady rmX9_isReady [.ref (qa Y 0)] σ Post :=
  Ki_of (cc := cX9_isReady) (nL := 1) (ret := (some .boolean)) (by decide +kernel) rfl (Nat.le_of_ble_eq_true rfl) (fun Z C hQ => b_X9_isReady C hQ  σ h)
abbrev rmX9_minutesRefused : Room := { frames := 1, cells := 0, slots := 0, locals := 25 }
theorem nkX9_minutesRefused : NmOk yX9_minutesRefused 1 := by decide +kernel
theorem rmOk_X9_minutesRefused__X9_in : RmOk rmX9_in rmX9_minutesRefused 6 := ⟨rfl, rfl, by decide, by decide⟩
theorem rmOk_X9_minutesRefused__X9_isReady : RmOk rmX9_isReady rmX9_minutesRefused 1 := ⟨rfl, rfl, by decide, by decide⟩
theorem inX9_minutesRefused_X9 : ∀ w ∈ u_ws RX9 TX9 47, w ∈ wsX9_minutesRefused := fun _ h => List.mem_cons_of_mem _ (List.mem_append_right _ h)
def w_X9_minutesRefused (p1 : Int32) (σ : St) (Post : Int32 → St → Prop) : Prop := w_X9_in (p1.toInt64) (1 : Int64) (99 : Int64) σ (fun x2 σ1 => (¬ x2 = 0 → w_X9_isReady σ1 (fun x5 σ4 => (¬ x5 = 0 → ((σ4 4 0) ≤ (9000 : Int32) → Post (0 : Int32) σ4) ∧ (¬ (σ4 4 0) ≤ (9000 : Int32) → Post (-1000000004 : Int32) σ4)) ∧ (x5 = 0 → Post (-1000000003 : Int32) σ4))) ∧ (x2 = 0 → Post (-1000000002 : Int32) σ1))
set_option maxHeartbeats 4000000 in
set_option maxRecDepth 100000 in
theorem b_X9_minutesRefused {Y : CY} {Z : CZ} (C : cx SM 2 Y Z cX9_minutesRefused RX9 wsX9_minutesRefused (some .int) rmX9_minutesRefused) {Post : Int32 → St → Prop} (hQ : Qi SM Y Z Post)  (p1 : Int32) (σ : St) (h : w_X9_minutesRefused p1 σ Post) : WW SM 2 Y Z σ 0 [(0, .ref (qa Y 0)), (1, .int p1)] [] := by
  unfold w_X9_minutesRefused at h
  refine q_iload_n C 1 dX9_minutesRefused_0 rfl ?_
  refine q_i2l C dX9_minutesRefused_1 ?_
  refine q_lconst (v := (1 : Int64)) C dX9_minutesRefused_2 (by decide) ?_
  refine q_ldc2 (v := (99 : Int64)) C (List.mem_of_getElem? (i := 1) rfl) dX9_minutesRefused_3 ?_
  refine q_callSi (As := [.long p1.toInt64, .long (1 : Int64), .long (99 : Int64)]) (st := []) C (c_X9_in Y (p1.toInt64) (1 : Int64) (99 : Int64) σ _ h) gX9_minutesRefused_X9_in rfl nkX9_in rmOk_X9_minutesRefused__X9_in rfl (Nat.le_of_ble_eq_true rfl) dX9_minutesRefused_6 rfl (fun x2 σ1 h => ?_)
  refine q_if_ne C 15 dX9_minutesRefused_9 (by decide) (fun c3 => ?_) (fun c3 => ?_)
  · replace h := h.1 c3
    refine q_aload_n C 0 dX9_minutesRefused_15 rfl ?_
    refine q_callVi (As := []) (st := []) C (c_X9_isReady Y σ1 _ h) gX9_minutesRefused_X9_isReady rfl ⟨rfl, nkX9_isReady⟩ rmOk_X9_minutesRefused__X9_isReady kM0 iM0 rfl rfl (Nat.le_of_ble_eq_true rfl) dX9_minutesRefused_16 rfl (fun x5 σ4 h => ?_)
    refine q_if_ne C 27 dX9_minutesRefused_19 (by decide) (fun c6 => ?_) (fun c6 => ?_)
    · replace h := h.1 c6
      refine q_aload_n C 0 dX9_minutesRefused_27 rfl ?_
      refine q_getr (T := TX9) C kM0 iM0 inX9_minutesRefused_X9 rfl 12 (by decide) (List.mem_of_getElem? (i := 4) rfl) (fun _ h9 => h9) rfl dX9_minutesRefused_28 ?_
      refine q_iconst (v := (0 : Int32)) C dX9_minutesRefused_31 (by decide) ?_
      refine q_ialdk C 0 (by decide) (by decide) (by decide) kM4 iM4 dX9_minutesRefused_32 ?_
      refine q_sipush (v := (9000 : Int32)) C dX9_minutesRefused_33 (by decide) ?_
      refine q_icmp_le C 44 dX9_minutesRefused_36 (by decide) (fun c7 => ?_) (fun c7 => ?_)
      · replace h := h.1 c7
        refine q_iconst (v := (0 : Int32)) C dX9_minutesRefused_44 (by decide) ?_
        exact q_iret C hQ dX9_minutesRefused_45 h
      · replace h := h.2 c7
        refine q_ldc (v := (-1000000004 : Int32)) C (List.mem_of_getElem? (i := 5) rfl) dX9_minutesRefused_39 ?_
        refine q_goto C 45 dX9_minutesRefused_41 (by decide) ?_
        exact q_iret C hQ dX9_minutesRefused_45 h
    · replace h := h.2 c6
      refine q_ldc (v := (-1000000003 : Int32)) C (List.mem_of_getElem? (i := 3) rfl) dX9_minutesRefused_22 ?_
      refine q_goto C 45 dX9_minutesRefused_24 (by decide) ?_
      exact q_iret C hQ dX9_minutesRefused_45 h
  · replace h := h.2 c3
    refine q_ldc (v := (-1000000002 : Int32)) C (List.mem_of_getElem? (i := 2) rfl) dX9_minutesRefused_12 ?_
    exact q_iret C hQ dX9_minutesRefused_14 h
theorem c_X9_minutesRefused (Y : CY)  (p1 : Int32) (σ : St) (Post : Int32 → St → Prop) (h : w_X9_minutesRefused p1 σ Post) : Ki SM Y yX9_minutesRefused wsX9_minutesRefused rmX9_minutesRefused [.ref (qa Y 0), .int p1] σ Post :=
  Ki_of (cc := cX9_minutesRefused) (nL := 2) (ret := (some .int)) (by decide +kernel) rfl (Nat.le_of_ble_eq_true rfl) (fun Z C hQ => b_X9_minutesRefused C hQ  p1 σ h)
abbrev rmX9_remember : Room := { frames := 0, cells := 0, slots := 0, locals := 0 }
theorem nkX9_remember : NmOk yX9_remember 0 := by decide +kernel
theorem inX9_remember_X9 : ∀ w ∈ u_ws RX9 TX9 47, w ∈ wsX9_remember := fun _ h => List.mem_cons_of_mem _ (List.mem_append_right _ h)
def w_X9_remember_B52 (Post : St → Prop) (K52 : Int32 → St → Prop) (v1 : Int32) (σ : St) : Prop := ((12 : Int32) ≤ v1 → ∀ σ9 : St, σ9 = up σ 0 31 (((σ 0 31) + (1 : Int32))) → Post σ9) ∧ (¬ (12 : Int32) ≤ v1 → (vp_in v1 12) ∧ ((vp_in (((12 : Int32) * (σ 0 31)) + v1) 240) ∧ (∀ σ11 : St, σ11 = up σ 12 (((12 : Int32) * (σ 0 31)) + v1).toNatClampNeg ((σ 4 v1.toNatClampNeg)) → ∀ x12 : Int32, x12 = v1 + (1 : Int32) → K52 x12 σ11)))
def w_X9_remember_L52 (Post : St → Prop) : Nat → Int32 → St → Prop
  | 0 => fun _ _ => False
  | n + 1 => w_X9_remember_B52   Post (w_X9_remember_L52   Post n)
def w_X9_remember_J50 (Post : St → Prop) (σ : St) : Prop := w_X9_remember_L52 Post FU (0 : Int32) σ
def w_X9_remember_B12 (Post : St → Prop) (K12 : Int32 → St → Prop) (v1 : Int32) (σ : St) : Prop := ((240 : Int32) ≤ v1 → ∀ σ3 : St, σ3 = up σ 0 31 (((σ 0 31) - (1 : Int32))) → w_X9_remember_J50 Post σ3) ∧ (¬ (240 : Int32) ≤ v1 → (vp_in v1 240) ∧ ((vp_in (v1 - (12 : Int32)) 240) ∧ (∀ σ5 : St, σ5 = up σ 12 (v1 - (12 : Int32)).toNatClampNeg ((σ 12 v1.toNatClampNeg)) → ∀ x6 : Int32, x6 = v1 + (1 : Int32) → K12 x6 σ5)))
def w_X9_remember_L12 (Post : St → Prop) : Nat → Int32 → St → Prop
  | 0 => fun _ _ => False
  | n + 1 => w_X9_remember_B12   Post (w_X9_remember_L12   Post n)
def w_X9_remember (σ : St) (Post : St → Prop) : Prop := (¬ (σ 0 31) = (20 : Int32) → w_X9_remember_J50 Post σ) ∧ ((σ 0 31) = (20 : Int32) → w_X9_remember_L12 Post FU (12 : Int32) σ)
set_option maxHeartbeats 4000000 in
set_option maxRecDepth 100000 in
theorem b_X9_remember_B52 {Y : CY} {Z : CZ} (C : cx SM 2 Y Z cX9_remember RX9 wsX9_remember none rmX9_remember) {Post : St → Prop} (hQ : Qv SM Y Z Post)  {K52 : Int32 → St → Prop} (hK52 : ∀ (v1 : Int32) (σ : St), K52 v1 σ → WW SM 2 Y Z σ 52 [(0, .ref (qa Y 0)), (1, .int v1)] []) (v1 : Int32) (σ : St) (h : w_X9_remember_B52  Post K52 v1 σ) : WW SM 2 Y Z σ 52 [(0, .ref (qa Y 0)), (1, .int v1)] [] := by
  unfold w_X9_remember_B52 at h
  refine q_iload_n C 1 dX9_remember_52 rfl ?_
  refine q_bipush (v := (12 : Int32)) C dX9_remember_53 (by decide) ?_
  refine q_icmp_ge C 84 dX9_remember_55 (by decide) (fun c8 => ?_) (fun c8 => ?_)
  · replace h := h.1 c8
    refine q_aload_n C 0 dX9_remember_84 rfl ?_
    refine q_dup C dX9_remember_85 rfl ?_
    refine q_geti (T := TX9) C kM0 iM0 inX9_remember_X9 rfl 31 (by decide) (List.mem_of_getElem? (i := 1) rfl) (fun _ h9 => h9) rfl dX9_remember_86 ?_
    refine q_iconst (v := (1 : Int32)) C dX9_remember_89 (by decide) ?_
    refine q_iadd C dX9_remember_90 ?_
    refine q_puti (T := TX9) C kM0 iM0 inX9_remember_X9 rfl tyX9 tyX9_ok nmX9 31 (by decide) (List.mem_of_getElem? (i := 1) rfl) (fun _ h9 => h9) rfl dgM0 rfl (ni_n _) (ni_f _) dX9_remember_91 ?_
    refine q_nmS (fun σ9 eσ9 => ?_)
    replace h := h σ9 eσ9
    exact q_vret C hQ dX9_remember_94 h
  · replace h := h.2 c8
    refine q_aload_n C 0 dX9_remember_58 rfl ?_
    refine q_getr (T := TX9) C kM0 iM0 inX9_remember_X9 rfl 32 (by decide) (List.mem_of_getElem? (i := 2) rfl) (fun _ h9 => h9) rfl dX9_remember_59 ?_
    refine q_bipush (v := (12 : Int32)) C dX9_remember_62 (by decide) ?_
    refine q_aload_n C 0 dX9_remember_64 rfl ?_
    refine q_geti (T := TX9) C kM0 iM0 inX9_remember_X9 rfl 31 (by decide) (List.mem_of_getElem? (i := 1) rfl) (fun _ h9 => h9) rfl dX9_remember_65 ?_
    refine q_imul C dX9_remember_68 ?_
    refine q_iload_n C 1 dX9_remember_69 rfl ?_
    refine q_iadd C dX9_remember_70 ?_
    refine q_aload_n C 0 dX9_remember_71 rfl ?_
    refine q_getr (T := TX9) C kM0 iM0 inX9_remember_X9 rfl 12 (by decide) (List.mem_of_getElem? (i := 3) rfl) (fun _ h9 => h9) rfl dX9_remember_72 ?_
    refine q_iload_n C 1 dX9_remember_75 rfl ?_
    obtain ⟨g10, h⟩ := h
    refine q_iald C kM4 iM4 g10 dX9_remember_76 ?_
    obtain ⟨g13, h⟩ := h
    refine q_iast C kM12 iM12 g13 dX9_remember_77 ?_
    refine q_nmS (fun σ11 eσ11 => ?_)
    replace h := h σ11 eσ11
    obtain ⟨x12, ex12⟩ : ∃ y : Int32, y = v1 + (1 : Int32) := ⟨_, rfl⟩
    replace h := h x12 ex12
    refine q_iinc C x12 1 [(1, .int x12), (0, .ref (qa Y 0))] dX9_remember_78 rfl (by rw [ex12]; rfl) (by decide) rfl ?_
    refine q_goto C 52 dX9_remember_81 (by decide) ?_
    refine q_sub (lv' := [(0, .ref (qa Y 0)), (1, .int x12)]) [1, 0] rfl ?_
    exact hK52 x12 σ11 h
theorem b_X9_remember_L52 {Y : CY} {Z : CZ} (C : cx SM 2 Y Z cX9_remember RX9 wsX9_remember none rmX9_remember) {Post : St → Prop} (hQ : Qv SM Y Z Post)  : ∀ (n : Nat) (v1 : Int32) (σ : St) (h : w_X9_remember_L52  Post n v1 σ), WW SM 2 Y Z σ 52 [(0, .ref (qa Y 0)), (1, .int v1)] [] := by
  intro n
  induction n with
  | zero => intro v1 σ h; exact h.elim
  | succ n ih => intro v1 σ h; exact b_X9_remember_B52 C hQ  ih v1 σ h
set_option maxHeartbeats 4000000 in
set_option maxRecDepth 100000 in
theorem b_X9_remember_J50 {Y : CY} {Z : CZ} (C : cx SM 2 Y Z cX9_remember RX9 wsX9_remember none rmX9_remember) {Post : St → Prop} (hQ : Qv SM Y Z Post)  (σ : St) (h : w_X9_remember_J50  Post σ) : WW SM 2 Y Z σ 50 [(0, .ref (qa Y 0))] [] := by
  unfold w_X9_remember_J50 at h
  refine q_iconst (v := (0 : Int32)) C dX9_remember_50 (by decide) ?_
  refine q_istore_n C [(1, .int (0 : Int32)), (0, .ref (qa Y 0))] dX9_remember_51 (by decide) rfl ?_
  refine q_sub (lv' := [(0, .ref (qa Y 0)), (1, .int (0 : Int32))]) [1, 0] rfl ?_
  exact b_X9_remember_L52 C hQ FU (0 : Int32) σ h
set_option maxHeartbeats 4000000 in
set_option maxRecDepth 100000 in
theorem b_X9_remember_B12 {Y : CY} {Z : CZ} (C : cx SM 2 Y Z cX9_remember RX9 wsX9_remember none rmX9_remember) {Post : St → Prop} (hQ : Qv SM Y Z Post)  {K12 : Int32 → St → Prop} (hK12 : ∀ (v1 : Int32) (σ : St), K12 v1 σ → WW SM 2 Y Z σ 12 [(0, .ref (qa Y 0)), (1, .int v1)] []) (v1 : Int32) (σ : St) (h : w_X9_remember_B12  Post K12 v1 σ) : WW SM 2 Y Z σ 12 [(0, .ref (qa Y 0)), (1, .int v1)] [] := by
  unfold w_X9_remember_B12 at h
  refine q_iload_n C 1 dX9_remember_12 rfl ?_
  refine q_sipush (v := (240 : Int32)) C dX9_remember_13 (by decide) ?_
  refine q_icmp_ge C 40 dX9_remember_16 (by decide) (fun c2 => ?_) (fun c2 => ?_)
  · replace h := h.1 c2
    refine q_aload_n C 0 dX9_remember_40 rfl ?_
    refine q_dup C dX9_remember_41 rfl ?_
    refine q_geti (T := TX9) C kM0 iM0 inX9_remember_X9 rfl 31 (by decide) (List.mem_of_getElem? (i := 1) rfl) (fun _ h9 => h9) rfl dX9_remember_42 ?_
    refine q_iconst (v := (1 : Int32)) C dX9_remember_45 (by decide) ?_
    refine q_isub C dX9_remember_46 ?_
    refine q_puti (T := TX9) C kM0 iM0 inX9_remember_X9 rfl tyX9 tyX9_ok nmX9 31 (by decide) (List.mem_of_getElem? (i := 1) rfl) (fun _ h9 => h9) rfl dgM0 rfl (ni_n _) (ni_f _) dX9_remember_47 ?_
    refine q_nmS (fun σ3 eσ3 => ?_)
    replace h := h σ3 eσ3
    refine q_sub (lv' := [(0, .ref (qa Y 0))]) [0] rfl ?_
    exact b_X9_remember_J50 C hQ σ3 h
  · replace h := h.2 c2
    refine q_aload_n C 0 dX9_remember_19 rfl ?_
    refine q_getr (T := TX9) C kM0 iM0 inX9_remember_X9 rfl 32 (by decide) (List.mem_of_getElem? (i := 2) rfl) (fun _ h9 => h9) rfl dX9_remember_20 ?_
    refine q_iload_n C 1 dX9_remember_23 rfl ?_
    refine q_bipush (v := (12 : Int32)) C dX9_remember_24 (by decide) ?_
    refine q_isub C dX9_remember_26 ?_
    refine q_aload_n C 0 dX9_remember_27 rfl ?_
    refine q_getr (T := TX9) C kM0 iM0 inX9_remember_X9 rfl 32 (by decide) (List.mem_of_getElem? (i := 2) rfl) (fun _ h9 => h9) rfl dX9_remember_28 ?_
    refine q_iload_n C 1 dX9_remember_31 rfl ?_
    obtain ⟨g4, h⟩ := h
    refine q_iald C kM12 iM12 g4 dX9_remember_32 ?_
    obtain ⟨g7, h⟩ := h
    refine q_iast C kM12 iM12 g7 dX9_remember_33 ?_
    refine q_nmS (fun σ5 eσ5 => ?_)
    replace h := h σ5 eσ5
    obtain ⟨x6, ex6⟩ : ∃ y : Int32, y = v1 + (1 : Int32) := ⟨_, rfl⟩
    replace h := h x6 ex6
    refine q_iinc C x6 1 [(1, .int x6), (0, .ref (qa Y 0))] dX9_remember_34 rfl (by rw [ex6]; rfl) (by decide) rfl ?_
    refine q_goto C 12 dX9_remember_37 (by decide) ?_
    refine q_sub (lv' := [(0, .ref (qa Y 0)), (1, .int x6)]) [1, 0] rfl ?_
    exact hK12 x6 σ5 h
theorem b_X9_remember_L12 {Y : CY} {Z : CZ} (C : cx SM 2 Y Z cX9_remember RX9 wsX9_remember none rmX9_remember) {Post : St → Prop} (hQ : Qv SM Y Z Post)  : ∀ (n : Nat) (v1 : Int32) (σ : St) (h : w_X9_remember_L12  Post n v1 σ), WW SM 2 Y Z σ 12 [(0, .ref (qa Y 0)), (1, .int v1)] [] := by
  intro n
  induction n with
  | zero => intro v1 σ h; exact h.elim
  | succ n ih => intro v1 σ h; exact b_X9_remember_B12 C hQ  ih v1 σ h
set_option maxHeartbeats 4000000 in
set_option maxRecDepth 100000 in
theorem b_X9_remember {Y : CY} {Z : CZ} (C : cx SM 2 Y Z cX9_remember RX9 wsX9_remember none rmX9_remember) {Post : St → Prop} (hQ : Qv SM Y Z Post)  (σ : St) (h : w_X9_remember  σ Post) : WW SM 2 Y Z σ 0 [(0, .ref (qa Y 0))] [] := by
  unfold w_X9_remember at h
  refine q_aload_n C 0 dX9_remember_0 rfl ?_
  refine q_geti (T := TX9) C kM0 iM0 inX9_remember_X9 rfl 31 (by decide) (List.mem_of_getElem? (i := 1) rfl) (fun _ h9 => h9) rfl dX9_remember_1 ?_
  refine q_bipush (v := (20 : Int32)) C dX9_remember_4 (by decide) ?_
  refine q_icmp_ne C 50 dX9_remember_6 (by decide) (fun c1 => ?_) (fun c1 => ?_)
  · replace h := h.1 c1
    exact b_X9_remember_J50 C hQ σ h
  · replace h := h.2 c1
    refine q_bipush (v := (12 : Int32)) C dX9_remember_9 (by decide) ?_
    refine q_istore_n C [(1, .int (12 : Int32)), (0, .ref (qa Y 0))] dX9_remember_11 (by decide) rfl ?_
    refine q_sub (lv' := [(0, .ref (qa Y 0)), (1, .int (12 : Int32))]) [1, 0] rfl ?_
    exact b_X9_remember_L12 C hQ FU (12 : Int32) σ h
theorem c_X9_remember (Y : CY)  (σ : St) (Post : St → Prop) (h : w_X9_remember  σ Post) : Kv SM Y yX9_remember wsX9_remember rmX9_remember [.ref (qa Y 0)] σ Post :=
  Kv_of (cc := cX9_remember) (nL := 2) (ret := none) (by decide +kernel) rfl (Nat.le_of_ble_eq_true rfl) (fun Z C hQ => b_X9_remember C hQ  σ h)
abbrev rmX9_drift : Room := { frames := 2, cells := 0, slots := 0, locals := 46 }
theorem nkX9_drift : NmOk yX9_drift 1 := by decide +kernel
theorem rmOk_X9_drift__X9_draw : RmOk rmX9_draw rmX9_drift 2 := ⟨rfl, rfl, by decide, by decide⟩
theorem rmOk_X9_drift__X9_minutesRefused : RmOk rmX9_minutesRefused rmX9_drift 2 := ⟨rfl, rfl, by decide, by decide⟩
theorem rmOk_X9_drift__X9_pass : RmOk rmX9_pass rmX9_drift 2 := ⟨rfl, rfl, by decide, by decide⟩
theorem rmOk_X9_drift__X9_remember : RmOk rmX9_remember rmX9_drift 2 := ⟨rfl, rfl, by decide, by decide⟩
theorem inX9_drift_X9 : ∀ w ∈ u_ws RX9 TX9 47, w ∈ wsX9_drift := fun _ h => List.mem_cons_of_mem _ (List.mem_append_right _ h)
def w_X9_drift_J74 (Post : Int32 → St → Prop) (σ : St) : Prop := Post (((σ 4 1) + (10000 : Int32))) σ
def w_X9_drift_B18 (Post : Int32 → St → Prop) (K18 : Int32 → Int32 → St → Prop) (v1 : Int32) (v3 : Int32) (σ : St) : Prop := (v1 ≤ v3 → w_X9_drift_J74 Post σ) ∧ (¬ v1 ≤ v3 → (¬ (σ 4 5) = 0 → w_X9_drift_J74 Post σ) ∧ ((σ 4 5) = 0 → w_X9_draw (5 : Int32) σ (fun x8 σ7 => ∀ σ9 : St, σ9 = up σ7 4 1 (((σ 4 1) + (x8 - (2 : Int32)))) → w_X9_draw (5 : Int32) σ9 (fun x11 σ10 => ∀ σ12 : St, σ12 = up σ10 4 2 (((σ9 4 2) + (x11 - (2 : Int32)))) → w_X9_pass σ12 (fun σ13 => ∀ x14 : Int32, x14 = v3 + (1 : Int32) → K18 v1 x14 σ13)))))
def w_X9_drift_L18 (Post : Int32 → St → Prop) : Nat → Int32 → Int32 → St → Prop
  | 0 => fun _ _ _ => False
  | n + 1 => w_X9_drift_B18   Post (w_X9_drift_L18   Post n)
def w_X9_drift (p1 : Int32) (σ : St) (Post : Int32 → St → Prop) : Prop := w_X9_minutesRefused p1 σ (fun x2 σ1 => (x2 = 0 → w_X9_remember σ1 (fun σ4 => w_X9_drift_L18 Post FU p1 (0 : Int32) σ4)) ∧ (¬ x2 = 0 → Post x2 σ1))
set_option maxHeartbeats 4000000 in
set_option maxRecDepth 100000 in
theorem b_X9_drift_J74 {Y : CY} {Z : CZ} (C : cx SM 4 Y Z cX9_drift RX9 wsX9_drift (some .int) rmX9_drift) {Post : Int32 → St → Prop} (hQ : Qi SM Y Z Post)  (σ : St) (h : w_X9_drift_J74  Post σ) : WW SM 4 Y Z σ 74 [(0, .ref (qa Y 0))] [] := by
  unfold w_X9_drift_J74 at h
  refine q_aload_n C 0 dX9_drift_74 rfl ?_
  refine q_getr (T := TX9) C kM0 iM0 inX9_drift_X9 rfl 12 (by decide) (List.mem_of_getElem? (i := 1) rfl) (fun _ h9 => h9) rfl dX9_drift_75 ?_
  refine q_iconst (v := (1 : Int32)) C dX9_drift_78 (by decide) ?_
  refine q_ialdk C 1 (by decide) (by decide) (by decide) kM4 iM4 dX9_drift_79 ?_
  refine q_sipush (v := (10000 : Int32)) C dX9_drift_80 (by decide) ?_
  refine q_iadd C dX9_drift_83 ?_
  exact q_iret C hQ dX9_drift_84 h
set_option maxHeartbeats 4000000 in
set_option maxRecDepth 100000 in
theorem b_X9_drift_B18 {Y : CY} {Z : CZ} (C : cx SM 4 Y Z cX9_drift RX9 wsX9_drift (some .int) rmX9_drift) {Post : Int32 → St → Prop} (hQ : Qi SM Y Z Post)  {K18 : Int32 → Int32 → St → Prop} (hK18 : ∀ (v1 : Int32) (v3 : Int32) (σ : St), K18 v1 v3 σ → WW SM 4 Y Z σ 18 [(0, .ref (qa Y 0)), (1, .int v1), (3, .int v3)] []) (v1 : Int32) (v3 : Int32) (σ : St) (h : w_X9_drift_B18  Post K18 v1 v3 σ) : WW SM 4 Y Z σ 18 [(0, .ref (qa Y 0)), (1, .int v1), (3, .int v3)] [] := by
  unfold w_X9_drift_B18 at h
  refine q_iload_n C 2 dX9_drift_18 rfl ?_
  refine q_iload_n C 1 dX9_drift_19 rfl ?_
  refine q_icmp_ge C 74 dX9_drift_20 (by decide) (fun c5 => ?_) (fun c5 => ?_)
  · replace h := h.1 c5
    refine q_sub (lv' := [(0, .ref (qa Y 0))]) [0] rfl ?_
    exact b_X9_drift_J74 C hQ σ h
  · replace h := h.2 c5
    refine q_aload_n C 0 dX9_drift_23 rfl ?_
    refine q_getr (T := TX9) C kM0 iM0 inX9_drift_X9 rfl 12 (by decide) (List.mem_of_getElem? (i := 1) rfl) (fun _ h9 => h9) rfl dX9_drift_24 ?_
    refine q_iconst (v := (5 : Int32)) C dX9_drift_27 (by decide) ?_
    refine q_ialdk C 5 (by decide) (by decide) (by decide) kM4 iM4 dX9_drift_28 ?_
    refine q_if_ne C 74 dX9_drift_29 (by decide) (fun c6 => ?_) (fun c6 => ?_)
    · replace h := h.1 c6
      refine q_sub (lv' := [(0, .ref (qa Y 0))]) [0] rfl ?_
      exact b_X9_drift_J74 C hQ σ h
    · replace h := h.2 c6
      refine q_aload_n C 0 dX9_drift_32 rfl ?_
      refine q_getr (T := TX9) C kM0 iM0 inX9_drift_X9 rfl 12 (by decide) (List.mem_of_getElem? (i := 1) rfl) (fun _ h9 => h9) rfl dX9_drift_33 ?_
      refine q_iconst (v := (1 : Int32)) C dX9_drift_36 (by decide) ?_
      refine q_dup2 C dX9_drift_37 rfl rfl ?_
      refine q_ialdk C 1 (by decide) (by decide) (by decide) kM4 iM4 dX9_drift_38 ?_
      refine q_aload_n C 0 dX9_drift_39 rfl ?_
      refine q_iconst (v := (5 : Int32)) C dX9_drift_40 (by decide) ?_
      refine q_callVi (As := [.int (5 : Int32)]) (st := [.int (σ 4 1), .int (1 : Int32), .ref (qa Y 4)]) C (c_X9_draw Y (5 : Int32) σ _ h) gX9_drift_X9_draw rfl ⟨rfl, nkX9_draw⟩ rmOk_X9_drift__X9_draw kM0 iM0 rfl rfl (Nat.le_of_ble_eq_true rfl) dX9_drift_41 rfl (fun x8 σ7 h => ?_)
      refine q_iconst (v := (2 : Int32)) C dX9_drift_44 (by decide) ?_
      refine q_isub C dX9_drift_45 ?_
      refine q_iadd C dX9_drift_46 ?_
      refine q_iastk C 1 (by decide) (by decide) (by decide) kM4 iM4 dX9_drift_47 ?_
      refine q_nmS (fun σ9 eσ9 => ?_)
      replace h := h σ9 eσ9
      refine q_aload_n C 0 dX9_drift_48 rfl ?_
      refine q_getr (T := TX9) C kM0 iM0 inX9_drift_X9 rfl 12 (by decide) (List.mem_of_getElem? (i := 1) rfl) (fun _ h9 => h9) rfl dX9_drift_49 ?_
      refine q_iconst (v := (2 : Int32)) C dX9_drift_52 (by decide) ?_
      refine q_dup2 C dX9_drift_53 rfl rfl ?_
      refine q_ialdk C 2 (by decide) (by decide) (by decide) kM4 iM4 dX9_drift_54 ?_
      refine q_aload_n C 0 dX9_drift_55 rfl ?_
      refine q_iconst (v := (5 : Int32)) C dX9_drift_56 (by decide) ?_
      refine q_callVi (As := [.int (5 : Int32)]) (st := [.int (σ9 4 2), .int (2 : Int32), .ref (qa Y 4)]) C (c_X9_draw Y (5 : Int32) σ9 _ h) gX9_drift_X9_draw rfl ⟨rfl, nkX9_draw⟩ rmOk_X9_drift__X9_draw kM0 iM0 rfl rfl (Nat.le_of_ble_eq_true rfl) dX9_drift_57 rfl (fun x11 σ10 h => ?_)
      refine q_iconst (v := (2 : Int32)) C dX9_drift_60 (by decide) ?_
      refine q_isub C dX9_drift_61 ?_
      refine q_iadd C dX9_drift_62 ?_
      refine q_iastk C 2 (by decide) (by decide) (by decide) kM4 iM4 dX9_drift_63 ?_
      refine q_nmS (fun σ12 eσ12 => ?_)
      replace h := h σ12 eσ12
      refine q_aload_n C 0 dX9_drift_64 rfl ?_
      refine q_callVv (As := []) (st := []) C (c_X9_pass Y σ12 _ h) gX9_drift_X9_pass rfl ⟨rfl, nkX9_pass⟩ rmOk_X9_drift__X9_pass kM0 iM0 rfl rfl (Nat.le_of_ble_eq_true rfl) dX9_drift_65 rfl (fun σ13 h => ?_)
      obtain ⟨x14, ex14⟩ : ∃ y : Int32, y = v3 + (1 : Int32) := ⟨_, rfl⟩
      replace h := h x14 ex14
      refine q_iinc C x14 2 [(3, .int x14), (0, .ref (qa Y 0)), (1, .int v1)] dX9_drift_68 rfl (by rw [ex14]; rfl) (by decide) rfl ?_
      refine q_goto C 18 dX9_drift_71 (by decide) ?_
      refine q_sub (lv' := [(0, .ref (qa Y 0)), (1, .int v1), (3, .int x14)]) [1, 2, 0] rfl ?_
      exact hK18 v1 x14 σ13 h
theorem b_X9_drift_L18 {Y : CY} {Z : CZ} (C : cx SM 4 Y Z cX9_drift RX9 wsX9_drift (some .int) rmX9_drift) {Post : Int32 → St → Prop} (hQ : Qi SM Y Z Post)  : ∀ (n : Nat) (v1 : Int32) (v3 : Int32) (σ : St) (h : w_X9_drift_L18  Post n v1 v3 σ), WW SM 4 Y Z σ 18 [(0, .ref (qa Y 0)), (1, .int v1), (3, .int v3)] [] := by
  intro n
  induction n with
  | zero => intro v1 v3 σ h; exact h.elim
  | succ n ih => intro v1 v3 σ h; exact b_X9_drift_B18 C hQ  ih v1 v3 σ h
set_option maxHeartbeats 4000000 in
set_option maxRecDepth 100000 in
theorem b_X9_drift {Y : CY} {Z : CZ} (C : cx SM 4 Y Z cX9_drift RX9 wsX9_drift (some .int) rmX9_drift) {Post : Int32 → St → Prop} (hQ : Qi SM Y Z Post)  (p1 : Int32) (σ : St) (h : w_X9_drift p1 σ Post) : WW SM 4 Y Z σ 0 [(0, .ref (qa Y 0)), (1, .int p1)] [] := by
  unfold w_X9_drift at h
  refine q_aload_n C 0 dX9_drift_0 rfl ?_
  refine q_iload_n C 1 dX9_drift_1 rfl ?_
  refine q_callVi (As := [.int p1]) (st := []) C (c_X9_minutesRefused Y p1 σ _ h) gX9_drift_X9_minutesRefused rfl ⟨rfl, nkX9_minutesRefused⟩ rmOk_X9_drift__X9_minutesRefused kM0 iM0 rfl rfl (Nat.le_of_ble_eq_true rfl) dX9_drift_2 rfl (fun x2 σ1 h => ?_)
  refine q_istore_n C [(2, .int x2), (0, .ref (qa Y 0)), (1, .int p1)] dX9_drift_5 (by decide) rfl ?_
  refine q_iload_n C 0 dX9_drift_6 rfl ?_
  refine q_if_eq C 12 dX9_drift_7 (by decide) (fun c3 => ?_) (fun c3 => ?_)
  · replace h := h.1 c3
    refine q_aload_n C 1 dX9_drift_12 rfl ?_
    refine q_callVv (As := []) (st := []) C (c_X9_remember Y σ1 _ h) gX9_drift_X9_remember rfl ⟨rfl, nkX9_remember⟩ rmOk_X9_drift__X9_remember kM0 iM0 rfl rfl (Nat.le_of_ble_eq_true rfl) dX9_drift_13 rfl (fun σ4 h => ?_)
    refine q_iconst (v := (0 : Int32)) C dX9_drift_16 (by decide) ?_
    refine q_istore_n C [(3, .int (0 : Int32)), (2, .int x2), (0, .ref (qa Y 0)), (1, .int p1)] dX9_drift_17 (by decide) rfl ?_
    refine q_sub (lv' := [(0, .ref (qa Y 0)), (1, .int p1), (3, .int (0 : Int32))]) [2, 3, 0] rfl ?_
    exact b_X9_drift_L18 C hQ FU p1 (0 : Int32) σ4 h
  · replace h := h.2 c3
    refine q_iload_n C 0 dX9_drift_10 rfl ?_
    exact q_iret C hQ dX9_drift_11 h
theorem c_X9_drift (Y : CY)  (p1 : Int32) (σ : St) (Post : Int32 → St → Prop) (h : w_X9_drift p1 σ Post) : Ki SM Y yX9_drift wsX9_drift rmX9_drift [.ref (qa Y 0), .int p1] σ Post :=
  Ki_of (cc := cX9_drift) (nL := 4) (ret := (some .int)) (by decide +kernel) rfl (Nat.le_of_ble_eq_true rfl) (fun Z C hQ => b_X9_drift C hQ  p1 σ h)
abbrev rmX9_fails : Room := { frames := 0, cells := 0, slots := 0, locals := 0 }
theorem nkX9_fails : NmOk yX9_fails 2 := by decide +kernel
theorem inX9_fails_X9 : ∀ w ∈ u_ws RX9 TX9 47, w ∈ wsX9_fails := fun _ h => List.mem_cons_of_mem _ (List.mem_append_right _ h)
def w_X9_fails (p1 : Int32) (p2 : Int32) (σ : St) (Post : Int32 → St → Prop) : Prop := ∀ σ1 : St, σ1 = up σ 0 16 p2 → Post p1 σ1
set_option maxHeartbeats 4000000 in
set_option maxRecDepth 100000 in
theorem b_X9_fails {Y : CY} {Z : CZ} (C : cx SM 3 Y Z cX9_fails RX9 wsX9_fails (some .int) rmX9_fails) {Post : Int32 → St → Prop} (hQ : Qi SM Y Z Post)  (p1 : Int32) (p2 : Int32) (σ : St) (h : w_X9_fails p1 p2 σ Post) : WW SM 3 Y Z σ 0 [(0, .ref (qa Y 0)), (1, .int p1), (2, .int p2)] [] := by
  unfold w_X9_fails at h
  refine q_aload_n C 0 dX9_fails_0 rfl ?_
  refine q_iload_n C 2 dX9_fails_1 rfl ?_
  refine q_puti (T := TX9) C kM0 iM0 inX9_fails_X9 rfl tyX9 tyX9_ok nmX9 16 (by decide) (List.mem_of_getElem? (i := 1) rfl) (fun _ h9 => h9) rfl dgM0 rfl (ni_n _) (ni_f _) dX9_fails_2 ?_
  refine q_nmS (fun σ1 eσ1 => ?_)
  replace h := h σ1 eσ1
  refine q_iload_n C 1 dX9_fails_5 rfl ?_
  exact q_iret C hQ dX9_fails_6 h
theorem c_X9_fails (Y : CY)  (p1 : Int32) (p2 : Int32) (σ : St) (Post : Int32 → St → Prop) (h : w_X9_fails p1 p2 σ Post) : Ki SM Y yX9_fails wsX9_fails rmX9_fails [.ref (qa Y 0), .int p1, .int p2] σ Post :=
  Ki_of (cc := cX9_fails) (nL := 3) (ret := (some .int)) (by decide +kernel) rfl (Nat.le_of_ble_eq_true rfl) (fun Z C hQ => b_X9_fails C hQ  p1 p2 σ h)
abbrev rmX9_fault : Room := { frames := 0, cells := 0, slots := 0, locals := 0 }
theorem nkX9_fault : NmOk yX9_fault 0 := by decide +kernel
theorem inX9_fault_X9 : ∀ w ∈ u_ws RX9 TX9 47, w ∈ wsX9_fault := fun _ h => List.mem_cons_of_mem _ (List.mem_append_right _ h)
def w_X9_fault (σ : St) (Post : Int32 → St → Prop) : Prop := Post ((σ 0 16)) σ
set_option maxHeartbeats 4000000 in
set_option maxRecDepth 100000 in
theorem b_X9_fault {Y : CY} {Z : CZ} (C : cx SM 1 Y Z cX9_fault RX9 wsX9_fault (some .int) rmX9_fault) {Post : Int32 → St → Prop} (hQ : Qi SM Y Z Post)  (σ : St) (h : w_X9_fault  σ Post) : WW SM 1 Y Z σ 0 [(0, .ref (qa Y 0))] [] := by
  unfold w_X9_fault at h
  refine q_aload_n C 0 dX9_fault_0 rfl ?_
  refine q_geti (T := TX9) C kM0 iM0 inX9_fault_X9 rfl 16 (by decide) (List.mem_of_getElem? (i := 1) rfl) (fun _ h9 => h9) rfl dX9_fault_1 ?_
  exact q_iret C hQ dX9_fault_4 h
theorem c_X9_fault (Y : CY)  (σ : St) (Post : Int32 → St → Prop) (h : w_X9_fault  σ Post) : Ki SM Y yX9_fault wsX9_fault rmX9_fault [.ref (qa Y 0)] σ Post :=
  Ki_of (cc := cX9_fault) (nL := 1) (ret := (some .int)) (by decide +kernel) rfl (Nat.le_of_ble_eq_true rfl) (fun Z C hQ => b_X9_fault C hQ  σ h)
abbrev rmX9_feed : Room := { frames := 1, cells := 0, slots := 0, locals := 25 }
theorem nkX9_feed : NmOk yX9_feed 1 := by decide +kernel
theorem rmOk_X9_feed__X9_in : RmOk rmX9_in rmX9_feed 6 := ⟨rfl, rfl, by decide, by decide⟩
theorem inX9_feed_X9 : ∀ w ∈ u_ws RX9 TX9 47, w ∈ wsX9_feed := fun _ h => List.mem_cons_of_mem _ (List.mem_append_right _ h)
def w_X9_feed (p1 : Int32) (σ : St) (Post : Int32 → St → Prop) : Prop := w_X9_in (p1.toInt64) (0 : Int64) (255 : Int64) σ (fun x2 σ1 => (¬ x2 = 0 → (¬ (σ1 0 15) = (230 : Int32) → (vp_in (σ1 0 15) 230) ∧ (∀ σ5 : St, σ5 = up σ1 5 (σ1 0 15).toNatClampNeg p1 → ∀ σ6 : St, σ6 = up σ5 0 15 (((σ5 0 15) + (1 : Int32))) → Post ((σ6 0 15)) σ6)) ∧ ((σ1 0 15) = (230 : Int32) → Post (-1000000004 : Int32) σ1)) ∧ (x2 = 0 → Post (-1000000002 : Int32) σ1))
set_option maxHeartbeats 4000000 in
set_option maxRecDepth 100000 in
theorem b_X9_feed {Y : CY} {Z : CZ} (C : cx SM 2 Y Z cX9_feed RX9 wsX9_feed (some .int) rmX9_feed) {Post : Int32 → St → Prop} (hQ : Qi SM Y Z Post)  (p1 : Int32) (σ : St) (h : w_X9_feed p1 σ Post) : WW SM 2 Y Z σ 0 [(0, .ref (qa Y 0)), (1, .int p1)] [] := by
  unfold w_X9_feed at h
  refine q_iload_n C 1 dX9_feed_0 rfl ?_
  refine q_i2l C dX9_feed_1 ?_
  refine q_lconst (v := (0 : Int64)) C dX9_feed_2 (by decide) ?_
  refine q_ldc2 (v := (255 : Int64)) C (List.mem_of_getElem? (i := 1) rfl) dX9_feed_3 ?_
  refine q_callSi (As := [.long p1.toInt64, .long (0 : Int64), .long (255 : Int64)]) (st := []) C (c_X9_in Y (p1.toInt64) (0 : Int64) (255 : Int64) σ _ h) gX9_feed_X9_in rfl nkX9_in rmOk_X9_feed__X9_in rfl (Nat.le_of_ble_eq_true rfl) dX9_feed_6 rfl (fun x2 σ1 h => ?_)
  refine q_if_ne C 15 dX9_feed_9 (by decide) (fun c3 => ?_) (fun c3 => ?_)
  · replace h := h.1 c3
    refine q_aload_n C 0 dX9_feed_15 rfl ?_
    refine q_geti (T := TX9) C kM0 iM0 inX9_feed_X9 rfl 15 (by decide) (List.mem_of_getElem? (i := 3) rfl) (fun _ h9 => h9) rfl dX9_feed_16 ?_
    refine q_sipush (v := (230 : Int32)) C dX9_feed_19 (by decide) ?_
    refine q_icmp_ne C 28 dX9_feed_22 (by decide) (fun c4 => ?_) (fun c4 => ?_)
    · replace h := h.1 c4
      refine q_aload_n C 0 dX9_feed_28 rfl ?_
      refine q_getr (T := TX9) C kM0 iM0 inX9_feed_X9 rfl 14 (by decide) (List.mem_of_getElem? (i := 5) rfl) (fun _ h9 => h9) rfl dX9_feed_29 ?_
      refine q_aload_n C 0 dX9_feed_32 rfl ?_
      refine q_geti (T := TX9) C kM0 iM0 inX9_feed_X9 rfl 15 (by decide) (List.mem_of_getElem? (i := 3) rfl) (fun _ h9 => h9) rfl dX9_feed_33 ?_
      refine q_iload_n C 1 dX9_feed_36 rfl ?_
      obtain ⟨g7, h⟩ := h
      refine q_iast C kM5 iM5 g7 dX9_feed_37 ?_
      refine q_nmS (fun σ5 eσ5 => ?_)
      replace h := h σ5 eσ5
      refine q_aload_n C 0 dX9_feed_38 rfl ?_
      refine q_dup C dX9_feed_39 rfl ?_
      refine q_geti (T := TX9) C kM0 iM0 inX9_feed_X9 rfl 15 (by decide) (List.mem_of_getElem? (i := 3) rfl) (fun _ h9 => h9) rfl dX9_feed_40 ?_
      refine q_iconst (v := (1 : Int32)) C dX9_feed_43 (by decide) ?_
      refine q_iadd C dX9_feed_44 ?_
      refine q_puti (T := TX9) C kM0 iM0 inX9_feed_X9 rfl tyX9 tyX9_ok nmX9 15 (by decide) (List.mem_of_getElem? (i := 3) rfl) (fun _ h9 => h9) rfl dgM0 rfl (ni_n _) (ni_f _) dX9_feed_45 ?_
      refine q_nmS (fun σ6 eσ6 => ?_)
      replace h := h σ6 eσ6
      refine q_aload_n C 0 dX9_feed_48 rfl ?_
      refine q_geti (T := TX9) C kM0 iM0 inX9_feed_X9 rfl 15 (by decide) (List.mem_of_getElem? (i := 3) rfl) (fun _ h9 => h9) rfl dX9_feed_49 ?_
      exact q_iret C hQ dX9_feed_52 h
    · replace h := h.2 c4
      refine q_ldc (v := (-1000000004 : Int32)) C (List.mem_of_getElem? (i := 4) rfl) dX9_feed_25 ?_
      exact q_iret C hQ dX9_feed_27 h
  · replace h := h.2 c3
    refine q_ldc (v := (-1000000002 : Int32)) C (List.mem_of_getElem? (i := 2) rfl) dX9_feed_12 ?_
    exact q_iret C hQ dX9_feed_14 h
theorem c_X9_feed (Y : CY)  (p1 : Int32) (σ : St) (Post : Int32 → St → Prop) (h : w_X9_feed p1 σ Post) : Ki SM Y yX9_feed wsX9_feed rmX9_feed [.ref (qa Y 0), .int p1] σ Post :=
  Ki_of (cc := cX9_feed) (nL := 2) (ret := (some .int)) (by decide +kernel) rfl (Nat.le_of_ble_eq_true rfl) (fun Z C hQ => b_X9_feed C hQ  p1 σ h)
abbrev rmX9_fits : Room := { frames := 2, cells := 0, slots := 0, locals := 46 }
theorem nkX9_fits : NmOk yX9_fits 2 := by decide +kernel
theorem rmOk_X9_fits__X9_doesFit : RmOk rmX9_doesFit rmX9_fits 6 := ⟨rfl, rfl, by decide, by decide⟩
theorem rmOk_X9_fits__X9_in : RmOk rmX9_in rmX9_fits 6 := ⟨rfl, rfl, by decide, by decide⟩
theorem inX9_fits_X9 : ∀ w ∈ u_ws RX9 TX9 47, w ∈ wsX9_fits := fun _ h => List.mem_cons_of_mem _ (List.mem_append_right _ h)
def w_X9_fits_J90 (K38 : Int32 → Int32 → Int32 → Int32 → Int32 → St → Prop) (Post : Int32 → St → Prop) (v1 : Int32) (v2 : Int32) (v4 : Int32) (v5 : Int32) (s0 : Int32) (s1 : Int32) (σ : St) : Prop := ∀ x14 : Int32, x14 = (s1 + s0) → ∀ x15 : Int32, x15 = v5 + (1 : Int32) → K38 v1 v2 x14 v4 x15 σ
def w_X9_fits_J77 (K38 : Int32 → Int32 → Int32 → Int32 → Int32 → St → Prop) (Post : Int32 → St → Prop) (v1 : Int32) (v2 : Int32) (v3 : Int32) (v5 : Int32) (v6 : Int32) (s0 : Int32) (σ : St) : Prop := (v6 = 0 → w_X9_fits_J90 K38 Post v1 v2 s0 v5 (0 : Int32) v3 σ) ∧ (¬ v6 = 0 → w_X9_fits_J90 K38 Post v1 v2 s0 v5 (1 : Int32) v3 σ)
def w_X9_fits_J75 (K38 : Int32 → Int32 → Int32 → Int32 → Int32 → St → Prop) (Post : Int32 → St → Prop) (v1 : Int32) (v2 : Int32) (v3 : Int32) (v4 : Int32) (v5 : Int32) (v6 : Int32) (σ : St) : Prop := w_X9_fits_J77 K38 Post v1 v2 v3 v5 v6 v4 σ
def w_X9_fits_B38 (Post : Int32 → St → Prop) (K38 : Int32 → Int32 → Int32 → Int32 → Int32 → St → Prop) (v1 : Int32) (v2 : Int32) (v3 : Int32) (v4 : Int32) (v5 : Int32) (σ : St) : Prop := ((10 : Int32) ≤ v5 → (¬ v2 = 0 → Post v4 σ) ∧ (v2 = 0 → Post v3 σ)) ∧ (¬ (10 : Int32) ≤ v5 → w_X9_doesFit v1 ((σ 0 4)) v5 σ (fun x10 σ9 => (x10 = 0 → w_X9_fits_J75 K38 Post v1 v2 v3 v4 v5 x10 σ9) ∧ (¬ x10 = 0 → (¬ v3 = 0 → w_X9_fits_J75 K38 Post v1 v2 v3 v4 v5 x10 σ9) ∧ (v3 = 0 → w_X9_fits_J77 K38 Post v1 v2 v3 v5 x10 ((v5 + (9 : Int32))) σ9))))
def w_X9_fits_L38 (Post : Int32 → St → Prop) : Nat → Int32 → Int32 → Int32 → Int32 → Int32 → St → Prop
  | 0 => fun _ _ _ _ _ _ => False
  | n + 1 => w_X9_fits_B38   Post (w_X9_fits_L38   Post n)
def w_X9_fits (p1 : Int32) (p2 : Int32) (σ : St) (Post : Int32 → St → Prop) : Prop := w_X9_in (p1.toInt64) (0 : Int64) (((σ 0 4) - (1 : Int32)).toInt64) σ (fun x2 σ1 => (x2 = 0 → Post (-1000000002 : Int32) σ1) ∧ (¬ x2 = 0 → w_X9_in (p2.toInt64) (0 : Int64) (1 : Int64) σ1 (fun x5 σ4 => (¬ x5 = 0 → w_X9_fits_L38 Post FU p1 p2 (0 : Int32) (-1 : Int32) (-9 : Int32) σ4) ∧ (x5 = 0 → Post (-1000000002 : Int32) σ4))))
set_option maxHeartbeats 4000000 in
set_option maxRecDepth 100000 in
theorem b_X9_fits_J90 {Y : CY} {Z : CZ} (C : cx SM 7 Y Z cX9_fits RX9 wsX9_fits (some .int) rmX9_fits) {Post : Int32 → St → Prop} (hQ : Qi SM Y Z Post)  {K38 : Int32 → Int32 → Int32 → Int32 → Int32 → St → Prop} (hK38 : ∀ (v1 : Int32) (v2 : Int32) (v3 : Int32) (v4 : Int32) (v5 : Int32) (σ : St), K38 v1 v2 v3 v4 v5 σ → WW SM 7 Y Z σ 38 [(0, .ref (qa Y 0)), (1, .int v1), (2, .int v2), (3, .int v3), (4, .int v4), (5, .int v5)] []) (v1 : Int32) (v2 : Int32) (v4 : Int32) (v5 : Int32) (s0 : Int32) (s1 : Int32) (σ : St) (h : w_X9_fits_J90 K38 Post v1 v2 v4 v5 s0 s1 σ) : WW SM 7 Y Z σ 90 [(0, .ref (qa Y 0)), (1, .int v1), (2, .int v2), (4, .int v4), (5, .int v5)] [.int s0, .int s1] := by
  unfold w_X9_fits_J90 at h
  refine q_iadd C dX9_fits_90 ?_
  refine q_topi (fun x14 ex14 => ?_)
  replace h := h x14 ex14
  refine q_istore_n C [(3, .int x14), (0, .ref (qa Y 0)), (1, .int v1), (2, .int v2), (4, .int v4), (5, .int v5)] dX9_fits_91 (by decide) rfl ?_
  obtain ⟨x15, ex15⟩ : ∃ y : Int32, y = v5 + (1 : Int32) := ⟨_, rfl⟩
  replace h := h x15 ex15
  refine q_iinc C x15 5 [(5, .int x15), (3, .int x14), (0, .ref (qa Y 0)), (1, .int v1), (2, .int v2), (4, .int v4)] dX9_fits_92 rfl (by rw [ex15]; rfl) (by decide) rfl ?_
  refine q_goto C 38 dX9_fits_95 (by decide) ?_
  refine q_sub (lv' := [(0, .ref (qa Y 0)), (1, .int v1), (2, .int v2), (3, .int x14), (4, .int v4), (5, .int x15)]) [2, 3, 4, 1, 5, 0] rfl ?_
  exact hK38 v1 v2 x14 v4 x15 σ h
set_option maxHeartbeats 4000000 in
set_option maxRecDepth 100000 in
theorem b_X9_fits_J77 {Y : CY} {Z : CZ} (C : cx SM 7 Y Z cX9_fits RX9 wsX9_fits (some .int) rmX9_fits) {Post : Int32 → St → Prop} (hQ : Qi SM Y Z Post)  {K38 : Int32 → Int32 → Int32 → Int32 → Int32 → St → Prop} (hK38 : ∀ (v1 : Int32) (v2 : Int32) (v3 : Int32) (v4 : Int32) (v5 : Int32) (σ : St), K38 v1 v2 v3 v4 v5 σ → WW SM 7 Y Z σ 38 [(0, .ref (qa Y 0)), (1, .int v1), (2, .int v2), (3, .int v3), (4, .int v4), (5, .int v5)] []) (v1 : Int32) (v2 : Int32) (v3 : Int32) (v5 : Int32) (v6 : Int32) (s0 : Int32) (σ : St) (h : w_X9_fits_J77 K38 Post v1 v2 v3 v5 v6 s0 σ) : WW SM 7 Y Z σ 77 [(0, .ref (qa Y 0)), (1, .int v1), (2, .int v2), (3, .int v3), (5, .int v5), (6, .int v6)] [.int s0] := by
  unfold w_X9_fits_J77 at h
  refine q_istore C [(4, .int s0), (0, .ref (qa Y 0)), (1, .int v1), (2, .int v2), (3, .int v3), (5, .int v5), (6, .int v6)] dX9_fits_77 (by decide) rfl ?_
  refine q_iload_n C 4 dX9_fits_79 rfl ?_
  refine q_iload C 6 dX9_fits_80 rfl ?_
  refine q_if_eq C 89 dX9_fits_82 (by decide) (fun c13 => ?_) (fun c13 => ?_)
  · replace h := h.1 c13
    refine q_iconst (v := (0 : Int32)) C dX9_fits_89 (by decide) ?_
    refine q_sub (lv' := [(0, .ref (qa Y 0)), (1, .int v1), (2, .int v2), (4, .int s0), (5, .int v5)]) [1, 2, 3, 0, 5] rfl ?_
    exact b_X9_fits_J90 C hQ hK38 v1 v2 s0 v5 (0 : Int32) v3 σ h
  · replace h := h.2 c13
    refine q_iconst (v := (1 : Int32)) C dX9_fits_85 (by decide) ?_
    refine q_goto C 90 dX9_fits_86 (by decide) ?_
    refine q_sub (lv' := [(0, .ref (qa Y 0)), (1, .int v1), (2, .int v2), (4, .int s0), (5, .int v5)]) [1, 2, 3, 0, 5] rfl ?_
    exact b_X9_fits_J90 C hQ hK38 v1 v2 s0 v5 (1 : Int32) v3 σ h
set_option maxHeartbeats 4000000 in
set_option maxRecDepth 100000 in
theorem b_X9_fits_J75 {Y : CY} {Z : CZ} (C : cx SM 7 Y Z cX9_fits RX9 wsX9_fits (some .int) rmX9_fits) {Post : Int32 → St → Prop} (hQ : Qi SM Y Z Post)  {K38 : Int32 → Int32 → Int32 → Int32 → Int32 → St → Prop} (hK38 : ∀ (v1 : Int32) (v2 : Int32) (v3 : Int32) (v4 : Int32) (v5 : Int32) (σ : St), K38 v1 v2 v3 v4 v5 σ → WW SM 7 Y Z σ 38 [(0, .ref (qa Y 0)), (1, .int v1), (2, .int v2), (3, .int v3), (4, .int v4), (5, .int v5)] []) (v1 : Int32) (v2 : Int32) (v3 : Int32) (v4 : Int32) (v5 : Int32) (v6 : Int32) (σ : St) (h : w_X9_fits_J75 K38 Post v1 v2 v3 v4 v5 v6 σ) : WW SM 7 Y Z σ 75 [(0, .ref (qa Y 0)), (1, .int v1), (2, .int v2), (3, .int v3), (4, .int v4), (5, .int v5), (6, .int v6)] [] := by
  unfold w_X9_fits_J75 at h
  refine q_iload C 4 dX9_fits_75 rfl ?_
  refine q_sub (lv' := [(0, .ref (qa Y 0)), (1, .int v1), (2, .int v2), (3, .int v3), (5, .int v5), (6, .int v6)]) [0, 1, 2, 3, 5, 6] rfl ?_
  exact b_X9_fits_J77 C hQ hK38 v1 v2 v3 v5 v6 v4 σ h
set_option maxHeartbeats 4000000 in
set_option maxRecDepth 100000 in
theorem b_X9_fits_B38 {Y : CY} {Z : CZ} (C : cx SM 7 Y Z cX9_fits RX9 wsX9_fits (some .int) rmX9_fits) {Post : Int32 → St → Prop} (hQ : Qi SM Y Z Post)  {K38 : Int32 → Int32 → Int32 → Int32 → Int32 → St → Prop} (hK38 : ∀ (v1 : Int32) (v2 : Int32) (v3 : Int32) (v4 : Int32) (v5 : Int32) (σ : St), K38 v1 v2 v3 v4 v5 σ → WW SM 7 Y Z σ 38 [(0, .ref (qa Y 0)), (1, .int v1), (2, .int v2), (3, .int v3), (4, .int v4), (5, .int v5)] []) (v1 : Int32) (v2 : Int32) (v3 : Int32) (v4 : Int32) (v5 : Int32) (σ : St) (h : w_X9_fits_B38  Post K38 v1 v2 v3 v4 v5 σ) : WW SM 7 Y Z σ 38 [(0, .ref (qa Y 0)), (1, .int v1), (2, .int v2), (3, .int v3), (4, .int v4), (5, .int v5)] [] := by
  unfold w_X9_fits_B38 at h
  refine q_iload C 5 dX9_fits_38 rfl ?_
  refine q_bipush (v := (10 : Int32)) C dX9_fits_40 (by decide) ?_
  refine q_icmp_ge C 98 dX9_fits_42 (by decide) (fun c7 => ?_) (fun c7 => ?_)
  · replace h := h.1 c7
    refine q_iload_n C 2 dX9_fits_98 rfl ?_
    refine q_if_ne C 106 dX9_fits_99 (by decide) (fun c8 => ?_) (fun c8 => ?_)
    · replace h := h.1 c8
      refine q_iload C 4 dX9_fits_106 rfl ?_
      exact q_iret C hQ dX9_fits_108 h
    · replace h := h.2 c8
      refine q_iload_n C 3 dX9_fits_102 rfl ?_
      refine q_goto C 108 dX9_fits_103 (by decide) ?_
      exact q_iret C hQ dX9_fits_108 h
  · replace h := h.2 c7
    refine q_aload_n C 0 dX9_fits_45 rfl ?_
    refine q_iload_n C 1 dX9_fits_46 rfl ?_
    refine q_aload_n C 0 dX9_fits_47 rfl ?_
    refine q_geti (T := TX9) C kM0 iM0 inX9_fits_X9 rfl 4 (by decide) (List.mem_of_getElem? (i := 1) rfl) (fun _ h9 => h9) rfl dX9_fits_48 ?_
    refine q_iload C 5 dX9_fits_51 rfl ?_
    refine q_callVi (As := [.int v1, .int (σ 0 4), .int v5]) (st := []) C (c_X9_doesFit Y v1 ((σ 0 4)) v5 σ _ h) gX9_fits_X9_doesFit rfl ⟨rfl, nkX9_doesFit⟩ rmOk_X9_fits__X9_doesFit kM0 iM0 rfl rfl (Nat.le_of_ble_eq_true rfl) dX9_fits_53 rfl (fun x10 σ9 h => ?_)
    refine q_istore C [(6, .int x10), (0, .ref (qa Y 0)), (1, .int v1), (2, .int v2), (3, .int v3), (4, .int v4), (5, .int v5)] dX9_fits_56 (by decide) rfl ?_
    refine q_iload C 0 dX9_fits_58 rfl ?_
    refine q_if_eq C 75 dX9_fits_60 (by decide) (fun c11 => ?_) (fun c11 => ?_)
    · replace h := h.1 c11
      refine q_sub (lv' := [(0, .ref (qa Y 0)), (1, .int v1), (2, .int v2), (3, .int v3), (4, .int v4), (5, .int v5), (6, .int x10)]) [1, 2, 3, 4, 5, 6, 0] rfl ?_
      exact b_X9_fits_J75 C hQ hK38 v1 v2 v3 v4 v5 x10 σ9 h
    · replace h := h.2 c11
      refine q_iload_n C 4 dX9_fits_63 rfl ?_
      refine q_if_ne C 75 dX9_fits_64 (by decide) (fun c12 => ?_) (fun c12 => ?_)
      · replace h := h.1 c12
        refine q_sub (lv' := [(0, .ref (qa Y 0)), (1, .int v1), (2, .int v2), (3, .int v3), (4, .int v4), (5, .int v5), (6, .int x10)]) [1, 2, 3, 4, 5, 6, 0] rfl ?_
        exact b_X9_fits_J75 C hQ hK38 v1 v2 v3 v4 v5 x10 σ9 h
      · replace h := h.2 c12
        refine q_iload C 6 dX9_fits_67 rfl ?_
        refine q_bipush (v := (9 : Int32)) C dX9_fits_69 (by decide) ?_
        refine q_iadd C dX9_fits_71 ?_
        refine q_goto C 77 dX9_fits_72 (by decide) ?_
        refine q_sub (lv' := [(0, .ref (qa Y 0)), (1, .int v1), (2, .int v2), (3, .int v3), (5, .int v5), (6, .int x10)]) [1, 2, 3, 4, 6, 0] rfl ?_
        exact b_X9_fits_J77 C hQ hK38 v1 v2 v3 v5 x10 ((v5 + (9 : Int32))) σ9 h
theorem b_X9_fits_L38 {Y : CY} {Z : CZ} (C : cx SM 7 Y Z cX9_fits RX9 wsX9_fits (some .int) rmX9_fits) {Post : Int32 → St → Prop} (hQ : Qi SM Y Z Post)  : ∀ (n : Nat) (v1 : Int32) (v2 : Int32) (v3 : Int32) (v4 : Int32) (v5 : Int32) (σ : St) (h : w_X9_fits_L38  Post n v1 v2 v3 v4 v5 σ), WW SM 7 Y Z σ 38 [(0, .ref (qa Y 0)), (1, .int v1), (2, .int v2), (3, .int v3), (4, .int v4), (5, .int v5)] [] := by
  intro n
  induction n with
  | zero => intro v1 v2 v3 v4 v5 σ h; exact h.elim
  | succ n ih => intro v1 v2 v3 v4 v5 σ h; exact b_X9_fits_B38 C hQ  ih v1 v2 v3 v4 v5 σ h
set_option maxHeartbeats 4000000 in
set_option maxRecDepth 100000 in
theorem b_X9_fits {Y : CY} {Z : CZ} (C : cx SM 7 Y Z cX9_fits RX9 wsX9_fits (some .int) rmX9_fits) {Post : Int32 → St → Prop} (hQ : Qi SM Y Z Post)  (p1 : Int32) (p2 : Int32) (σ : St) (h : w_X9_fits p1 p2 σ Post) : WW SM 7 Y Z σ 0 [(0, .ref (qa Y 0)), (1, .int p1), (2, .int p2)] [] := by
  unfold w_X9_fits at h
  refine q_iload_n C 1 dX9_fits_0 rfl ?_
  refine q_i2l C dX9_fits_1 ?_
  refine q_lconst (v := (0 : Int64)) C dX9_fits_2 (by decide) ?_
  refine q_aload_n C 0 dX9_fits_3 rfl ?_
  refine q_geti (T := TX9) C kM0 iM0 inX9_fits_X9 rfl 4 (by decide) (List.mem_of_getElem? (i := 1) rfl) (fun _ h9 => h9) rfl dX9_fits_4 ?_
  refine q_iconst (v := (1 : Int32)) C dX9_fits_7 (by decide) ?_
  refine q_isub C dX9_fits_8 ?_
  refine q_i2l C dX9_fits_9 ?_
  refine q_callSi (As := [.long p1.toInt64, .long (0 : Int64), .long ((σ 0 4) - (1 : Int32)).toInt64]) (st := []) C (c_X9_in Y (p1.toInt64) (0 : Int64) (((σ 0 4) - (1 : Int32)).toInt64) σ _ h) gX9_fits_X9_in rfl nkX9_in rmOk_X9_fits__X9_in rfl (Nat.le_of_ble_eq_true rfl) dX9_fits_10 rfl (fun x2 σ1 h => ?_)
  refine q_if_eq C 26 dX9_fits_13 (by decide) (fun c3 => ?_) (fun c3 => ?_)
  · replace h := h.1 c3
    refine q_ldc (v := (-1000000002 : Int32)) C (List.mem_of_getElem? (i := 2) rfl) dX9_fits_26 ?_
    exact q_iret C hQ dX9_fits_28 h
  · replace h := h.2 c3
    refine q_iload_n C 2 dX9_fits_16 rfl ?_
    refine q_i2l C dX9_fits_17 ?_
    refine q_lconst (v := (0 : Int64)) C dX9_fits_18 (by decide) ?_
    refine q_lconst (v := (1 : Int64)) C dX9_fits_19 (by decide) ?_
    refine q_callSi (As := [.long p2.toInt64, .long (0 : Int64), .long (1 : Int64)]) (st := []) C (c_X9_in Y (p2.toInt64) (0 : Int64) (1 : Int64) σ1 _ h) gX9_fits_X9_in rfl nkX9_in rmOk_X9_fits__X9_in rfl (Nat.le_of_ble_eq_true rfl) dX9_fits_20 rfl (fun x5 σ4 h => ?_)
    refine q_if_ne C 29 dX9_fits_23 (by decide) (fun c6 => ?_) (fun c6 => ?_)
    · replace h := h.1 c6
      refine q_iconst (v := (0 : Int32)) C dX9_fits_29 (by decide) ?_
      refine q_istore_n C [(3, .int (0 : Int32)), (0, .ref (qa Y 0)), (1, .int p1), (2, .int p2)] dX9_fits_30 (by decide) rfl ?_
      refine q_iconst (v := (-1 : Int32)) C dX9_fits_31 (by decide) ?_
      refine q_istore C [(4, .int (-1 : Int32)), (3, .int (0 : Int32)), (0, .ref (qa Y 0)), (1, .int p1), (2, .int p2)] dX9_fits_32 (by decide) rfl ?_
      refine q_bipush (v := (-9 : Int32)) C dX9_fits_34 (by decide) ?_
      refine q_istore C [(5, .int (-9 : Int32)), (4, .int (-1 : Int32)), (3, .int (0 : Int32)), (0, .ref (qa Y 0)), (1, .int p1), (2, .int p2)] dX9_fits_36 (by decide) rfl ?_
      refine q_sub (lv' := [(0, .ref (qa Y 0)), (1, .int p1), (2, .int p2), (3, .int (0 : Int32)), (4, .int (-1 : Int32)), (5, .int (-9 : Int32))]) [3, 4, 5, 2, 1, 0] rfl ?_
      exact b_X9_fits_L38 C hQ FU p1 p2 (0 : Int32) (-1 : Int32) (-9 : Int32) σ4 h
    · replace h := h.2 c6
      refine q_ldc (v := (-1000000002 : Int32)) C (List.mem_of_getElem? (i := 2) rfl) dX9_fits_26 ?_
      exact q_iret C hQ dX9_fits_28 h
theorem c_X9_fits (Y : CY)  (p1 : Int32) (p2 : Int32) (σ : St) (Post : Int32 → St → Prop) (h : w_X9_fits p1 p2 σ Post) : Ki SM Y yX9_fits wsX9_fits rmX9_fits [.ref (qa Y 0), .int p1, .int p2] σ Post :=
  Ki_of (cc := cX9_fits) (nL := 7) (ret := (some .int)) (by decide +kernel) rfl (Nat.le_of_ble_eq_true rfl) (fun Z C hQ => b_X9_fits C hQ  p1 p2 σ h)
abbrev rmX9_goBack : Room := { frames := 1, cells := 0, slots := 0, locals := 25 }
theorem nkX9_goBack : NmOk yX9_goBack 1 := by decide +kernel
theorem rmOk_X9_goBack__X9_in : RmOk rmX9_in rmX9_goBack 6 := ⟨rfl, rfl, by decide, by decide⟩
theorem inX9_goBack_X9 : ∀ w ∈ u_ws RX9 TX9 47, w ∈ wsX9_goBack := fun _ h => List.mem_cons_of_mem _ (List.mem_append_right _ h)
def w_X9_goBack_B27 (Post : Int32 → St → Prop) (K27 : Int32 → Int32 → St → Prop) (v1 : Int32) (v2 : Int32) (σ : St) : Prop := ((12 : Int32) ≤ v2 → (vp_in (((13 : Int32) * v1) + (12 : Int32)) 26) ∧ (∀ σ8 : St, σ8 = up σ 0 13 ((σ 21 (((13 : Int32) * v1) + (12 : Int32)).toNatClampNeg)) → ∀ σ9 : St, σ9 = up σ8 0 31 (0 : Int32) → Post (1 : Int32) σ9)) ∧ (¬ (12 : Int32) ≤ v2 → (vp_in (((13 : Int32) * v1) + v2) 26) ∧ ((vp_in v2 12) ∧ (∀ σ11 : St, σ11 = up σ 4 v2.toNatClampNeg ((σ 21 (((13 : Int32) * v1) + v2).toNatClampNeg)) → ∀ x12 : Int32, x12 = v2 + (1 : Int32) → K27 v1 x12 σ11)))
def w_X9_goBack_L27 (Post : Int32 → St → Prop) : Nat → Int32 → Int32 → St → Prop
  | 0 => fun _ _ _ => False
  | n + 1 => w_X9_goBack_B27   Post (w_X9_goBack_L27   Post n)
def w_X9_goBack (p1 : Int32) (σ : St) (Post : Int32 → St → Prop) : Prop := w_X9_in (p1.toInt64) (0 : Int64) (1 : Int64) σ (fun x2 σ1 => (¬ x2 = 0 → (vp_in p1 2) ∧ ((¬ (σ1 22 p1.toNatClampNeg) = 0 → w_X9_goBack_L27 Post FU p1 (0 : Int32) σ1) ∧ ((σ1 22 p1.toNatClampNeg) = 0 → Post (-1000000003 : Int32) σ1))) ∧ (x2 = 0 → Post (-1000000001 : Int32) σ1))
set_option maxHeartbeats 4000000 in
set_option maxRecDepth 100000 in
theorem b_X9_goBack_B27 {Y : CY} {Z : CZ} (C : cx SM 3 Y Z cX9_goBack RX9 wsX9_goBack (some .int) rmX9_goBack) {Post : Int32 → St → Prop} (hQ : Qi SM Y Z Post)  {K27 : Int32 → Int32 → St → Prop} (hK27 : ∀ (v1 : Int32) (v2 : Int32) (σ : St), K27 v1 v2 σ → WW SM 3 Y Z σ 27 [(0, .ref (qa Y 0)), (1, .int v1), (2, .int v2)] []) (v1 : Int32) (v2 : Int32) (σ : St) (h : w_X9_goBack_B27  Post K27 v1 v2 σ) : WW SM 3 Y Z σ 27 [(0, .ref (qa Y 0)), (1, .int v1), (2, .int v2)] [] := by
  unfold w_X9_goBack_B27 at h
  refine q_iload_n C 2 dX9_goBack_27 rfl ?_
  refine q_bipush (v := (12 : Int32)) C dX9_goBack_28 (by decide) ?_
  refine q_icmp_ge C 56 dX9_goBack_30 (by decide) (fun c6 => ?_) (fun c6 => ?_)
  · replace h := h.1 c6
    refine q_aload_n C 0 dX9_goBack_56 rfl ?_
    refine q_aload_n C 0 dX9_goBack_57 rfl ?_
    refine q_getr (T := TX9) C kM0 iM0 inX9_goBack_X9 rfl 45 (by decide) (List.mem_of_getElem? (i := 5) rfl) (fun _ h9 => h9) rfl dX9_goBack_58 ?_
    refine q_bipush (v := (13 : Int32)) C dX9_goBack_61 (by decide) ?_
    refine q_iload_n C 1 dX9_goBack_63 rfl ?_
    refine q_imul C dX9_goBack_64 ?_
    refine q_bipush (v := (12 : Int32)) C dX9_goBack_65 (by decide) ?_
    refine q_iadd C dX9_goBack_67 ?_
    obtain ⟨g7, h⟩ := h
    refine q_iald C kM21 iM21 g7 dX9_goBack_68 ?_
    refine q_puti (T := TX9) C kM0 iM0 inX9_goBack_X9 rfl tyX9 tyX9_ok nmX9 13 (by decide) (List.mem_of_getElem? (i := 6) rfl) (fun _ h9 => h9) rfl dgM0 rfl (ni_n _) (ni_f _) dX9_goBack_69 ?_
    refine q_nmS (fun σ8 eσ8 => ?_)
    replace h := h σ8 eσ8
    refine q_aload_n C 0 dX9_goBack_72 rfl ?_
    refine q_iconst (v := (0 : Int32)) C dX9_goBack_73 (by decide) ?_
    refine q_puti (T := TX9) C kM0 iM0 inX9_goBack_X9 rfl tyX9 tyX9_ok nmX9 31 (by decide) (List.mem_of_getElem? (i := 7) rfl) (fun _ h9 => h9) rfl dgM0 rfl (ni_n _) (ni_f _) dX9_goBack_74 ?_
    refine q_nmS (fun σ9 eσ9 => ?_)
    replace h := h σ9 eσ9
    refine q_iconst (v := (1 : Int32)) C dX9_goBack_77 (by decide) ?_
    exact q_iret C hQ dX9_goBack_78 h
  · replace h := h.2 c6
    refine q_aload_n C 0 dX9_goBack_33 rfl ?_
    refine q_getr (T := TX9) C kM0 iM0 inX9_goBack_X9 rfl 12 (by decide) (List.mem_of_getElem? (i := 4) rfl) (fun _ h9 => h9) rfl dX9_goBack_34 ?_
    refine q_iload_n C 2 dX9_goBack_37 rfl ?_
    refine q_aload_n C 0 dX9_goBack_38 rfl ?_
    refine q_getr (T := TX9) C kM0 iM0 inX9_goBack_X9 rfl 45 (by decide) (List.mem_of_getElem? (i := 5) rfl) (fun _ h9 => h9) rfl dX9_goBack_39 ?_
    refine q_bipush (v := (13 : Int32)) C dX9_goBack_42 (by decide) ?_
    refine q_iload_n C 1 dX9_goBack_44 rfl ?_
    refine q_imul C dX9_goBack_45 ?_
    refine q_iload_n C 2 dX9_goBack_46 rfl ?_
    refine q_iadd C dX9_goBack_47 ?_
    obtain ⟨g10, h⟩ := h
    refine q_iald C kM21 iM21 g10 dX9_goBack_48 ?_
    obtain ⟨g13, h⟩ := h
    refine q_iast C kM4 iM4 g13 dX9_goBack_49 ?_
    refine q_nmS (fun σ11 eσ11 => ?_)
    replace h := h σ11 eσ11
    obtain ⟨x12, ex12⟩ : ∃ y : Int32, y = v2 + (1 : Int32) := ⟨_, rfl⟩
    replace h := h x12 ex12
    refine q_iinc C x12 2 [(2, .int x12), (0, .ref (qa Y 0)), (1, .int v1)] dX9_goBack_50 rfl (by rw [ex12]; rfl) (by decide) rfl ?_
    refine q_goto C 27 dX9_goBack_53 (by decide) ?_
    refine q_sub (lv' := [(0, .ref (qa Y 0)), (1, .int v1), (2, .int x12)]) [1, 2, 0] rfl ?_
    exact hK27 v1 x12 σ11 h
theorem b_X9_goBack_L27 {Y : CY} {Z : CZ} (C : cx SM 3 Y Z cX9_goBack RX9 wsX9_goBack (some .int) rmX9_goBack) {Post : Int32 → St → Prop} (hQ : Qi SM Y Z Post)  : ∀ (n : Nat) (v1 : Int32) (v2 : Int32) (σ : St) (h : w_X9_goBack_L27  Post n v1 v2 σ), WW SM 3 Y Z σ 27 [(0, .ref (qa Y 0)), (1, .int v1), (2, .int v2)] [] := by
  intro n
  induction n with
  | zero => intro v1 v2 σ h; exact h.elim
  | succ n ih => intro v1 v2 σ h; exact b_X9_goBack_B27 C hQ  ih v1 v2 σ h
set_option maxHeartbeats 4000000 in
set_option maxRecDepth 100000 in
theorem b_X9_goBack {Y : CY} {Z : CZ} (C : cx SM 3 Y Z cX9_goBack RX9 wsX9_goBack (some .int) rmX9_goBack) {Post : Int32 → St → Prop} (hQ : Qi SM Y Z Post)  (p1 : Int32) (σ : St) (h : w_X9_goBack p1 σ Post) : WW SM 3 Y Z σ 0 [(0, .ref (qa Y 0)), (1, .int p1)] [] := by
  unfold w_X9_goBack at h
  refine q_iload_n C 1 dX9_goBack_0 rfl ?_
  refine q_i2l C dX9_goBack_1 ?_
  refine q_lconst (v := (0 : Int64)) C dX9_goBack_2 (by decide) ?_
  refine q_lconst (v := (1 : Int64)) C dX9_goBack_3 (by decide) ?_
  refine q_callSi (As := [.long p1.toInt64, .long (0 : Int64), .long (1 : Int64)]) (st := []) C (c_X9_in Y (p1.toInt64) (0 : Int64) (1 : Int64) σ _ h) gX9_goBack_X9_in rfl nkX9_in rmOk_X9_goBack__X9_in rfl (Nat.le_of_ble_eq_true rfl) dX9_goBack_4 rfl (fun x2 σ1 h => ?_)
  refine q_if_ne C 13 dX9_goBack_7 (by decide) (fun c3 => ?_) (fun c3 => ?_)
  · replace h := h.1 c3
    refine q_aload_n C 0 dX9_goBack_13 rfl ?_
    refine q_getr (T := TX9) C kM0 iM0 inX9_goBack_X9 rfl 46 (by decide) (List.mem_of_getElem? (i := 2) rfl) (fun _ h9 => h9) rfl dX9_goBack_14 ?_
    refine q_iload_n C 1 dX9_goBack_17 rfl ?_
    obtain ⟨g4, h⟩ := h
    refine q_zald C kM22 iM22 g4 dX9_goBack_18 ?_
    refine q_if_ne C 25 dX9_goBack_19 (by decide) (fun c5 => ?_) (fun c5 => ?_)
    · replace h := h.1 c5
      refine q_iconst (v := (0 : Int32)) C dX9_goBack_25 (by decide) ?_
      refine q_istore_n C [(2, .int (0 : Int32)), (0, .ref (qa Y 0)), (1, .int p1)] dX9_goBack_26 (by decide) rfl ?_
      refine q_sub (lv' := [(0, .ref (qa Y 0)), (1, .int p1), (2, .int (0 : Int32))]) [1, 2, 0] rfl ?_
      exact b_X9_goBack_L27 C hQ FU p1 (0 : Int32) σ1 h
    · replace h := h.2 c5
      refine q_ldc (v := (-1000000003 : Int32)) C (List.mem_of_getElem? (i := 3) rfl) dX9_goBack_22 ?_
      exact q_iret C hQ dX9_goBack_24 h
  · replace h := h.2 c3
    refine q_ldc (v := (-1000000001 : Int32)) C (List.mem_of_getElem? (i := 1) rfl) dX9_goBack_10 ?_
    exact q_iret C hQ dX9_goBack_12 h
theorem c_X9_goBack (Y : CY)  (p1 : Int32) (σ : St) (Post : Int32 → St → Prop) (h : w_X9_goBack p1 σ Post) : Ki SM Y yX9_goBack wsX9_goBack rmX9_goBack [.ref (qa Y 0), .int p1] σ Post :=
  Ki_of (cc := cX9_goBack) (nL := 3) (ret := (some .int)) (by decide +kernel) rfl (Nat.le_of_ble_eq_true rfl) (fun Z C hQ => b_X9_goBack C hQ  p1 σ h)
abbrev rmX9_guide : Room := { frames := 1, cells := 0, slots := 0, locals := 25 }
theorem nkX9_guide : NmOk yX9_guide 1 := by decide +kernel
theorem rmOk_X9_guide__X9_in : RmOk rmX9_in rmX9_guide 6 := ⟨rfl, rfl, by decide, by decide⟩
theorem inX9_guide_X9 : ∀ w ∈ u_ws RX9 TX9 47, w ∈ wsX9_guide := fun _ h => List.mem_cons_of_mem _ (List.mem_append_right _ h)
def w_X9_guide_J103 (K19 : Int32 → Int32 → Int32 → St → Prop) (Post : Int32 → St → Prop) (v1 : Int32) (v3 : Int32) (s0 : Int32) (σ : St) : Prop := ∀ x18 : Int32, x18 = v3 + (1 : Int32) → K19 v1 s0 x18 σ
def w_X9_guide_J102 (K19 : Int32 → Int32 → Int32 → St → Prop) (Post : Int32 → St → Prop) (v1 : Int32) (v2 : Int32) (v3 : Int32) (σ : St) : Prop := w_X9_guide_J103 K19 Post v1 v3 v2 σ
def w_X9_guide_J81 (K19 : Int32 → Int32 → Int32 → St → Prop) (Post : Int32 → St → Prop) (v1 : Int32) (v2 : Int32) (v3 : Int32) (s0 : Int32) (σ : St) : Prop := (vp_in v3 6) ∧ (((σ 3 v3.toNatClampNeg) < v1 → w_X9_guide_J102 K19 Post v1 v2 v3 σ) ∧ (¬ (σ 3 v3.toNatClampNeg) < v1 → (s0 = 0 → w_X9_guide_J102 K19 Post v1 v2 v3 σ) ∧ (¬ s0 = 0 → w_X9_guide_J103 K19 Post v1 v3 v3 σ)))
def w_X9_guide_J76 (K19 : Int32 → Int32 → Int32 → St → Prop) (Post : Int32 → St → Prop) (v1 : Int32) (v2 : Int32) (v3 : Int32) (σ : St) : Prop := w_X9_guide_J81 K19 Post v1 v2 v3 (1 : Int32) σ
def w_X9_guide_J80 (K19 : Int32 → Int32 → Int32 → St → Prop) (Post : Int32 → St → Prop) (v1 : Int32) (v2 : Int32) (v3 : Int32) (σ : St) : Prop := w_X9_guide_J81 K19 Post v1 v2 v3 (0 : Int32) σ
def w_X9_guide_B19 (Post : Int32 → St → Prop) (K19 : Int32 → Int32 → Int32 → St → Prop) (v1 : Int32) (v2 : Int32) (v3 : Int32) (σ : St) : Prop := ((σ 0 9) ≤ v3 → Post v2 σ) ∧ (¬ (σ 0 9) ≤ v3 → (v2 < 0 → w_X9_guide_J76 K19 Post v1 v2 v3 σ) ∧ (¬ v2 < 0 → (vp_in v3 6) ∧ ((vp_in v2 6) ∧ (((σ 2 v3.toNatClampNeg) < (σ 2 v2.toNatClampNeg) → w_X9_guide_J76 K19 Post v1 v2 v3 σ) ∧ (¬ (σ 2 v3.toNatClampNeg) < (σ 2 v2.toNatClampNeg) → (vp_in v3 6) ∧ ((vp_in v2 6) ∧ ((¬ (σ 2 v3.toNatClampNeg) = (σ 2 v2.toNatClampNeg) → w_X9_guide_J80 K19 Post v1 v2 v3 σ) ∧ ((σ 2 v3.toNatClampNeg) = (σ 2 v2.toNatClampNeg) → (vp_in v3 6) ∧ ((vp_in v2 6) ∧ (((σ 3 v3.toNatClampNeg) ≤ (σ 3 v2.toNatClampNeg) → w_X9_guide_J80 K19 Post v1 v2 v3 σ) ∧ (¬ (σ 3 v3.toNatClampNeg) ≤ (σ 3 v2.toNatClampNeg) → w_X9_guide_J76 K19 Post v1 v2 v3 σ)))))))))))
def w_X9_guide_L19 (Post : Int32 → St → Prop) : Nat → Int32 → Int32 → Int32 → St → Prop
  | 0 => fun _ _ _ _ => False
  | n + 1 => w_X9_guide_B19   Post (w_X9_guide_L19   Post n)
def w_X9_guide (p1 : Int32) (σ : St) (Post : Int32 → St → Prop) : Prop := w_X9_in (p1.toInt64) (1 : Int64) (9 : Int64) σ (fun x2 σ1 => (¬ x2 = 0 → w_X9_guide_L19 Post FU p1 (-1 : Int32) (0 : Int32) σ1) ∧ (x2 = 0 → Post (-1000000002 : Int32) σ1))
set_option maxHeartbeats 4000000 in
set_option maxRecDepth 100000 in
theorem b_X9_guide_J103 {Y : CY} {Z : CZ} (C : cx SM 5 Y Z cX9_guide RX9 wsX9_guide (some .int) rmX9_guide) {Post : Int32 → St → Prop} (hQ : Qi SM Y Z Post)  {K19 : Int32 → Int32 → Int32 → St → Prop} (hK19 : ∀ (v1 : Int32) (v2 : Int32) (v3 : Int32) (σ : St), K19 v1 v2 v3 σ → WW SM 5 Y Z σ 19 [(0, .ref (qa Y 0)), (1, .int v1), (2, .int v2), (3, .int v3)] []) (v1 : Int32) (v3 : Int32) (s0 : Int32) (σ : St) (h : w_X9_guide_J103 K19 Post v1 v3 s0 σ) : WW SM 5 Y Z σ 103 [(0, .ref (qa Y 0)), (1, .int v1), (3, .int v3)] [.int s0] := by
  unfold w_X9_guide_J103 at h
  refine q_istore_n C [(2, .int s0), (0, .ref (qa Y 0)), (1, .int v1), (3, .int v3)] dX9_guide_103 (by decide) rfl ?_
  obtain ⟨x18, ex18⟩ : ∃ y : Int32, y = v3 + (1 : Int32) := ⟨_, rfl⟩
  replace h := h x18 ex18
  refine q_iinc C x18 3 [(3, .int x18), (2, .int s0), (0, .ref (qa Y 0)), (1, .int v1)] dX9_guide_104 rfl (by rw [ex18]; rfl) (by decide) rfl ?_
  refine q_goto C 19 dX9_guide_107 (by decide) ?_
  refine q_sub (lv' := [(0, .ref (qa Y 0)), (1, .int v1), (2, .int s0), (3, .int x18)]) [2, 3, 1, 0] rfl ?_
  exact hK19 v1 s0 x18 σ h
set_option maxHeartbeats 4000000 in
set_option maxRecDepth 100000 in
theorem b_X9_guide_J102 {Y : CY} {Z : CZ} (C : cx SM 5 Y Z cX9_guide RX9 wsX9_guide (some .int) rmX9_guide) {Post : Int32 → St → Prop} (hQ : Qi SM Y Z Post)  {K19 : Int32 → Int32 → Int32 → St → Prop} (hK19 : ∀ (v1 : Int32) (v2 : Int32) (v3 : Int32) (σ : St), K19 v1 v2 v3 σ → WW SM 5 Y Z σ 19 [(0, .ref (qa Y 0)), (1, .int v1), (2, .int v2), (3, .int v3)] []) (v1 : Int32) (v2 : Int32) (v3 : Int32) (σ : St) (h : w_X9_guide_J102 K19 Post v1 v2 v3 σ) : WW SM 5 Y Z σ 102 [(0, .ref (qa Y 0)), (1, .int v1), (2, .int v2), (3, .int v3)] [] := by
  unfold w_X9_guide_J102 at h
  refine q_iload_n C 2 dX9_guide_102 rfl ?_
  refine q_sub (lv' := [(0, .ref (qa Y 0)), (1, .int v1), (3, .int v3)]) [0, 1, 3] rfl ?_
  exact b_X9_guide_J103 C hQ hK19 v1 v3 v2 σ h
set_option maxHeartbeats 4000000 in
set_option maxRecDepth 100000 in
theorem b_X9_guide_J81 {Y : CY} {Z : CZ} (C : cx SM 5 Y Z cX9_guide RX9 wsX9_guide (some .int) rmX9_guide) {Post : Int32 → St → Prop} (hQ : Qi SM Y Z Post)  {K19 : Int32 → Int32 → Int32 → St → Prop} (hK19 : ∀ (v1 : Int32) (v2 : Int32) (v3 : Int32) (σ : St), K19 v1 v2 v3 σ → WW SM 5 Y Z σ 19 [(0, .ref (qa Y 0)), (1, .int v1), (2, .int v2), (3, .int v3)] []) (v1 : Int32) (v2 : Int32) (v3 : Int32) (s0 : Int32) (σ : St) (h : w_X9_guide_J81 K19 Post v1 v2 v3 s0 σ) : WW SM 5 Y Z σ 81 [(0, .ref (qa Y 0)), (1, .int v1), (2, .int v2), (3, .int v3)] [.int s0] := by
  unfold w_X9_guide_J81 at h
  refine q_istore C [(4, .int s0), (0, .ref (qa Y 0)), (1, .int v1), (2, .int v2), (3, .int v3)] dX9_guide_81 (by decide) rfl ?_
  refine q_aload_n C 1 dX9_guide_83 rfl ?_
  refine q_getr (T := TX9) C kM0 iM0 inX9_guide_X9 rfl 11 (by decide) (List.mem_of_getElem? (i := 5) rfl) (fun _ h9 => h9) rfl dX9_guide_84 ?_
  refine q_iload_n C 4 dX9_guide_87 rfl ?_
  obtain ⟨g15, h⟩ := h
  refine q_iald C kM3 iM3 g15 dX9_guide_88 ?_
  refine q_iload_n C 2 dX9_guide_89 rfl ?_
  refine q_icmp_lt C 102 dX9_guide_90 (by decide) (fun c16 => ?_) (fun c16 => ?_)
  · replace h := h.1 c16
    refine q_sub (lv' := [(0, .ref (qa Y 0)), (1, .int v1), (2, .int v2), (3, .int v3)]) [1, 2, 3, 4] rfl ?_
    exact b_X9_guide_J102 C hQ hK19 v1 v2 v3 σ h
  · replace h := h.2 c16
    refine q_iload C 0 dX9_guide_93 rfl ?_
    refine q_if_eq C 102 dX9_guide_95 (by decide) (fun c17 => ?_) (fun c17 => ?_)
    · replace h := h.1 c17
      refine q_sub (lv' := [(0, .ref (qa Y 0)), (1, .int v1), (2, .int v2), (3, .int v3)]) [1, 2, 3, 4] rfl ?_
      exact b_X9_guide_J102 C hQ hK19 v1 v2 v3 σ h
    · replace h := h.2 c17
      refine q_iload_n C 4 dX9_guide_98 rfl ?_
      refine q_goto C 103 dX9_guide_99 (by decide) ?_
      refine q_sub (lv' := [(0, .ref (qa Y 0)), (1, .int v1), (3, .int v3)]) [1, 2, 4] rfl ?_
      exact b_X9_guide_J103 C hQ hK19 v1 v3 v3 σ h
set_option maxHeartbeats 4000000 in
set_option maxRecDepth 100000 in
theorem b_X9_guide_J76 {Y : CY} {Z : CZ} (C : cx SM 5 Y Z cX9_guide RX9 wsX9_guide (some .int) rmX9_guide) {Post : Int32 → St → Prop} (hQ : Qi SM Y Z Post)  {K19 : Int32 → Int32 → Int32 → St → Prop} (hK19 : ∀ (v1 : Int32) (v2 : Int32) (v3 : Int32) (σ : St), K19 v1 v2 v3 σ → WW SM 5 Y Z σ 19 [(0, .ref (qa Y 0)), (1, .int v1), (2, .int v2), (3, .int v3)] []) (v1 : Int32) (v2 : Int32) (v3 : Int32) (σ : St) (h : w_X9_guide_J76 K19 Post v1 v2 v3 σ) : WW SM 5 Y Z σ 76 [(0, .ref (qa Y 0)), (1, .int v1), (2, .int v2), (3, .int v3)] [] := by
  unfold w_X9_guide_J76 at h
  refine q_iconst (v := (1 : Int32)) C dX9_guide_76 (by decide) ?_
  refine q_goto C 81 dX9_guide_77 (by decide) ?_
  exact b_X9_guide_J81 C hQ hK19 v1 v2 v3 (1 : Int32) σ h
set_option maxHeartbeats 4000000 in
set_option maxRecDepth 100000 in
theorem b_X9_guide_J80 {Y : CY} {Z : CZ} (C : cx SM 5 Y Z cX9_guide RX9 wsX9_guide (some .int) rmX9_guide) {Post : Int32 → St → Prop} (hQ : Qi SM Y Z Post)  {K19 : Int32 → Int32 → Int32 → St → Prop} (hK19 : ∀ (v1 : Int32) (v2 : Int32) (v3 : Int32) (σ : St), K19 v1 v2 v3 σ → WW SM 5 Y Z σ 19 [(0, .ref (qa Y 0)), (1, .int v1), (2, .int v2), (3, .int v3)] []) (v1 : Int32) (v2 : Int32) (v3 : Int32) (σ : St) (h : w_X9_guide_J80 K19 Post v1 v2 v3 σ) : WW SM 5 Y Z σ 80 [(0, .ref (qa Y 0)), (1, .int v1), (2, .int v2), (3, .int v3)] [] := by
  unfold w_X9_guide_J80 at h
  refine q_iconst (v := (0 : Int32)) C dX9_guide_80 (by decide) ?_
  exact b_X9_guide_J81 C hQ hK19 v1 v2 v3 (0 : Int32) σ h
set_option maxHeartbeats 4000000 in
set_option maxRecDepth 100000 in
theorem b_X9_guide_B19 {Y : CY} {Z : CZ} (C : cx SM 5 Y Z cX9_guide RX9 wsX9_guide (some .int) rmX9_guide) {Post : Int32 → St → Prop} (hQ : Qi SM Y Z Post)  {K19 : Int32 → Int32 → Int32 → St → Prop} (hK19 : ∀ (v1 : Int32) (v2 : Int32) (v3 : Int32) (σ : St), K19 v1 v2 v3 σ → WW SM 5 Y Z σ 19 [(0, .ref (qa Y 0)), (1, .int v1), (2, .int v2), (3, .int v3)] []) (v1 : Int32) (v2 : Int32) (v3 : Int32) (σ : St) (h : w_X9_guide_B19  Post K19 v1 v2 v3 σ) : WW SM 5 Y Z σ 19 [(0, .ref (qa Y 0)), (1, .int v1), (2, .int v2), (3, .int v3)] [] := by
  unfold w_X9_guide_B19 at h
  refine q_iload_n C 3 dX9_guide_19 rfl ?_
  refine q_aload_n C 0 dX9_guide_20 rfl ?_
  refine q_geti (T := TX9) C kM0 iM0 inX9_guide_X9 rfl 9 (by decide) (List.mem_of_getElem? (i := 3) rfl) (fun _ h9 => h9) rfl dX9_guide_21 ?_
  refine q_icmp_ge C 110 dX9_guide_24 (by decide) (fun c4 => ?_) (fun c4 => ?_)
  · replace h := h.1 c4
    refine q_iload_n C 2 dX9_guide_110 rfl ?_
    exact q_iret C hQ dX9_guide_111 h
  · replace h := h.2 c4
    refine q_iload_n C 2 dX9_guide_27 rfl ?_
    refine q_if_lt C 76 dX9_guide_28 (by decide) (fun c5 => ?_) (fun c5 => ?_)
    · replace h := h.1 c5
      exact b_X9_guide_J76 C hQ hK19 v1 v2 v3 σ h
    · replace h := h.2 c5
      refine q_aload_n C 0 dX9_guide_31 rfl ?_
      refine q_getr (T := TX9) C kM0 iM0 inX9_guide_X9 rfl 10 (by decide) (List.mem_of_getElem? (i := 4) rfl) (fun _ h9 => h9) rfl dX9_guide_32 ?_
      refine q_iload_n C 3 dX9_guide_35 rfl ?_
      obtain ⟨g6, h⟩ := h
      refine q_iald C kM2 iM2 g6 dX9_guide_36 ?_
      refine q_aload_n C 0 dX9_guide_37 rfl ?_
      refine q_getr (T := TX9) C kM0 iM0 inX9_guide_X9 rfl 10 (by decide) (List.mem_of_getElem? (i := 4) rfl) (fun _ h9 => h9) rfl dX9_guide_38 ?_
      refine q_iload_n C 2 dX9_guide_41 rfl ?_
      obtain ⟨g7, h⟩ := h
      refine q_iald C kM2 iM2 g7 dX9_guide_42 ?_
      refine q_icmp_lt C 76 dX9_guide_43 (by decide) (fun c8 => ?_) (fun c8 => ?_)
      · replace h := h.1 c8
        exact b_X9_guide_J76 C hQ hK19 v1 v2 v3 σ h
      · replace h := h.2 c8
        refine q_aload_n C 0 dX9_guide_46 rfl ?_
        refine q_getr (T := TX9) C kM0 iM0 inX9_guide_X9 rfl 10 (by decide) (List.mem_of_getElem? (i := 4) rfl) (fun _ h9 => h9) rfl dX9_guide_47 ?_
        refine q_iload_n C 3 dX9_guide_50 rfl ?_
        obtain ⟨g9, h⟩ := h
        refine q_iald C kM2 iM2 g9 dX9_guide_51 ?_
        refine q_aload_n C 0 dX9_guide_52 rfl ?_
        refine q_getr (T := TX9) C kM0 iM0 inX9_guide_X9 rfl 10 (by decide) (List.mem_of_getElem? (i := 4) rfl) (fun _ h9 => h9) rfl dX9_guide_53 ?_
        refine q_iload_n C 2 dX9_guide_56 rfl ?_
        obtain ⟨g10, h⟩ := h
        refine q_iald C kM2 iM2 g10 dX9_guide_57 ?_
        refine q_icmp_ne C 80 dX9_guide_58 (by decide) (fun c11 => ?_) (fun c11 => ?_)
        · replace h := h.1 c11
          exact b_X9_guide_J80 C hQ hK19 v1 v2 v3 σ h
        · replace h := h.2 c11
          refine q_aload_n C 0 dX9_guide_61 rfl ?_
          refine q_getr (T := TX9) C kM0 iM0 inX9_guide_X9 rfl 11 (by decide) (List.mem_of_getElem? (i := 5) rfl) (fun _ h9 => h9) rfl dX9_guide_62 ?_
          refine q_iload_n C 3 dX9_guide_65 rfl ?_
          obtain ⟨g12, h⟩ := h
          refine q_iald C kM3 iM3 g12 dX9_guide_66 ?_
          refine q_aload_n C 0 dX9_guide_67 rfl ?_
          refine q_getr (T := TX9) C kM0 iM0 inX9_guide_X9 rfl 11 (by decide) (List.mem_of_getElem? (i := 5) rfl) (fun _ h9 => h9) rfl dX9_guide_68 ?_
          refine q_iload_n C 2 dX9_guide_71 rfl ?_
          obtain ⟨g13, h⟩ := h
          refine q_iald C kM3 iM3 g13 dX9_guide_72 ?_
          refine q_icmp_le C 80 dX9_guide_73 (by decide) (fun c14 => ?_) (fun c14 => ?_)
          · replace h := h.1 c14
            exact b_X9_guide_J80 C hQ hK19 v1 v2 v3 σ h
          · replace h := h.2 c14
            exact b_X9_guide_J76 C hQ hK19 v1 v2 v3 σ h
theorem b_X9_guide_L19 {Y : CY} {Z : CZ} (C : cx SM 5 Y Z cX9_guide RX9 wsX9_guide (some .int) rmX9_guide) {Post : Int32 → St → Prop} (hQ : Qi SM Y Z Post)  : ∀ (n : Nat) (v1 : Int32) (v2 : Int32) (v3 : Int32) (σ : St) (h : w_X9_guide_L19  Post n v1 v2 v3 σ), WW SM 5 Y Z σ 19 [(0, .ref (qa Y 0)), (1, .int v1), (2, .int v2), (3, .int v3)] [] := by
  intro n
  induction n with
  | zero => intro v1 v2 v3 σ h; exact h.elim
  | succ n ih => intro v1 v2 v3 σ h; exact b_X9_guide_B19 C hQ  ih v1 v2 v3 σ h
set_option maxHeartbeats 4000000 in
set_option maxRecDepth 100000 in
theorem b_X9_guide {Y : CY} {Z : CZ} (C : cx SM 5 Y Z cX9_guide RX9 wsX9_guide (some .int) rmX9_guide) {Post : Int32 → St → Prop} (hQ : Qi SM Y Z Post)  (p1 : Int32) (σ : St) (h : w_X9_guide p1 σ Post) : WW SM 5 Y Z σ 0 [(0, .ref (qa Y 0)), (1, .int p1)] [] := by
  unfold w_X9_guide at h
  refine q_iload_n C 1 dX9_guide_0 rfl ?_
  refine q_i2l C dX9_guide_1 ?_
  refine q_lconst (v := (1 : Int64)) C dX9_guide_2 (by decide) ?_
  refine q_ldc2 (v := (9 : Int64)) C (List.mem_of_getElem? (i := 1) rfl) dX9_guide_3 ?_
  refine q_callSi (As := [.long p1.toInt64, .long (1 : Int64), .long (9 : Int64)]) (st := []) C (c_X9_in Y (p1.toInt64) (1 : Int64) (9 : Int64) σ _ h) gX9_guide_X9_in rfl nkX9_in rmOk_X9_guide__X9_in rfl (Nat.le_of_ble_eq_true rfl) dX9_guide_6 rfl (fun x2 σ1 h => ?_)
  refine q_if_ne C 15 dX9_guide_9 (by decide) (fun c3 => ?_) (fun c3 => ?_)
  · replace h := h.1 c3
    refine q_iconst (v := (-1 : Int32)) C dX9_guide_15 (by decide) ?_
    refine q_istore_n C [(2, .int (-1 : Int32)), (0, .ref (qa Y 0)), (1, .int p1)] dX9_guide_16 (by decide) rfl ?_
    refine q_iconst (v := (0 : Int32)) C dX9_guide_17 (by decide) ?_
    refine q_istore_n C [(3, .int (0 : Int32)), (2, .int (-1 : Int32)), (0, .ref (qa Y 0)), (1, .int p1)] dX9_guide_18 (by decide) rfl ?_
    refine q_sub (lv' := [(0, .ref (qa Y 0)), (1, .int p1), (2, .int (-1 : Int32)), (3, .int (0 : Int32))]) [2, 3, 1, 0] rfl ?_
    exact b_X9_guide_L19 C hQ FU p1 (-1 : Int32) (0 : Int32) σ1 h
  · replace h := h.2 c3
    refine q_ldc (v := (-1000000002 : Int32)) C (List.mem_of_getElem? (i := 2) rfl) dX9_guide_12 ?_
    exact q_iret C hQ dX9_guide_14 h
theorem c_X9_guide (Y : CY)  (p1 : Int32) (σ : St) (Post : Int32 → St → Prop) (h : w_X9_guide p1 σ Post) : Ki SM Y yX9_guide wsX9_guide rmX9_guide [.ref (qa Y 0), .int p1] σ Post :=
  Ki_of (cc := cX9_guide) (nL := 5) (ret := (some .int)) (by decide +kernel) rfl (Nat.le_of_ble_eq_true rfl) (fun Z C hQ => b_X9_guide C hQ  p1 σ h)
abbrev rmX9_has : Room := { frames := 0, cells := 0, slots := 0, locals := 0 }
theorem nkX9_has : NmOk yX9_has 2 := by decide +kernel
def w_X9_has (p1 : Int32) (p2 : Int32) (σ : St) (Post : Int32 → St → Prop) : Prop := (¬ ((p1 >>> (p2 &&& 31)) &&& (1 : Int32)) = (1 : Int32) → Post (0 : Int32) σ) ∧ (((p1 >>> (p2 &&& 31)) &&& (1 : Int32)) = (1 : Int32) → Post (1 : Int32) σ)
set_option maxHeartbeats 4000000 in
set_option maxRecDepth 100000 in
theorem b_X9_has {Y : CY} {Z : CZ} (C : cx SM 2 Y Z cX9_has RX9 wsX9_has (some .boolean) rmX9_has) {Post : Int32 → St → Prop} (hQ : Qi SM Y Z Post)  (p1 : Int32) (p2 : Int32) (σ : St) (h : w_X9_has p1 p2 σ Post) : WW SM 2 Y Z σ 0 [(0, .int p1), (1, .int p2)] [] := by
  unfold w_X9_has at h
  refine q_iload_n C 0 dX9_has_0 rfl ?_
  refine q_iload_n C 1 dX9_has_1 rfl ?_
  refine q_ishr C dX9_has_2 ?_
  refine q_iconst (v := (1 : Int32)) C dX9_has_3 (by decide) ?_
  refine q_iand C dX9_has_4 ?_
  refine q_iconst (v := (1 : Int32)) C dX9_has_5 (by decide) ?_
  refine q_icmp_ne C 13 dX9_has_6 (by decide) (fun c1 => ?_) (fun c1 => ?_)
  · replace h := h.1 c1
    refine q_iconst (v := (0 : Int32)) C dX9_has_13 (by decide) ?_
    exact q_zret C hQ (zb_n (by decide)) dX9_has_14 h
  · replace h := h.2 c1
    refine q_iconst (v := (1 : Int32)) C dX9_has_9 (by decide) ?_
    refine q_goto C 14 dX9_has_10 (by decide) ?_
    exact q_zret C hQ (zb_n (by decide)) dX9_has_14 h
theorem c_X9_has (Y : CY)  (p1 : Int32) (p2 : Int32) (σ : St) (Post : Int32 → St → Prop) (h : w_X9_has p1 p2 σ Post) : Ki SM Y yX9_has wsX9_has rmX9_has [.int p1, .int p2] σ Post :=
  Ki_of (cc := cX9_has) (nL := 2) (ret := (some .boolean)) (by decide +kernel) rfl (Nat.le_of_ble_eq_true rfl) (fun Z C hQ => b_X9_has C hQ  p1 p2 σ h)
abbrev rmX9_here : Room := { frames := 0, cells := 0, slots := 0, locals := 0 }
theorem nkX9_here : NmOk yX9_here 0 := by decide +kernel
theorem inX9_here_X9 : ∀ w ∈ u_ws RX9 TX9 47, w ∈ wsX9_here := fun _ h => List.mem_cons_of_mem _ (List.mem_append_right _ h)
def w_X9_here_J38 (Post : Int32 → St → Prop) (σ : St) : Prop := ((σ 0 15) ≤ (σ 0 17) → Post (-1 : Int32) σ) ∧ (¬ (σ 0 15) ≤ (σ 0 17) → (vp_in (σ 0 17) 230) ∧ (Post ((σ 5 (σ 0 17).toNatClampNeg)) σ))
def w_X9_here_B0 (Post : Int32 → St → Prop) (K0 : St → Prop) (σ : St) : Prop := ((σ 0 15) ≤ (σ 0 17) → w_X9_here_J38 Post σ) ∧ (¬ (σ 0 15) ≤ (σ 0 17) → (vp_in (σ 0 17) 230) ∧ ((¬ (σ 5 (σ 0 17).toNatClampNeg) = (32 : Int32) → w_X9_here_J38 Post σ) ∧ ((σ 5 (σ 0 17).toNatClampNeg) = (32 : Int32) → ∀ σ4 : St, σ4 = up σ 0 17 (((σ 0 17) + (1 : Int32))) → K0 σ4)))
def w_X9_here_L0 (Post : Int32 → St → Prop) : Nat → St → Prop
  | 0 => fun _ => False
  | n + 1 => w_X9_here_B0   Post (w_X9_here_L0   Post n)
def w_X9_here (σ : St) (Post : Int32 → St → Prop) : Prop := w_X9_here_L0 Post FU σ
set_option maxHeartbeats 4000000 in
set_option maxRecDepth 100000 in
theorem b_X9_here_J38 {Y : CY} {Z : CZ} (C : cx SM 1 Y Z cX9_here RX9 wsX9_here (some .int) rmX9_here) {Post : Int32 → St → Prop} (hQ : Qi SM Y Z Post)  (σ : St) (h : w_X9_here_J38  Post σ) : WW SM 1 Y Z σ 38 [(0, .ref (qa Y 0))] [] := by
  unfold w_X9_here_J38 at h
  refine q_aload_n C 0 dX9_here_38 rfl ?_
  refine q_geti (T := TX9) C kM0 iM0 inX9_here_X9 rfl 17 (by decide) (List.mem_of_getElem? (i := 1) rfl) (fun _ h9 => h9) rfl dX9_here_39 ?_
  refine q_aload_n C 0 dX9_here_42 rfl ?_
  refine q_geti (T := TX9) C kM0 iM0 inX9_here_X9 rfl 15 (by decide) (List.mem_of_getElem? (i := 2) rfl) (fun _ h9 => h9) rfl dX9_here_43 ?_
  refine q_icmp_ge C 61 dX9_here_46 (by decide) (fun c5 => ?_) (fun c5 => ?_)
  · replace h := h.1 c5
    refine q_iconst (v := (-1 : Int32)) C dX9_here_61 (by decide) ?_
    exact q_iret C hQ dX9_here_62 h
  · replace h := h.2 c5
    refine q_aload_n C 0 dX9_here_49 rfl ?_
    refine q_getr (T := TX9) C kM0 iM0 inX9_here_X9 rfl 14 (by decide) (List.mem_of_getElem? (i := 3) rfl) (fun _ h9 => h9) rfl dX9_here_50 ?_
    refine q_aload_n C 0 dX9_here_53 rfl ?_
    refine q_geti (T := TX9) C kM0 iM0 inX9_here_X9 rfl 17 (by decide) (List.mem_of_getElem? (i := 1) rfl) (fun _ h9 => h9) rfl dX9_here_54 ?_
    obtain ⟨g6, h⟩ := h
    refine q_iald C kM5 iM5 g6 dX9_here_57 ?_
    refine q_goto C 62 dX9_here_58 (by decide) ?_
    exact q_iret C hQ dX9_here_62 h
set_option maxHeartbeats 4000000 in
set_option maxRecDepth 100000 in
theorem b_X9_here_B0 {Y : CY} {Z : CZ} (C : cx SM 1 Y Z cX9_here RX9 wsX9_here (some .int) rmX9_here) {Post : Int32 → St → Prop} (hQ : Qi SM Y Z Post)  {K0 : St → Prop} (hK0 : ∀ (σ : St), K0 σ → WW SM 1 Y Z σ 0 [(0, .ref (qa Y 0))] []) (σ : St) (h : w_X9_here_B0  Post K0 σ) : WW SM 1 Y Z σ 0 [(0, .ref (qa Y 0))] [] := by
  unfold w_X9_here_B0 at h
  refine q_aload_n C 0 dX9_here_0 rfl ?_
  refine q_geti (T := TX9) C kM0 iM0 inX9_here_X9 rfl 17 (by decide) (List.mem_of_getElem? (i := 1) rfl) (fun _ h9 => h9) rfl dX9_here_1 ?_
  refine q_aload_n C 0 dX9_here_4 rfl ?_
  refine q_geti (T := TX9) C kM0 iM0 inX9_here_X9 rfl 15 (by decide) (List.mem_of_getElem? (i := 2) rfl) (fun _ h9 => h9) rfl dX9_here_5 ?_
  refine q_icmp_ge C 38 dX9_here_8 (by decide) (fun c1 => ?_) (fun c1 => ?_)
  · replace h := h.1 c1
    exact b_X9_here_J38 C hQ σ h
  · replace h := h.2 c1
    refine q_aload_n C 0 dX9_here_11 rfl ?_
    refine q_getr (T := TX9) C kM0 iM0 inX9_here_X9 rfl 14 (by decide) (List.mem_of_getElem? (i := 3) rfl) (fun _ h9 => h9) rfl dX9_here_12 ?_
    refine q_aload_n C 0 dX9_here_15 rfl ?_
    refine q_geti (T := TX9) C kM0 iM0 inX9_here_X9 rfl 17 (by decide) (List.mem_of_getElem? (i := 1) rfl) (fun _ h9 => h9) rfl dX9_here_16 ?_
    obtain ⟨g2, h⟩ := h
    refine q_iald C kM5 iM5 g2 dX9_here_19 ?_
    refine q_bipush (v := (32 : Int32)) C dX9_here_20 (by decide) ?_
    refine q_icmp_ne C 38 dX9_here_22 (by decide) (fun c3 => ?_) (fun c3 => ?_)
    · replace h := h.1 c3
      exact b_X9_here_J38 C hQ σ h
    · replace h := h.2 c3
      refine q_aload_n C 0 dX9_here_25 rfl ?_
      refine q_dup C dX9_here_26 rfl ?_
      refine q_geti (T := TX9) C kM0 iM0 inX9_here_X9 rfl 17 (by decide) (List.mem_of_getElem? (i := 1) rfl) (fun _ h9 => h9) rfl dX9_here_27 ?_
      refine q_iconst (v := (1 : Int32)) C dX9_here_30 (by decide) ?_
      refine q_iadd C dX9_here_31 ?_
      refine q_puti (T := TX9) C kM0 iM0 inX9_here_X9 rfl tyX9 tyX9_ok nmX9 17 (by decide) (List.mem_of_getElem? (i := 1) rfl) (fun _ h9 => h9) rfl dgM0 rfl (ni_n _) (ni_f _) dX9_here_32 ?_
      refine q_nmS (fun σ4 eσ4 => ?_)
      replace h := h σ4 eσ4
      refine q_goto C 0 dX9_here_35 (by decide) ?_
      exact hK0 σ4 h
theorem b_X9_here_L0 {Y : CY} {Z : CZ} (C : cx SM 1 Y Z cX9_here RX9 wsX9_here (some .int) rmX9_here) {Post : Int32 → St → Prop} (hQ : Qi SM Y Z Post)  : ∀ (n : Nat) (σ : St) (h : w_X9_here_L0  Post n σ), WW SM 1 Y Z σ 0 [(0, .ref (qa Y 0))] [] := by
  intro n
  induction n with
  | zero => intro σ h; exact h.elim
  | succ n ih => intro σ h; exact b_X9_here_B0 C hQ  ih σ h
set_option maxHeartbeats 4000000 in
set_option maxRecDepth 100000 in
theorem b_X9_here {Y : CY} {Z : CZ} (C : cx SM 1 Y Z cX9_here RX9 wsX9_here (some .int) rmX9_here) {Post : Int32 → St → Prop} (hQ : Qi SM Y Z Post)  (σ : St) (h : w_X9_here  σ Post) : WW SM 1 Y Z σ 0 [(0, .ref (qa Y 0))] [] := by
  unfold w_X9_here at h
  exact b_X9_here_L0 C hQ FU σ h
theorem c_X9_here (Y : CY)  (σ : St) (Post : Int32 → St → Prop) (h : w_X9_here  σ Post) : Ki SM Y yX9_here wsX9_here rmX9_here [.ref (qa Y 0)] σ Post :=
  Ki_of (cc := cX9_here) (nL := 1) (ret := (some .int)) (by decide +kernel) rfl (Nat.le_of_ble_eq_true rfl) (fun Z C hQ => b_X9_here C hQ  σ h)
abbrev rmX9_takeNumber : Room := { frames := 1, cells := 0, slots := 0, locals := 25 }
theorem nkX9_takeNumber : NmOk yX9_takeNumber 2 := by decide +kernel
theorem rmOk_X9_takeNumber__X9_fails : RmOk rmX9_fails rmX9_takeNumber 3 := ⟨rfl, rfl, by decide, by decide⟩
theorem rmOk_X9_takeNumber__X9_here : RmOk rmX9_here rmX9_takeNumber 1 := ⟨rfl, rfl, by decide, by decide⟩
theorem rmOk_X9_takeNumber__X9_in : RmOk rmX9_in rmX9_takeNumber 6 := ⟨rfl, rfl, by decide, by decide⟩
theorem inX9_takeNumber_X9 : ∀ w ∈ u_ws RX9 TX9 47, w ∈ wsX9_takeNumber := fun _ h => List.mem_cons_of_mem _ (List.mem_append_right _ h)
def w_X9_takeNumber_J113 (K42 : Int32 → Int32 → St → Prop) (Post : Int32 → St → Prop) (v1 : Int32) (v2 : Int32) (s0 : Int32) (σ : St) : Prop := ∀ σ21 : St, σ21 = up σ 0 18 s0 → ∀ σ22 : St, σ22 = up σ21 0 17 (((σ21 0 17) + (1 : Int32))) → K42 v1 v2 σ22
def w_X9_takeNumber_J157 (Post : Int32 → St → Prop) (σ : St) : Prop := w_X9_fails (2 : Int32) ((σ 0 19)) σ (fun x24 σ23 => Post x24 σ23)
def w_X9_takeNumber_J129 (Post : Int32 → St → Prop) (v1 : Int32) (v2 : Int32) (σ : St) : Prop := ((3 : Int32) < ((σ 0 17) - (σ 0 19)) → w_X9_takeNumber_J157 Post σ) ∧ (¬ (3 : Int32) < ((σ 0 17) - (σ 0 19)) → w_X9_in ((σ 0 18).toInt64) (v1.toInt64) (v2.toInt64) σ (fun x19 σ18 => (¬ x19 = 0 → Post (0 : Int32) σ18) ∧ (x19 = 0 → w_X9_takeNumber_J157 Post σ18)))
def w_X9_takeNumber_B42 (Post : Int32 → St → Prop) (K42 : Int32 → Int32 → St → Prop) (v1 : Int32) (v2 : Int32) (σ : St) : Prop := ((σ 0 15) ≤ (σ 0 17) → w_X9_takeNumber_J129 Post v1 v2 σ) ∧ (¬ (σ 0 15) ≤ (σ 0 17) → (vp_in (σ 0 17) 230) ∧ (w_X9_in ((σ 5 (σ 0 17).toNatClampNeg).toInt64) (48 : Int64) (57 : Int64) σ (fun x13 σ12 => (x13 = 0 → w_X9_takeNumber_J129 Post v1 v2 σ12) ∧ (¬ x13 = 0 → ((σ12 0 18) ≤ (10000 : Int32) → (vp_in (σ12 0 17) 230) ∧ (w_X9_takeNumber_J113 K42 Post v1 v2 (((((10 : Int32) * (σ12 0 18)) + (σ12 5 (σ12 0 17).toNatClampNeg)) - (48 : Int32))) σ12)) ∧ (¬ (σ12 0 18) ≤ (10000 : Int32) → w_X9_takeNumber_J113 K42 Post v1 v2 ((σ12 0 18)) σ12)))))
def w_X9_takeNumber_L42 (Post : Int32 → St → Prop) : Nat → Int32 → Int32 → St → Prop
  | 0 => fun _ _ _ => False
  | n + 1 => w_X9_takeNumber_B42   Post (w_X9_takeNumber_L42   Post n)
def w_X9_takeNumber (p1 : Int32) (p2 : Int32) (σ : St) (Post : Int32 → St → Prop) : Prop := w_X9_here σ (fun x2 σ1 => w_X9_in (x2.toInt64) (48 : Int64) (57 : Int64) σ1 (fun x4 σ3 => (¬ x4 = 0 → ∀ σ6 : St, σ6 = up σ3 0 19 ((σ3 0 17)) → ∀ σ7 : St, σ7 = up σ6 0 18 (0 : Int32) → w_X9_takeNumber_L42 Post FU p1 p2 σ7) ∧ (x4 = 0 → w_X9_fails (1 : Int32) ((σ3 0 17)) σ3 (fun x9 σ8 => Post x9 σ8))))
set_option maxHeartbeats 4000000 in
set_option maxRecDepth 100000 in
theorem b_X9_takeNumber_J113 {Y : CY} {Z : CZ} (C : cx SM 4 Y Z cX9_takeNumber RX9 wsX9_takeNumber (some .int) rmX9_takeNumber) {Post : Int32 → St → Prop} (hQ : Qi SM Y Z Post)  {K42 : Int32 → Int32 → St → Prop} (hK42 : ∀ (v1 : Int32) (v2 : Int32) (σ : St), K42 v1 v2 σ → WW SM 4 Y Z σ 42 [(0, .ref (qa Y 0)), (1, .int v1), (2, .int v2)] []) (v1 : Int32) (v2 : Int32) (s0 : Int32) (σ : St) (h : w_X9_takeNumber_J113 K42 Post v1 v2 s0 σ) : WW SM 4 Y Z σ 113 [(0, .ref (qa Y 0)), (1, .int v1), (2, .int v2)] [.int s0, .ref (qa Y 0)] := by
  unfold w_X9_takeNumber_J113 at h
  refine q_puti (T := TX9) C kM0 iM0 inX9_takeNumber_X9 rfl tyX9 tyX9_ok nmX9 18 (by decide) (List.mem_of_getElem? (i := 5) rfl) (fun _ h9 => h9) rfl dgM0 rfl (ni_n _) (ni_f _) dX9_takeNumber_113 ?_
  refine q_nmS (fun σ21 eσ21 => ?_)
  replace h := h σ21 eσ21
  refine q_aload_n C 0 dX9_takeNumber_116 rfl ?_
  refine q_dup C dX9_takeNumber_117 rfl ?_
  refine q_geti (T := TX9) C kM0 iM0 inX9_takeNumber_X9 rfl 17 (by decide) (List.mem_of_getElem? (i := 3) rfl) (fun _ h9 => h9) rfl dX9_takeNumber_118 ?_
  refine q_iconst (v := (1 : Int32)) C dX9_takeNumber_121 (by decide) ?_
  refine q_iadd C dX9_takeNumber_122 ?_
  refine q_puti (T := TX9) C kM0 iM0 inX9_takeNumber_X9 rfl tyX9 tyX9_ok nmX9 17 (by decide) (List.mem_of_getElem? (i := 3) rfl) (fun _ h9 => h9) rfl dgM0 rfl (ni_n _) (ni_f _) dX9_takeNumber_123 ?_
  refine q_nmS (fun σ22 eσ22 => ?_)
  replace h := h σ22 eσ22
  refine q_goto C 42 dX9_takeNumber_126 (by decide) ?_
  exact hK42 v1 v2 σ22 h
set_option maxHeartbeats 4000000 in
set_option maxRecDepth 100000 in
theorem b_X9_takeNumber_J157 {Y : CY} {Z : CZ} (C : cx SM 4 Y Z cX9_takeNumber RX9 wsX9_takeNumber (some .int) rmX9_takeNumber) {Post : Int32 → St → Prop} (hQ : Qi SM Y Z Post)  (σ : St) (h : w_X9_takeNumber_J157  Post σ) : WW SM 4 Y Z σ 157 [(0, .ref (qa Y 0))] [] := by
  unfold w_X9_takeNumber_J157 at h
  refine q_aload_n C 0 dX9_takeNumber_157 rfl ?_
  refine q_iconst (v := (2 : Int32)) C dX9_takeNumber_158 (by decide) ?_
  refine q_aload_n C 0 dX9_takeNumber_159 rfl ?_
  refine q_geti (T := TX9) C kM0 iM0 inX9_takeNumber_X9 rfl 19 (by decide) (List.mem_of_getElem? (i := 4) rfl) (fun _ h9 => h9) rfl dX9_takeNumber_160 ?_
  refine q_callVi (As := [.int (2 : Int32), .int (σ 0 19)]) (st := []) C (c_X9_fails Y (2 : Int32) ((σ 0 19)) σ _ h) gX9_takeNumber_X9_fails rfl ⟨rfl, nkX9_fails⟩ rmOk_X9_takeNumber__X9_fails kM0 iM0 rfl rfl (Nat.le_of_ble_eq_true rfl) dX9_takeNumber_163 rfl (fun x24 σ23 h => ?_)
  refine q_goto C 170 dX9_takeNumber_166 (by decide) ?_
  exact q_iret C hQ dX9_takeNumber_170 h
set_option maxHeartbeats 4000000 in
set_option maxRecDepth 100000 in
theorem b_X9_takeNumber_J129 {Y : CY} {Z : CZ} (C : cx SM 4 Y Z cX9_takeNumber RX9 wsX9_takeNumber (some .int) rmX9_takeNumber) {Post : Int32 → St → Prop} (hQ : Qi SM Y Z Post)  (v1 : Int32) (v2 : Int32) (σ : St) (h : w_X9_takeNumber_J129  Post v1 v2 σ) : WW SM 4 Y Z σ 129 [(0, .ref (qa Y 0)), (1, .int v1), (2, .int v2)] [] := by
  unfold w_X9_takeNumber_J129 at h
  refine q_aload_n C 0 dX9_takeNumber_129 rfl ?_
  refine q_geti (T := TX9) C kM0 iM0 inX9_takeNumber_X9 rfl 17 (by decide) (List.mem_of_getElem? (i := 3) rfl) (fun _ h9 => h9) rfl dX9_takeNumber_130 ?_
  refine q_aload_n C 0 dX9_takeNumber_133 rfl ?_
  refine q_geti (T := TX9) C kM0 iM0 inX9_takeNumber_X9 rfl 19 (by decide) (List.mem_of_getElem? (i := 4) rfl) (fun _ h9 => h9) rfl dX9_takeNumber_134 ?_
  refine q_isub C dX9_takeNumber_137 ?_
  refine q_iconst (v := (3 : Int32)) C dX9_takeNumber_138 (by decide) ?_
  refine q_icmp_gt C 157 dX9_takeNumber_139 (by decide) (fun c17 => ?_) (fun c17 => ?_)
  · replace h := h.1 c17
    refine q_sub (lv' := [(0, .ref (qa Y 0))]) [0] rfl ?_
    exact b_X9_takeNumber_J157 C hQ σ h
  · replace h := h.2 c17
    refine q_aload_n C 0 dX9_takeNumber_142 rfl ?_
    refine q_geti (T := TX9) C kM0 iM0 inX9_takeNumber_X9 rfl 18 (by decide) (List.mem_of_getElem? (i := 5) rfl) (fun _ h9 => h9) rfl dX9_takeNumber_143 ?_
    refine q_i2l C dX9_takeNumber_146 ?_
    refine q_iload_n C 1 dX9_takeNumber_147 rfl ?_
    refine q_i2l C dX9_takeNumber_148 ?_
    refine q_iload_n C 2 dX9_takeNumber_149 rfl ?_
    refine q_i2l C dX9_takeNumber_150 ?_
    refine q_callSi (As := [.long (σ 0 18).toInt64, .long v1.toInt64, .long v2.toInt64]) (st := []) C (c_X9_in Y ((σ 0 18).toInt64) (v1.toInt64) (v2.toInt64) σ _ h) gX9_takeNumber_X9_in rfl nkX9_in rmOk_X9_takeNumber__X9_in rfl (Nat.le_of_ble_eq_true rfl) dX9_takeNumber_151 rfl (fun x19 σ18 h => ?_)
    refine q_if_ne C 169 dX9_takeNumber_154 (by decide) (fun c20 => ?_) (fun c20 => ?_)
    · replace h := h.1 c20
      refine q_iconst (v := (0 : Int32)) C dX9_takeNumber_169 (by decide) ?_
      exact q_iret C hQ dX9_takeNumber_170 h
    · replace h := h.2 c20
      refine q_sub (lv' := [(0, .ref (qa Y 0))]) [0] rfl ?_
      exact b_X9_takeNumber_J157 C hQ σ18 h
set_option maxHeartbeats 4000000 in
set_option maxRecDepth 100000 in
theorem b_X9_takeNumber_B42 {Y : CY} {Z : CZ} (C : cx SM 4 Y Z cX9_takeNumber RX9 wsX9_takeNumber (some .int) rmX9_takeNumber) {Post : Int32 → St → Prop} (hQ : Qi SM Y Z Post)  {K42 : Int32 → Int32 → St → Prop} (hK42 : ∀ (v1 : Int32) (v2 : Int32) (σ : St), K42 v1 v2 σ → WW SM 4 Y Z σ 42 [(0, .ref (qa Y 0)), (1, .int v1), (2, .int v2)] []) (v1 : Int32) (v2 : Int32) (σ : St) (h : w_X9_takeNumber_B42  Post K42 v1 v2 σ) : WW SM 4 Y Z σ 42 [(0, .ref (qa Y 0)), (1, .int v1), (2, .int v2)] [] := by
  unfold w_X9_takeNumber_B42 at h
  refine q_aload_n C 0 dX9_takeNumber_42 rfl ?_
  refine q_geti (T := TX9) C kM0 iM0 inX9_takeNumber_X9 rfl 17 (by decide) (List.mem_of_getElem? (i := 3) rfl) (fun _ h9 => h9) rfl dX9_takeNumber_43 ?_
  refine q_aload_n C 0 dX9_takeNumber_46 rfl ?_
  refine q_geti (T := TX9) C kM0 iM0 inX9_takeNumber_X9 rfl 15 (by decide) (List.mem_of_getElem? (i := 6) rfl) (fun _ h9 => h9) rfl dX9_takeNumber_47 ?_
  refine q_icmp_ge C 129 dX9_takeNumber_50 (by decide) (fun c10 => ?_) (fun c10 => ?_)
  · replace h := h.1 c10
    exact b_X9_takeNumber_J129 C hQ v1 v2 σ h
  · replace h := h.2 c10
    refine q_aload_n C 0 dX9_takeNumber_53 rfl ?_
    refine q_getr (T := TX9) C kM0 iM0 inX9_takeNumber_X9 rfl 14 (by decide) (List.mem_of_getElem? (i := 7) rfl) (fun _ h9 => h9) rfl dX9_takeNumber_54 ?_
    refine q_aload_n C 0 dX9_takeNumber_57 rfl ?_
    refine q_geti (T := TX9) C kM0 iM0 inX9_takeNumber_X9 rfl 17 (by decide) (List.mem_of_getElem? (i := 3) rfl) (fun _ h9 => h9) rfl dX9_takeNumber_58 ?_
    obtain ⟨g11, h⟩ := h
    refine q_iald C kM5 iM5 g11 dX9_takeNumber_61 ?_
    refine q_i2l C dX9_takeNumber_62 ?_
    refine q_ldc2 (v := (48 : Int64)) C (List.mem_of_getElem? (i := 1) rfl) dX9_takeNumber_63 ?_
    refine q_ldc2 (v := (57 : Int64)) C (List.mem_of_getElem? (i := 2) rfl) dX9_takeNumber_66 ?_
    refine q_callSi (As := [.long (σ 5 (σ 0 17).toNatClampNeg).toInt64, .long (48 : Int64), .long (57 : Int64)]) (st := []) C (c_X9_in Y ((σ 5 (σ 0 17).toNatClampNeg).toInt64) (48 : Int64) (57 : Int64) σ _ h) gX9_takeNumber_X9_in rfl nkX9_in rmOk_X9_takeNumber__X9_in rfl (Nat.le_of_ble_eq_true rfl) dX9_takeNumber_69 rfl (fun x13 σ12 h => ?_)
    refine q_if_eq C 129 dX9_takeNumber_72 (by decide) (fun c14 => ?_) (fun c14 => ?_)
    · replace h := h.1 c14
      exact b_X9_takeNumber_J129 C hQ v1 v2 σ12 h
    · replace h := h.2 c14
      refine q_aload_n C 0 dX9_takeNumber_75 rfl ?_
      refine q_aload_n C 0 dX9_takeNumber_76 rfl ?_
      refine q_geti (T := TX9) C kM0 iM0 inX9_takeNumber_X9 rfl 18 (by decide) (List.mem_of_getElem? (i := 5) rfl) (fun _ h9 => h9) rfl dX9_takeNumber_77 ?_
      refine q_sipush (v := (10000 : Int32)) C dX9_takeNumber_80 (by decide) ?_
      refine q_icmp_le C 93 dX9_takeNumber_83 (by decide) (fun c15 => ?_) (fun c15 => ?_)
      · replace h := h.1 c15
        refine q_bipush (v := (10 : Int32)) C dX9_takeNumber_93 (by decide) ?_
        refine q_aload_n C 0 dX9_takeNumber_95 rfl ?_
        refine q_geti (T := TX9) C kM0 iM0 inX9_takeNumber_X9 rfl 18 (by decide) (List.mem_of_getElem? (i := 5) rfl) (fun _ h9 => h9) rfl dX9_takeNumber_96 ?_
        refine q_imul C dX9_takeNumber_99 ?_
        refine q_aload_n C 0 dX9_takeNumber_100 rfl ?_
        refine q_getr (T := TX9) C kM0 iM0 inX9_takeNumber_X9 rfl 14 (by decide) (List.mem_of_getElem? (i := 7) rfl) (fun _ h9 => h9) rfl dX9_takeNumber_101 ?_
        refine q_aload_n C 0 dX9_takeNumber_104 rfl ?_
        refine q_geti (T := TX9) C kM0 iM0 inX9_takeNumber_X9 rfl 17 (by decide) (List.mem_of_getElem? (i := 3) rfl) (fun _ h9 => h9) rfl dX9_takeNumber_105 ?_
        obtain ⟨g16, h⟩ := h
        refine q_iald C kM5 iM5 g16 dX9_takeNumber_108 ?_
        refine q_iadd C dX9_takeNumber_109 ?_
        refine q_bipush (v := (48 : Int32)) C dX9_takeNumber_110 (by decide) ?_
        refine q_isub C dX9_takeNumber_112 ?_
        exact b_X9_takeNumber_J113 C hQ hK42 v1 v2 (((((10 : Int32) * (σ12 0 18)) + (σ12 5 (σ12 0 17).toNatClampNeg)) - (48 : Int32))) σ12 h
      · replace h := h.2 c15
        refine q_aload_n C 0 dX9_takeNumber_86 rfl ?_
        refine q_geti (T := TX9) C kM0 iM0 inX9_takeNumber_X9 rfl 18 (by decide) (List.mem_of_getElem? (i := 5) rfl) (fun _ h9 => h9) rfl dX9_takeNumber_87 ?_
        refine q_goto C 113 dX9_takeNumber_90 (by decide) ?_
        exact b_X9_takeNumber_J113 C hQ hK42 v1 v2 ((σ12 0 18)) σ12 h
theorem b_X9_takeNumber_L42 {Y : CY} {Z : CZ} (C : cx SM 4 Y Z cX9_takeNumber RX9 wsX9_takeNumber (some .int) rmX9_takeNumber) {Post : Int32 → St → Prop} (hQ : Qi SM Y Z Post)  : ∀ (n : Nat) (v1 : Int32) (v2 : Int32) (σ : St) (h : w_X9_takeNumber_L42  Post n v1 v2 σ), WW SM 4 Y Z σ 42 [(0, .ref (qa Y 0)), (1, .int v1), (2, .int v2)] [] := by
  intro n
  induction n with
  | zero => intro v1 v2 σ h; exact h.elim
  | succ n ih => intro v1 v2 σ h; exact b_X9_takeNumber_B42 C hQ  ih v1 v2 σ h
set_option maxHeartbeats 4000000 in
set_option maxRecDepth 100000 in
theorem b_X9_takeNumber {Y : CY} {Z : CZ} (C : cx SM 4 Y Z cX9_takeNumber RX9 wsX9_takeNumber (some .int) rmX9_takeNumber) {Post : Int32 → St → Prop} (hQ : Qi SM Y Z Post)  (p1 : Int32) (p2 : Int32) (σ : St) (h : w_X9_takeNumber p1 p2 σ Post) : WW SM 4 Y Z σ 0 [(0, .ref (qa Y 0)), (1, .int p1), (2, .int p2)] [] := by
  unfold w_X9_takeNumber at h
  refine q_aload_n C 0 dX9_takeNumber_0 rfl ?_
  refine q_callVi (As := []) (st := []) C (c_X9_here Y σ _ h) gX9_takeNumber_X9_here rfl ⟨rfl, nkX9_here⟩ rmOk_X9_takeNumber__X9_here kM0 iM0 rfl rfl (Nat.le_of_ble_eq_true rfl) dX9_takeNumber_1 rfl (fun x2 σ1 h => ?_)
  refine q_istore_n C [(3, .int x2), (0, .ref (qa Y 0)), (1, .int p1), (2, .int p2)] dX9_takeNumber_4 (by decide) rfl ?_
  refine q_iload_n C 0 dX9_takeNumber_5 rfl ?_
  refine q_i2l C dX9_takeNumber_6 ?_
  refine q_ldc2 (v := (48 : Int64)) C (List.mem_of_getElem? (i := 1) rfl) dX9_takeNumber_7 ?_
  refine q_ldc2 (v := (57 : Int64)) C (List.mem_of_getElem? (i := 2) rfl) dX9_takeNumber_10 ?_
  refine q_callSi (As := [.long x2.toInt64, .long (48 : Int64), .long (57 : Int64)]) (st := []) C (c_X9_in Y (x2.toInt64) (48 : Int64) (57 : Int64) σ1 _ h) gX9_takeNumber_X9_in rfl nkX9_in rmOk_X9_takeNumber__X9_in rfl (Nat.le_of_ble_eq_true rfl) dX9_takeNumber_13 rfl (fun x4 σ3 h => ?_)
  refine q_if_ne C 29 dX9_takeNumber_16 (by decide) (fun c5 => ?_) (fun c5 => ?_)
  · replace h := h.1 c5
    refine q_aload_n C 1 dX9_takeNumber_29 rfl ?_
    refine q_aload_n C 1 dX9_takeNumber_30 rfl ?_
    refine q_geti (T := TX9) C kM0 iM0 inX9_takeNumber_X9 rfl 17 (by decide) (List.mem_of_getElem? (i := 3) rfl) (fun _ h9 => h9) rfl dX9_takeNumber_31 ?_
    refine q_puti (T := TX9) C kM0 iM0 inX9_takeNumber_X9 rfl tyX9 tyX9_ok nmX9 19 (by decide) (List.mem_of_getElem? (i := 4) rfl) (fun _ h9 => h9) rfl dgM0 rfl (ni_n _) (ni_f _) dX9_takeNumber_34 ?_
    refine q_nmS (fun σ6 eσ6 => ?_)
    replace h := h σ6 eσ6
    refine q_aload_n C 1 dX9_takeNumber_37 rfl ?_
    refine q_iconst (v := (0 : Int32)) C dX9_takeNumber_38 (by decide) ?_
    refine q_puti (T := TX9) C kM0 iM0 inX9_takeNumber_X9 rfl tyX9 tyX9_ok nmX9 18 (by decide) (List.mem_of_getElem? (i := 5) rfl) (fun _ h9 => h9) rfl dgM0 rfl (ni_n _) (ni_f _) dX9_takeNumber_39 ?_
    refine q_nmS (fun σ7 eσ7 => ?_)
    replace h := h σ7 eσ7
    refine q_sub (lv' := [(0, .ref (qa Y 0)), (1, .int p1), (2, .int p2)]) [1, 2, 3] rfl ?_
    exact b_X9_takeNumber_L42 C hQ FU p1 p2 σ7 h
  · replace h := h.2 c5
    refine q_aload_n C 1 dX9_takeNumber_19 rfl ?_
    refine q_iconst (v := (1 : Int32)) C dX9_takeNumber_20 (by decide) ?_
    refine q_aload_n C 1 dX9_takeNumber_21 rfl ?_
    refine q_geti (T := TX9) C kM0 iM0 inX9_takeNumber_X9 rfl 17 (by decide) (List.mem_of_getElem? (i := 3) rfl) (fun _ h9 => h9) rfl dX9_takeNumber_22 ?_
    refine q_callVi (As := [.int (1 : Int32), .int (σ3 0 17)]) (st := []) C (c_X9_fails Y (1 : Int32) ((σ3 0 17)) σ3 _ h) gX9_takeNumber_X9_fails rfl ⟨rfl, nkX9_fails⟩ rmOk_X9_takeNumber__X9_fails kM0 iM0 rfl rfl (Nat.le_of_ble_eq_true rfl) dX9_takeNumber_25 rfl (fun x9 σ8 h => ?_)
    exact q_iret C hQ dX9_takeNumber_28 h
theorem c_X9_takeNumber (Y : CY)  (p1 : Int32) (p2 : Int32) (σ : St) (Post : Int32 → St → Prop) (h : w_X9_takeNumber p1 p2 σ Post) : Ki SM Y yX9_takeNumber wsX9_takeNumber rmX9_takeNumber [.ref (qa Y 0), .int p1, .int p2] σ Post :=
  Ki_of (cc := cX9_takeNumber) (nL := 4) (ret := (some .int)) (by decide +kernel) rfl (Nat.le_of_ble_eq_true rfl) (fun Z C hQ => b_X9_takeNumber C hQ  p1 p2 σ h)
abbrev rmX9_into : Room := { frames := 2, cells := 0, slots := 0, locals := 48 }
theorem nkX9_into : NmOk yX9_into 4 := by decide +kernel
theorem rmOk_X9_into__X9_takeNumber : RmOk rmX9_takeNumber rmX9_into 4 := ⟨rfl, rfl, by decide, by decide⟩
theorem inX9_into_X9 : ∀ w ∈ u_ws RX9 TX9 47, w ∈ wsX9_into := fun _ h => List.mem_cons_of_mem _ (List.mem_append_right _ h)
def w_X9_into (a1 : Nat) (L1 : Nat) (p2 : Int32) (p3 : Int32) (p4 : Int32) (σ : St) (Post : Int32 → St → Prop) : Prop := w_X9_takeNumber p3 p4 σ (fun x2 σ1 => (vp_in p2 L1) ∧ (∀ σ3 : St, σ3 = up σ1 a1 p2.toNatClampNeg ((σ1 0 18)) → Post x2 σ3))
set_option maxHeartbeats 4000000 in
set_option maxRecDepth 100000 in
theorem b_X9_into {Y : CY} {Z : CZ} (C : cx SM 6 Y Z cX9_into RX9 wsX9_into (some .int) rmX9_into) {Post : Int32 → St → Prop} (hQ : Qi SM Y Z Post) {a1 L1 : Nat} (k_a1 : SM.1 a1 = .inl (0, L1)) (i_a1 : a1 < SM.2) (p2 : Int32) (p3 : Int32) (p4 : Int32) (σ : St) (h : w_X9_into a1 L1 p2 p3 p4 σ Post) : WW SM 6 Y Z σ 0 [(0, .ref (qa Y 0)), (1, .ref (qa Y a1)), (2, .int p2), (3, .int p3), (4, .int p4)] [] := by
  unfold w_X9_into at h
  refine q_aload_n C 0 dX9_into_0 rfl ?_
  refine q_iload_n C 3 dX9_into_1 rfl ?_
  refine q_iload C 4 dX9_into_2 rfl ?_
  refine q_callVi (As := [.int p3, .int p4]) (st := []) C (c_X9_takeNumber Y p3 p4 σ _ h) gX9_into_X9_takeNumber rfl ⟨rfl, nkX9_takeNumber⟩ rmOk_X9_into__X9_takeNumber kM0 iM0 rfl rfl (Nat.le_of_ble_eq_true rfl) dX9_into_4 rfl (fun x2 σ1 h => ?_)
  refine q_istore C [(5, .int x2), (0, .ref (qa Y 0)), (1, .ref (qa Y a1)), (2, .int p2), (3, .int p3), (4, .int p4)] dX9_into_7 (by decide) rfl ?_
  refine q_aload_n C 2 dX9_into_9 rfl ?_
  refine q_iload_n C 3 dX9_into_10 rfl ?_
  refine q_aload_n C 1 dX9_into_11 rfl ?_
  refine q_geti (T := TX9) C kM0 iM0 inX9_into_X9 rfl 18 (by decide) (List.mem_of_getElem? (i := 1) rfl) (fun _ h9 => h9) rfl dX9_into_12 ?_
  obtain ⟨g4, h⟩ := h
  refine q_iast C k_a1 i_a1 g4 dX9_into_15 ?_
  refine q_nmS (fun σ3 eσ3 => ?_)
  replace h := h σ3 eσ3
  refine q_iload C 0 dX9_into_16 rfl ?_
  exact q_iret C hQ dX9_into_18 h
theorem c_X9_into (Y : CY) {a1 L1 : Nat} (k_a1 : SM.1 a1 = .inl (0, L1)) (i_a1 : a1 < SM.2) (p2 : Int32) (p3 : Int32) (p4 : Int32) (σ : St) (Post : Int32 → St → Prop) (h : w_X9_into a1 L1 p2 p3 p4 σ Post) : Ki SM Y yX9_into wsX9_into rmX9_into [.ref (qa Y 0), .ref (qa Y a1), .int p2, .int p3, .int p4] σ Post :=
  Ki_of (cc := cX9_into) (nL := 6) (ret := (some .int)) (by decide +kernel) rfl (Nat.le_of_ble_eq_true rfl) (fun Z C hQ => b_X9_into C hQ k_a1 i_a1 p2 p3 p4 σ h)
abbrev rmX9_judge : Room := { frames := 0, cells := 0, slots := 0, locals := 0 }
theorem nkX9_judge : NmOk yX9_judge 0 := by decide +kernel
theorem inX9_judge_X9 : ∀ w ∈ u_ws RX9 TX9 47, w ∈ wsX9_judge := fun _ h => List.mem_cons_of_mem _ (List.mem_append_right _ h)
def w_X9_judge_B2 (Post : Int32 → St → Prop) (K2 : Int32 → St → Prop) (v1 : Int32) (σ : St) : Prop := ((σ 0 42) ≤ v1 → Post (-1 : Int32) σ) ∧ (¬ (σ 0 42) ≤ v1 → (vp_in v1 15) ∧ ((¬ (σ 19 v1.toNatClampNeg) = (σ 4 1) → Post v1 σ) ∧ ((σ 19 v1.toNatClampNeg) = (σ 4 1) → (vp_in v1 15) ∧ (((σ 20 v1.toNatClampNeg) = (σ 4 2) → ∀ x6 : Int32, x6 = v1 + (1 : Int32) → K2 x6 σ) ∧ (¬ (σ 20 v1.toNatClampNeg) = (σ 4 2) → Post v1 σ)))))
def w_X9_judge_L2 (Post : Int32 → St → Prop) : Nat → Int32 → St → Prop
  | 0 => fun _ _ => False
  | n + 1 => w_X9_judge_B2   Post (w_X9_judge_L2   Post n)
def w_X9_judge (σ : St) (Post : Int32 → St → Prop) : Prop := w_X9_judge_L2 Post FU (0 : Int32) σ
set_option maxHeartbeats 4000000 in
set_option maxRecDepth 100000 in
theorem b_X9_judge_B2 {Y : CY} {Z : CZ} (C : cx SM 2 Y Z cX9_judge RX9 wsX9_judge (some .int) rmX9_judge) {Post : Int32 → St → Prop} (hQ : Qi SM Y Z Post)  {K2 : Int32 → St → Prop} (hK2 : ∀ (v1 : Int32) (σ : St), K2 v1 σ → WW SM 2 Y Z σ 2 [(0, .ref (qa Y 0)), (1, .int v1)] []) (v1 : Int32) (σ : St) (h : w_X9_judge_B2  Post K2 v1 σ) : WW SM 2 Y Z σ 2 [(0, .ref (qa Y 0)), (1, .int v1)] [] := by
  unfold w_X9_judge_B2 at h
  refine q_iload_n C 1 dX9_judge_2 rfl ?_
  refine q_aload_n C 0 dX9_judge_3 rfl ?_
  refine q_geti (T := TX9) C kM0 iM0 inX9_judge_X9 rfl 42 (by decide) (List.mem_of_getElem? (i := 1) rfl) (fun _ h9 => h9) rfl dX9_judge_4 ?_
  refine q_icmp_ge C 48 dX9_judge_7 (by decide) (fun c1 => ?_) (fun c1 => ?_)
  · replace h := h.1 c1
    refine q_iconst (v := (-1 : Int32)) C dX9_judge_48 (by decide) ?_
    exact q_iret C hQ dX9_judge_49 h
  · replace h := h.2 c1
    refine q_aload_n C 0 dX9_judge_10 rfl ?_
    refine q_getr (T := TX9) C kM0 iM0 inX9_judge_X9 rfl 43 (by decide) (List.mem_of_getElem? (i := 2) rfl) (fun _ h9 => h9) rfl dX9_judge_11 ?_
    refine q_iload_n C 1 dX9_judge_14 rfl ?_
    obtain ⟨g2, h⟩ := h
    refine q_iald C kM19 iM19 g2 dX9_judge_15 ?_
    refine q_aload_n C 0 dX9_judge_16 rfl ?_
    refine q_getr (T := TX9) C kM0 iM0 inX9_judge_X9 rfl 12 (by decide) (List.mem_of_getElem? (i := 3) rfl) (fun _ h9 => h9) rfl dX9_judge_17 ?_
    refine q_iconst (v := (1 : Int32)) C dX9_judge_20 (by decide) ?_
    refine q_ialdk C 1 (by decide) (by decide) (by decide) kM4 iM4 dX9_judge_21 ?_
    refine q_icmp_ne C 40 dX9_judge_22 (by decide) (fun c3 => ?_) (fun c3 => ?_)
    · replace h := h.1 c3
      refine q_iload_n C 1 dX9_judge_40 rfl ?_
      exact q_iret C hQ dX9_judge_41 h
    · replace h := h.2 c3
      refine q_aload_n C 0 dX9_judge_25 rfl ?_
      refine q_getr (T := TX9) C kM0 iM0 inX9_judge_X9 rfl 44 (by decide) (List.mem_of_getElem? (i := 4) rfl) (fun _ h9 => h9) rfl dX9_judge_26 ?_
      refine q_iload_n C 1 dX9_judge_29 rfl ?_
      obtain ⟨g4, h⟩ := h
      refine q_iald C kM20 iM20 g4 dX9_judge_30 ?_
      refine q_aload_n C 0 dX9_judge_31 rfl ?_
      refine q_getr (T := TX9) C kM0 iM0 inX9_judge_X9 rfl 12 (by decide) (List.mem_of_getElem? (i := 3) rfl) (fun _ h9 => h9) rfl dX9_judge_32 ?_
      refine q_iconst (v := (2 : Int32)) C dX9_judge_35 (by decide) ?_
      refine q_ialdk C 2 (by decide) (by decide) (by decide) kM4 iM4 dX9_judge_36 ?_
      refine q_icmp_eq C 42 dX9_judge_37 (by decide) (fun c5 => ?_) (fun c5 => ?_)
      · replace h := h.1 c5
        obtain ⟨x6, ex6⟩ : ∃ y : Int32, y = v1 + (1 : Int32) := ⟨_, rfl⟩
        replace h := h x6 ex6
        refine q_iinc C x6 1 [(1, .int x6), (0, .ref (qa Y 0))] dX9_judge_42 rfl (by rw [ex6]; rfl) (by decide) rfl ?_
        refine q_goto C 2 dX9_judge_45 (by decide) ?_
        refine q_sub (lv' := [(0, .ref (qa Y 0)), (1, .int x6)]) [1, 0] rfl ?_
        exact hK2 x6 σ h
      · replace h := h.2 c5
        refine q_iload_n C 1 dX9_judge_40 rfl ?_
        exact q_iret C hQ dX9_judge_41 h
theorem b_X9_judge_L2 {Y : CY} {Z : CZ} (C : cx SM 2 Y Z cX9_judge RX9 wsX9_judge (some .int) rmX9_judge) {Post : Int32 → St → Prop} (hQ : Qi SM Y Z Post)  : ∀ (n : Nat) (v1 : Int32) (σ : St) (h : w_X9_judge_L2  Post n v1 σ), WW SM 2 Y Z σ 2 [(0, .ref (qa Y 0)), (1, .int v1)] [] := by
  intro n
  induction n with
  | zero => intro v1 σ h; exact h.elim
  | succ n ih => intro v1 σ h; exact b_X9_judge_B2 C hQ  ih v1 σ h
set_option maxHeartbeats 4000000 in
set_option maxRecDepth 100000 in
theorem b_X9_judge {Y : CY} {Z : CZ} (C : cx SM 2 Y Z cX9_judge RX9 wsX9_judge (some .int) rmX9_judge) {Post : Int32 → St → Prop} (hQ : Qi SM Y Z Post)  (σ : St) (h : w_X9_judge  σ Post) : WW SM 2 Y Z σ 0 [(0, .ref (qa Y 0))] [] := by
  unfold w_X9_judge at h
  refine q_iconst (v := (0 : Int32)) C dX9_judge_0 (by decide) ?_
  refine q_istore_n C [(1, .int (0 : Int32)), (0, .ref (qa Y 0))] dX9_judge_1 (by decide) rfl ?_
  refine q_sub (lv' := [(0, .ref (qa Y 0)), (1, .int (0 : Int32))]) [1, 0] rfl ?_
  exact b_X9_judge_L2 C hQ FU (0 : Int32) σ h
theorem c_X9_judge (Y : CY)  (σ : St) (Post : Int32 → St → Prop) (h : w_X9_judge  σ Post) : Ki SM Y yX9_judge wsX9_judge rmX9_judge [.ref (qa Y 0)] σ Post :=
  Ki_of (cc := cX9_judge) (nL := 2) (ret := (some .int)) (by decide +kernel) rfl (Nat.le_of_ble_eq_true rfl) (fun Z C hQ => b_X9_judge C hQ  σ h)
abbrev rmX9_keep : Room := { frames := 1, cells := 0, slots := 0, locals := 25 }
theorem nkX9_keep : NmOk yX9_keep 1 := by decide +kernel
theorem rmOk_X9_keep__X9_in : RmOk rmX9_in rmX9_keep 6 := ⟨rfl, rfl, by decide, by decide⟩
theorem inX9_keep_X9 : ∀ w ∈ u_ws RX9 TX9 47, w ∈ wsX9_keep := fun _ h => List.mem_cons_of_mem _ (List.mem_append_right _ h)
def w_X9_keep_B15 (Post : Int32 → St → Prop) (K15 : Int32 → Int32 → St → Prop) (v1 : Int32) (v2 : Int32) (σ : St) : Prop := ((12 : Int32) ≤ v2 → (vp_in (((13 : Int32) * v1) + (12 : Int32)) 26) ∧ (∀ σ5 : St, σ5 = up σ 21 (((13 : Int32) * v1) + (12 : Int32)).toNatClampNeg ((σ 0 13)) → (vp_in v1 2) ∧ (∀ σ6 : St, σ6 = up σ5 22 v1.toNatClampNeg (1 : Int32) → ∀ σ7 : St, σ7 = up σ6 0 31 (0 : Int32) → Post (1 : Int32) σ7))) ∧ (¬ (12 : Int32) ≤ v2 → (vp_in v2 12) ∧ ((vp_in (((13 : Int32) * v1) + v2) 26) ∧ (∀ σ11 : St, σ11 = up σ 21 (((13 : Int32) * v1) + v2).toNatClampNeg ((σ 4 v2.toNatClampNeg)) → ∀ x12 : Int32, x12 = v2 + (1 : Int32) → K15 v1 x12 σ11)))
def w_X9_keep_L15 (Post : Int32 → St → Prop) : Nat → Int32 → Int32 → St → Prop
  | 0 => fun _ _ _ => False
  | n + 1 => w_X9_keep_B15   Post (w_X9_keep_L15   Post n)
def w_X9_keep (p1 : Int32) (σ : St) (Post : Int32 → St → Prop) : Prop := w_X9_in (p1.toInt64) (0 : Int64) (1 : Int64) σ (fun x2 σ1 => (¬ x2 = 0 → w_X9_keep_L15 Post FU p1 (0 : Int32) σ1) ∧ (x2 = 0 → Post (-1000000001 : Int32) σ1))
set_option maxHeartbeats 4000000 in
set_option maxRecDepth 100000 in
theorem b_X9_keep_B15 {Y : CY} {Z : CZ} (C : cx SM 3 Y Z cX9_keep RX9 wsX9_keep (some .int) rmX9_keep) {Post : Int32 → St → Prop} (hQ : Qi SM Y Z Post)  {K15 : Int32 → Int32 → St → Prop} (hK15 : ∀ (v1 : Int32) (v2 : Int32) (σ : St), K15 v1 v2 σ → WW SM 3 Y Z σ 15 [(0, .ref (qa Y 0)), (1, .int v1), (2, .int v2)] []) (v1 : Int32) (v2 : Int32) (σ : St) (h : w_X9_keep_B15  Post K15 v1 v2 σ) : WW SM 3 Y Z σ 15 [(0, .ref (qa Y 0)), (1, .int v1), (2, .int v2)] [] := by
  unfold w_X9_keep_B15 at h
  refine q_iload_n C 2 dX9_keep_15 rfl ?_
  refine q_bipush (v := (12 : Int32)) C dX9_keep_16 (by decide) ?_
  refine q_icmp_ge C 44 dX9_keep_18 (by decide) (fun c4 => ?_) (fun c4 => ?_)
  · replace h := h.1 c4
    refine q_aload_n C 0 dX9_keep_44 rfl ?_
    refine q_getr (T := TX9) C kM0 iM0 inX9_keep_X9 rfl 45 (by decide) (List.mem_of_getElem? (i := 2) rfl) (fun _ h9 => h9) rfl dX9_keep_45 ?_
    refine q_bipush (v := (13 : Int32)) C dX9_keep_48 (by decide) ?_
    refine q_iload_n C 1 dX9_keep_50 rfl ?_
    refine q_imul C dX9_keep_51 ?_
    refine q_bipush (v := (12 : Int32)) C dX9_keep_52 (by decide) ?_
    refine q_iadd C dX9_keep_54 ?_
    refine q_aload_n C 0 dX9_keep_55 rfl ?_
    refine q_geti (T := TX9) C kM0 iM0 inX9_keep_X9 rfl 13 (by decide) (List.mem_of_getElem? (i := 4) rfl) (fun _ h9 => h9) rfl dX9_keep_56 ?_
    obtain ⟨g9, h⟩ := h
    refine q_iast C kM21 iM21 g9 dX9_keep_59 ?_
    refine q_nmS (fun σ5 eσ5 => ?_)
    replace h := h σ5 eσ5
    refine q_aload_n C 0 dX9_keep_60 rfl ?_
    refine q_getr (T := TX9) C kM0 iM0 inX9_keep_X9 rfl 46 (by decide) (List.mem_of_getElem? (i := 5) rfl) (fun _ h9 => h9) rfl dX9_keep_61 ?_
    refine q_iload_n C 1 dX9_keep_64 rfl ?_
    refine q_iconst (v := (1 : Int32)) C dX9_keep_65 (by decide) ?_
    obtain ⟨g8, h⟩ := h
    refine q_zast C kM22 iM22 g8 (zb_v (by decide)) dX9_keep_66 ?_
    refine q_nmS (fun σ6 eσ6 => ?_)
    replace h := h σ6 eσ6
    refine q_aload_n C 0 dX9_keep_67 rfl ?_
    refine q_iconst (v := (0 : Int32)) C dX9_keep_68 (by decide) ?_
    refine q_puti (T := TX9) C kM0 iM0 inX9_keep_X9 rfl tyX9 tyX9_ok nmX9 31 (by decide) (List.mem_of_getElem? (i := 6) rfl) (fun _ h9 => h9) rfl dgM0 rfl (ni_n _) (ni_f _) dX9_keep_69 ?_
    refine q_nmS (fun σ7 eσ7 => ?_)
    replace h := h σ7 eσ7
    refine q_iconst (v := (1 : Int32)) C dX9_keep_72 (by decide) ?_
    exact q_iret C hQ dX9_keep_73 h
  · replace h := h.2 c4
    refine q_aload_n C 0 dX9_keep_21 rfl ?_
    refine q_getr (T := TX9) C kM0 iM0 inX9_keep_X9 rfl 45 (by decide) (List.mem_of_getElem? (i := 2) rfl) (fun _ h9 => h9) rfl dX9_keep_22 ?_
    refine q_bipush (v := (13 : Int32)) C dX9_keep_25 (by decide) ?_
    refine q_iload_n C 1 dX9_keep_27 rfl ?_
    refine q_imul C dX9_keep_28 ?_
    refine q_iload_n C 2 dX9_keep_29 rfl ?_
    refine q_iadd C dX9_keep_30 ?_
    refine q_aload_n C 0 dX9_keep_31 rfl ?_
    refine q_getr (T := TX9) C kM0 iM0 inX9_keep_X9 rfl 12 (by decide) (List.mem_of_getElem? (i := 3) rfl) (fun _ h9 => h9) rfl dX9_keep_32 ?_
    refine q_iload_n C 2 dX9_keep_35 rfl ?_
    obtain ⟨g10, h⟩ := h
    refine q_iald C kM4 iM4 g10 dX9_keep_36 ?_
    obtain ⟨g13, h⟩ := h
    refine q_iast C kM21 iM21 g13 dX9_keep_37 ?_
    refine q_nmS (fun σ11 eσ11 => ?_)
    replace h := h σ11 eσ11
    obtain ⟨x12, ex12⟩ : ∃ y : Int32, y = v2 + (1 : Int32) := ⟨_, rfl⟩
    replace h := h x12 ex12
    refine q_iinc C x12 2 [(2, .int x12), (0, .ref (qa Y 0)), (1, .int v1)] dX9_keep_38 rfl (by rw [ex12]; rfl) (by decide) rfl ?_
    refine q_goto C 15 dX9_keep_41 (by decide) ?_
    refine q_sub (lv' := [(0, .ref (qa Y 0)), (1, .int v1), (2, .int x12)]) [1, 2, 0] rfl ?_
    exact hK15 v1 x12 σ11 h
theorem b_X9_keep_L15 {Y : CY} {Z : CZ} (C : cx SM 3 Y Z cX9_keep RX9 wsX9_keep (some .int) rmX9_keep) {Post : Int32 → St → Prop} (hQ : Qi SM Y Z Post)  : ∀ (n : Nat) (v1 : Int32) (v2 : Int32) (σ : St) (h : w_X9_keep_L15  Post n v1 v2 σ), WW SM 3 Y Z σ 15 [(0, .ref (qa Y 0)), (1, .int v1), (2, .int v2)] [] := by
  intro n
  induction n with
  | zero => intro v1 v2 σ h; exact h.elim
  | succ n ih => intro v1 v2 σ h; exact b_X9_keep_B15 C hQ  ih v1 v2 σ h
set_option maxHeartbeats 4000000 in
set_option maxRecDepth 100000 in
theorem b_X9_keep {Y : CY} {Z : CZ} (C : cx SM 3 Y Z cX9_keep RX9 wsX9_keep (some .int) rmX9_keep) {Post : Int32 → St → Prop} (hQ : Qi SM Y Z Post)  (p1 : Int32) (σ : St) (h : w_X9_keep p1 σ Post) : WW SM 3 Y Z σ 0 [(0, .ref (qa Y 0)), (1, .int p1)] [] := by
  unfold w_X9_keep at h
  refine q_iload_n C 1 dX9_keep_0 rfl ?_
  refine q_i2l C dX9_keep_1 ?_
  refine q_lconst (v := (0 : Int64)) C dX9_keep_2 (by decide) ?_
  refine q_lconst (v := (1 : Int64)) C dX9_keep_3 (by decide) ?_
  refine q_callSi (As := [.long p1.toInt64, .long (0 : Int64), .long (1 : Int64)]) (st := []) C (c_X9_in Y (p1.toInt64) (0 : Int64) (1 : Int64) σ _ h) gX9_keep_X9_in rfl nkX9_in rmOk_X9_keep__X9_in rfl (Nat.le_of_ble_eq_true rfl) dX9_keep_4 rfl (fun x2 σ1 h => ?_)
  refine q_if_ne C 13 dX9_keep_7 (by decide) (fun c3 => ?_) (fun c3 => ?_)
  · replace h := h.1 c3
    refine q_iconst (v := (0 : Int32)) C dX9_keep_13 (by decide) ?_
    refine q_istore_n C [(2, .int (0 : Int32)), (0, .ref (qa Y 0)), (1, .int p1)] dX9_keep_14 (by decide) rfl ?_
    refine q_sub (lv' := [(0, .ref (qa Y 0)), (1, .int p1), (2, .int (0 : Int32))]) [1, 2, 0] rfl ?_
    exact b_X9_keep_L15 C hQ FU p1 (0 : Int32) σ1 h
  · replace h := h.2 c3
    refine q_ldc (v := (-1000000001 : Int32)) C (List.mem_of_getElem? (i := 1) rfl) dX9_keep_10 ?_
    exact q_iret C hQ dX9_keep_12 h
theorem c_X9_keep (Y : CY)  (p1 : Int32) (σ : St) (Post : Int32 → St → Prop) (h : w_X9_keep p1 σ Post) : Ki SM Y yX9_keep wsX9_keep rmX9_keep [.ref (qa Y 0), .int p1] σ Post :=
  Ki_of (cc := cX9_keep) (nL := 3) (ret := (some .int)) (by decide +kernel) rfl (Nat.le_of_ble_eq_true rfl) (fun Z C hQ => b_X9_keep C hQ  p1 σ h)
abbrev rmX9_look : Room := { frames := 1, cells := 0, slots := 0, locals := 21 }
theorem nkX9_look : NmOk yX9_look 0 := by decide +kernel
theorem rmOk_X9_look__X9_has : RmOk rmX9_has rmX9_look 2 := ⟨rfl, rfl, by decide, by decide⟩
theorem inX9_look_X9 : ∀ w ∈ u_ws RX9 TX9 47, w ∈ wsX9_look := fun _ h => List.mem_cons_of_mem _ (List.mem_append_right _ h)
def w_X9_look_B51 (Post : Int32 → St → Prop) (K51 : Int32 → Int32 → St → Prop) (v1 : Int32) (v2 : Int32) (σ : St) : Prop := (((σ 4 0) + (99 : Int32)) ≤ v2 → Post (-1 : Int32) σ) ∧ (¬ ((σ 4 0) + (99 : Int32)) ≤ v2 → (¬ (σ 0 4) = 0) ∧ (w_X9_has v1 ((v2 - v2 / (σ 0 4) * (σ 0 4))) σ (fun x11 σ10 => (¬ x11 = 0 → ∀ x13 : Int32, x13 = v2 + (1 : Int32) → K51 v1 x13 σ10) ∧ (x11 = 0 → Post v2 σ10))))
def w_X9_look_L51 (Post : Int32 → St → Prop) : Nat → Int32 → Int32 → St → Prop
  | 0 => fun _ _ _ => False
  | n + 1 => w_X9_look_B51   Post (w_X9_look_L51   Post n)
def w_X9_look_B14 (Post : Int32 → St → Prop) (K14 : Int32 → Int32 → St → Prop) (v1 : Int32) (v2 : Int32) (σ : St) : Prop := ((σ 0 35) ≤ v2 → ∀ x3 : Int32, x3 = (σ 4 0) → w_X9_look_L51 Post FU v1 x3 σ) ∧ (¬ (σ 0 35) ≤ v2 → (vp_in v2 10) ∧ ((¬ (σ 0 4) = 0) ∧ (∀ x6 : Int32, x6 = (v1 ||| ((1 : Int32) <<< (((σ 14 v2.toNatClampNeg) - (σ 14 v2.toNatClampNeg) / (σ 0 4) * (σ 0 4)) &&& 31))) → ∀ x7 : Int32, x7 = v2 + (1 : Int32) → K14 x6 x7 σ)))
def w_X9_look_L14 (Post : Int32 → St → Prop) : Nat → Int32 → Int32 → St → Prop
  | 0 => fun _ _ _ => False
  | n + 1 => w_X9_look_B14   Post (w_X9_look_L14   Post n)
def w_X9_look (σ : St) (Post : Int32 → St → Prop) : Prop := (¬ (σ 0 0) = 0 → w_X9_look_L14 Post FU (0 : Int32) (0 : Int32) σ) ∧ ((σ 0 0) = 0 → Post (-1000000003 : Int32) σ)
set_option maxHeartbeats 4000000 in
set_option maxRecDepth 100000 in
theorem b_X9_look_B51 {Y : CY} {Z : CZ} (C : cx SM 3 Y Z cX9_look RX9 wsX9_look (some .int) rmX9_look) {Post : Int32 → St → Prop} (hQ : Qi SM Y Z Post)  {K51 : Int32 → Int32 → St → Prop} (hK51 : ∀ (v1 : Int32) (v2 : Int32) (σ : St), K51 v1 v2 σ → WW SM 3 Y Z σ 51 [(0, .ref (qa Y 0)), (1, .int v1), (2, .int v2)] []) (v1 : Int32) (v2 : Int32) (σ : St) (h : w_X9_look_B51  Post K51 v1 v2 σ) : WW SM 3 Y Z σ 51 [(0, .ref (qa Y 0)), (1, .int v1), (2, .int v2)] [] := by
  unfold w_X9_look_B51 at h
  refine q_iload_n C 2 dX9_look_51 rfl ?_
  refine q_aload_n C 0 dX9_look_52 rfl ?_
  refine q_getr (T := TX9) C kM0 iM0 inX9_look_X9 rfl 12 (by decide) (List.mem_of_getElem? (i := 6) rfl) (fun _ h9 => h9) rfl dX9_look_53 ?_
  refine q_iconst (v := (0 : Int32)) C dX9_look_56 (by decide) ?_
  refine q_ialdk C 0 (by decide) (by decide) (by decide) kM4 iM4 dX9_look_57 ?_
  refine q_bipush (v := (99 : Int32)) C dX9_look_58 (by decide) ?_
  refine q_iadd C dX9_look_60 ?_
  refine q_icmp_ge C 85 dX9_look_61 (by decide) (fun c8 => ?_) (fun c8 => ?_)
  · replace h := h.1 c8
    refine q_iconst (v := (-1 : Int32)) C dX9_look_85 (by decide) ?_
    exact q_iret C hQ dX9_look_86 h
  · replace h := h.2 c8
    refine q_iload_n C 1 dX9_look_64 rfl ?_
    refine q_iload_n C 2 dX9_look_65 rfl ?_
    refine q_aload_n C 0 dX9_look_66 rfl ?_
    refine q_geti (T := TX9) C kM0 iM0 inX9_look_X9 rfl 4 (by decide) (List.mem_of_getElem? (i := 5) rfl) (fun _ h9 => h9) rfl dX9_look_67 ?_
    obtain ⟨g9, h⟩ := h
    refine q_irem C dX9_look_70 g9 ?_
    refine q_callSi (As := [.int v1, .int (v2 - v2 / (σ 0 4) * (σ 0 4))]) (st := []) C (c_X9_has Y v1 ((v2 - v2 / (σ 0 4) * (σ 0 4))) σ _ h) gX9_look_X9_has rfl nkX9_has rmOk_X9_look__X9_has rfl (Nat.le_of_ble_eq_true rfl) dX9_look_71 rfl (fun x11 σ10 h => ?_)
    refine q_if_ne C 79 dX9_look_74 (by decide) (fun c12 => ?_) (fun c12 => ?_)
    · replace h := h.1 c12
      obtain ⟨x13, ex13⟩ : ∃ y : Int32, y = v2 + (1 : Int32) := ⟨_, rfl⟩
      replace h := h x13 ex13
      refine q_iinc C x13 2 [(2, .int x13), (0, .ref (qa Y 0)), (1, .int v1)] dX9_look_79 rfl (by rw [ex13]; rfl) (by decide) rfl ?_
      refine q_goto C 51 dX9_look_82 (by decide) ?_
      refine q_sub (lv' := [(0, .ref (qa Y 0)), (1, .int v1), (2, .int x13)]) [1, 2, 0] rfl ?_
      exact hK51 v1 x13 σ10 h
    · replace h := h.2 c12
      refine q_iload_n C 2 dX9_look_77 rfl ?_
      exact q_iret C hQ dX9_look_78 h
theorem b_X9_look_L51 {Y : CY} {Z : CZ} (C : cx SM 3 Y Z cX9_look RX9 wsX9_look (some .int) rmX9_look) {Post : Int32 → St → Prop} (hQ : Qi SM Y Z Post)  : ∀ (n : Nat) (v1 : Int32) (v2 : Int32) (σ : St) (h : w_X9_look_L51  Post n v1 v2 σ), WW SM 3 Y Z σ 51 [(0, .ref (qa Y 0)), (1, .int v1), (2, .int v2)] [] := by
  intro n
  induction n with
  | zero => intro v1 v2 σ h; exact h.elim
  | succ n ih => intro v1 v2 σ h; exact b_X9_look_B51 C hQ  ih v1 v2 σ h
set_option maxHeartbeats 4000000 in
set_option maxRecDepth 100000 in
theorem b_X9_look_B14 {Y : CY} {Z : CZ} (C : cx SM 3 Y Z cX9_look RX9 wsX9_look (some .int) rmX9_look) {Post : Int32 → St → Prop} (hQ : Qi SM Y Z Post)  {K14 : Int32 → Int32 → St → Prop} (hK14 : ∀ (v1 : Int32) (v2 : Int32) (σ : St), K14 v1 v2 σ → WW SM 3 Y Z σ 14 [(0, .ref (qa Y 0)), (1, .int v1), (2, .int v2)] []) (v1 : Int32) (v2 : Int32) (σ : St) (h : w_X9_look_B14  Post K14 v1 v2 σ) : WW SM 3 Y Z σ 14 [(0, .ref (qa Y 0)), (1, .int v1), (2, .int v2)] [] := by
  unfold w_X9_look_B14 at h
  refine q_iload_n C 2 dX9_look_14 rfl ?_
  refine q_aload_n C 0 dX9_look_15 rfl ?_
  refine q_geti (T := TX9) C kM0 iM0 inX9_look_X9 rfl 35 (by decide) (List.mem_of_getElem? (i := 3) rfl) (fun _ h9 => h9) rfl dX9_look_16 ?_
  refine q_icmp_ge C 44 dX9_look_19 (by decide) (fun c2 => ?_) (fun c2 => ?_)
  · replace h := h.1 c2
    refine q_aload_n C 0 dX9_look_44 rfl ?_
    refine q_getr (T := TX9) C kM0 iM0 inX9_look_X9 rfl 12 (by decide) (List.mem_of_getElem? (i := 6) rfl) (fun _ h9 => h9) rfl dX9_look_45 ?_
    refine q_iconst (v := (0 : Int32)) C dX9_look_48 (by decide) ?_
    refine q_ialdk C 0 (by decide) (by decide) (by decide) kM4 iM4 dX9_look_49 ?_
    refine q_topi (fun x3 ex3 => ?_)
    replace h := h x3 ex3
    refine q_istore_n C [(2, .int x3), (0, .ref (qa Y 0)), (1, .int v1)] dX9_look_50 (by decide) rfl ?_
    refine q_sub (lv' := [(0, .ref (qa Y 0)), (1, .int v1), (2, .int x3)]) [1, 2, 0] rfl ?_
    exact b_X9_look_L51 C hQ FU v1 x3 σ h
  · replace h := h.2 c2
    refine q_iload_n C 1 dX9_look_22 rfl ?_
    refine q_iconst (v := (1 : Int32)) C dX9_look_23 (by decide) ?_
    refine q_aload_n C 0 dX9_look_24 rfl ?_
    refine q_getr (T := TX9) C kM0 iM0 inX9_look_X9 rfl 36 (by decide) (List.mem_of_getElem? (i := 4) rfl) (fun _ h9 => h9) rfl dX9_look_25 ?_
    refine q_iload_n C 2 dX9_look_28 rfl ?_
    obtain ⟨g4, h⟩ := h
    refine q_iald C kM14 iM14 g4 dX9_look_29 ?_
    refine q_aload_n C 0 dX9_look_30 rfl ?_
    refine q_geti (T := TX9) C kM0 iM0 inX9_look_X9 rfl 4 (by decide) (List.mem_of_getElem? (i := 5) rfl) (fun _ h9 => h9) rfl dX9_look_31 ?_
    obtain ⟨g5, h⟩ := h
    refine q_irem C dX9_look_34 g5 ?_
    refine q_ishl C dX9_look_35 ?_
    refine q_ior C dX9_look_36 ?_
    refine q_topi (fun x6 ex6 => ?_)
    replace h := h x6 ex6
    refine q_istore_n C [(1, .int x6), (0, .ref (qa Y 0)), (2, .int v2)] dX9_look_37 (by decide) rfl ?_
    obtain ⟨x7, ex7⟩ : ∃ y : Int32, y = v2 + (1 : Int32) := ⟨_, rfl⟩
    replace h := h x7 ex7
    refine q_iinc C x7 2 [(2, .int x7), (1, .int x6), (0, .ref (qa Y 0))] dX9_look_38 rfl (by rw [ex7]; rfl) (by decide) rfl ?_
    refine q_goto C 14 dX9_look_41 (by decide) ?_
    refine q_sub (lv' := [(0, .ref (qa Y 0)), (1, .int x6), (2, .int x7)]) [2, 1, 0] rfl ?_
    exact hK14 x6 x7 σ h
theorem b_X9_look_L14 {Y : CY} {Z : CZ} (C : cx SM 3 Y Z cX9_look RX9 wsX9_look (some .int) rmX9_look) {Post : Int32 → St → Prop} (hQ : Qi SM Y Z Post)  : ∀ (n : Nat) (v1 : Int32) (v2 : Int32) (σ : St) (h : w_X9_look_L14  Post n v1 v2 σ), WW SM 3 Y Z σ 14 [(0, .ref (qa Y 0)), (1, .int v1), (2, .int v2)] [] := by
  intro n
  induction n with
  | zero => intro v1 v2 σ h; exact h.elim
  | succ n ih => intro v1 v2 σ h; exact b_X9_look_B14 C hQ  ih v1 v2 σ h
set_option maxHeartbeats 4000000 in
set_option maxRecDepth 100000 in
theorem b_X9_look {Y : CY} {Z : CZ} (C : cx SM 3 Y Z cX9_look RX9 wsX9_look (some .int) rmX9_look) {Post : Int32 → St → Prop} (hQ : Qi SM Y Z Post)  (σ : St) (h : w_X9_look  σ Post) : WW SM 3 Y Z σ 0 [(0, .ref (qa Y 0))] [] := by
  unfold w_X9_look at h
  refine q_aload_n C 0 dX9_look_0 rfl ?_
  refine q_geti (T := TX9) C kM0 iM0 inX9_look_X9 rfl 0 (by decide) (List.mem_of_getElem? (i := 1) rfl) (fun _ h9 => h9) rfl dX9_look_1 ?_
  refine q_if_ne C 10 dX9_look_4 (by decide) (fun c1 => ?_) (fun c1 => ?_)
  · replace h := h.1 c1
    refine q_iconst (v := (0 : Int32)) C dX9_look_10 (by decide) ?_
    refine q_istore_n C [(1, .int (0 : Int32)), (0, .ref (qa Y 0))] dX9_look_11 (by decide) rfl ?_
    refine q_iconst (v := (0 : Int32)) C dX9_look_12 (by decide) ?_
    refine q_istore_n C [(2, .int (0 : Int32)), (1, .int (0 : Int32)), (0, .ref (qa Y 0))] dX9_look_13 (by decide) rfl ?_
    refine q_sub (lv' := [(0, .ref (qa Y 0)), (1, .int (0 : Int32)), (2, .int (0 : Int32))]) [2, 1, 0] rfl ?_
    exact b_X9_look_L14 C hQ FU (0 : Int32) (0 : Int32) σ h
  · replace h := h.2 c1
    refine q_ldc (v := (-1000000003 : Int32)) C (List.mem_of_getElem? (i := 2) rfl) dX9_look_7 ?_
    exact q_iret C hQ dX9_look_9 h
theorem c_X9_look (Y : CY)  (σ : St) (Post : Int32 → St → Prop) (h : w_X9_look  σ Post) : Ki SM Y yX9_look wsX9_look rmX9_look [.ref (qa Y 0)] σ Post :=
  Ki_of (cc := cX9_look) (nL := 3) (ret := (some .int)) (by decide +kernel) rfl (Nat.le_of_ble_eq_true rfl) (fun Z C hQ => b_X9_look C hQ  σ h)
abbrev rmX9_lostWhen : Room := { frames := 2, cells := 0, slots := 0, locals := 42 }
theorem nkX9_lostWhen : NmOk yX9_lostWhen 0 := by decide +kernel
theorem rmOk_X9_lostWhen__X9_isReady : RmOk rmX9_isReady rmX9_lostWhen 1 := ⟨rfl, rfl, by decide, by decide⟩
theorem rmOk_X9_lostWhen__X9_pass : RmOk rmX9_pass rmX9_lostWhen 2 := ⟨rfl, rfl, by decide, by decide⟩
theorem rmOk_X9_lostWhen__X9_putBack : RmOk rmX9_putBack rmX9_lostWhen 2 := ⟨rfl, rfl, by decide, by decide⟩
theorem rmOk_X9_lostWhen__X9_save : RmOk rmX9_save rmX9_lostWhen 2 := ⟨rfl, rfl, by decide, by decide⟩
theorem inX9_lostWhen_X9 : ∀ w ∈ u_ws RX9 TX9 47, w ∈ wsX9_lostWhen := fun _ h => List.mem_cons_of_mem _ (List.mem_append_right _ h)
def w_X9_lostWhen_J64 (Post : Int32 → St → Prop) (s0 : Int32) (σ : St) : Prop := w_X9_putBack σ (fun σ10 => Post s0 σ10)
def w_X9_lostWhen_J42 (Post : Int32 → St → Prop) (σ : St) : Prop := (¬ (σ 4 5) = (1 : Int32) → w_X9_lostWhen_J64 Post (-1 : Int32) σ) ∧ ((σ 4 5) = (1 : Int32) → w_X9_lostWhen_J64 Post (((σ 4 0) - (1 : Int32))) σ)
def w_X9_lostWhen_B16 (Post : Int32 → St → Prop) (K16 : Int32 → St → Prop) (v1 : Int32) (σ : St) : Prop := ((999 : Int32) ≤ v1 → w_X9_lostWhen_J42 Post σ) ∧ (¬ (999 : Int32) ≤ v1 → (¬ (σ 4 5) = 0 → w_X9_lostWhen_J42 Post σ) ∧ ((σ 4 5) = 0 → w_X9_pass σ (fun σ7 => ∀ x8 : Int32, x8 = v1 + (1 : Int32) → K16 x8 σ7)))
def w_X9_lostWhen_L16 (Post : Int32 → St → Prop) : Nat → Int32 → St → Prop
  | 0 => fun _ _ => False
  | n + 1 => w_X9_lostWhen_B16   Post (w_X9_lostWhen_L16   Post n)
def w_X9_lostWhen (σ : St) (Post : Int32 → St → Prop) : Prop := w_X9_isReady σ (fun x2 σ1 => (¬ x2 = 0 → w_X9_save σ1 (fun σ4 => w_X9_lostWhen_L16 Post FU (0 : Int32) σ4)) ∧ (x2 = 0 → Post (-1000000003 : Int32) σ1))
set_option maxHeartbeats 4000000 in
set_option maxRecDepth 100000 in
theorem b_X9_lostWhen_J64 {Y : CY} {Z : CZ} (C : cx SM 2 Y Z cX9_lostWhen RX9 wsX9_lostWhen (some .int) rmX9_lostWhen) {Post : Int32 → St → Prop} (hQ : Qi SM Y Z Post)  (s0 : Int32) (σ : St) (h : w_X9_lostWhen_J64  Post s0 σ) : WW SM 2 Y Z σ 64 [(0, .ref (qa Y 0))] [.int s0] := by
  unfold w_X9_lostWhen_J64 at h
  refine q_istore_n C [(1, .int s0), (0, .ref (qa Y 0))] dX9_lostWhen_64 (by decide) rfl ?_
  refine q_aload_n C 1 dX9_lostWhen_65 rfl ?_
  refine q_callVv (As := []) (st := []) C (c_X9_putBack Y σ _ h) gX9_lostWhen_X9_putBack rfl ⟨rfl, nkX9_putBack⟩ rmOk_X9_lostWhen__X9_putBack kM0 iM0 rfl rfl (Nat.le_of_ble_eq_true rfl) dX9_lostWhen_66 rfl (fun σ10 h => ?_)
  refine q_iload_n C 0 dX9_lostWhen_69 rfl ?_
  exact q_iret C hQ dX9_lostWhen_70 h
set_option maxHeartbeats 4000000 in
set_option maxRecDepth 100000 in
theorem b_X9_lostWhen_J42 {Y : CY} {Z : CZ} (C : cx SM 2 Y Z cX9_lostWhen RX9 wsX9_lostWhen (some .int) rmX9_lostWhen) {Post : Int32 → St → Prop} (hQ : Qi SM Y Z Post)  (σ : St) (h : w_X9_lostWhen_J42  Post σ) : WW SM 2 Y Z σ 42 [(0, .ref (qa Y 0))] [] := by
  unfold w_X9_lostWhen_J42 at h
  refine q_aload_n C 0 dX9_lostWhen_42 rfl ?_
  refine q_getr (T := TX9) C kM0 iM0 inX9_lostWhen_X9 rfl 12 (by decide) (List.mem_of_getElem? (i := 2) rfl) (fun _ h9 => h9) rfl dX9_lostWhen_43 ?_
  refine q_iconst (v := (5 : Int32)) C dX9_lostWhen_46 (by decide) ?_
  refine q_ialdk C 5 (by decide) (by decide) (by decide) kM4 iM4 dX9_lostWhen_47 ?_
  refine q_iconst (v := (1 : Int32)) C dX9_lostWhen_48 (by decide) ?_
  refine q_icmp_ne C 63 dX9_lostWhen_49 (by decide) (fun c9 => ?_) (fun c9 => ?_)
  · replace h := h.1 c9
    refine q_iconst (v := (-1 : Int32)) C dX9_lostWhen_63 (by decide) ?_
    exact b_X9_lostWhen_J64 C hQ (-1 : Int32) σ h
  · replace h := h.2 c9
    refine q_aload_n C 0 dX9_lostWhen_52 rfl ?_
    refine q_getr (T := TX9) C kM0 iM0 inX9_lostWhen_X9 rfl 12 (by decide) (List.mem_of_getElem? (i := 2) rfl) (fun _ h9 => h9) rfl dX9_lostWhen_53 ?_
    refine q_iconst (v := (0 : Int32)) C dX9_lostWhen_56 (by decide) ?_
    refine q_ialdk C 0 (by decide) (by decide) (by decide) kM4 iM4 dX9_lostWhen_57 ?_
    refine q_iconst (v := (1 : Int32)) C dX9_lostWhen_58 (by decide) ?_
    refine q_isub C dX9_lostWhen_59 ?_
    refine q_goto C 64 dX9_lostWhen_60 (by decide) ?_
    exact b_X9_lostWhen_J64 C hQ (((σ 4 0) - (1 : Int32))) σ h
set_option maxHeartbeats 4000000 in
set_option maxRecDepth 100000 in
theorem b_X9_lostWhen_B16 {Y : CY} {Z : CZ} (C : cx SM 2 Y Z cX9_lostWhen RX9 wsX9_lostWhen (some .int) rmX9_lostWhen) {Post : Int32 → St → Prop} (hQ : Qi SM Y Z Post)  {K16 : Int32 → St → Prop} (hK16 : ∀ (v1 : Int32) (σ : St), K16 v1 σ → WW SM 2 Y Z σ 16 [(0, .ref (qa Y 0)), (1, .int v1)] []) (v1 : Int32) (σ : St) (h : w_X9_lostWhen_B16  Post K16 v1 σ) : WW SM 2 Y Z σ 16 [(0, .ref (qa Y 0)), (1, .int v1)] [] := by
  unfold w_X9_lostWhen_B16 at h
  refine q_iload_n C 1 dX9_lostWhen_16 rfl ?_
  refine q_sipush (v := (999 : Int32)) C dX9_lostWhen_17 (by decide) ?_
  refine q_icmp_ge C 42 dX9_lostWhen_20 (by decide) (fun c5 => ?_) (fun c5 => ?_)
  · replace h := h.1 c5
    refine q_sub (lv' := [(0, .ref (qa Y 0))]) [0] rfl ?_
    exact b_X9_lostWhen_J42 C hQ σ h
  · replace h := h.2 c5
    refine q_aload_n C 0 dX9_lostWhen_23 rfl ?_
    refine q_getr (T := TX9) C kM0 iM0 inX9_lostWhen_X9 rfl 12 (by decide) (List.mem_of_getElem? (i := 2) rfl) (fun _ h9 => h9) rfl dX9_lostWhen_24 ?_
    refine q_iconst (v := (5 : Int32)) C dX9_lostWhen_27 (by decide) ?_
    refine q_ialdk C 5 (by decide) (by decide) (by decide) kM4 iM4 dX9_lostWhen_28 ?_
    refine q_if_ne C 42 dX9_lostWhen_29 (by decide) (fun c6 => ?_) (fun c6 => ?_)
    · replace h := h.1 c6
      refine q_sub (lv' := [(0, .ref (qa Y 0))]) [0] rfl ?_
      exact b_X9_lostWhen_J42 C hQ σ h
    · replace h := h.2 c6
      refine q_aload_n C 0 dX9_lostWhen_32 rfl ?_
      refine q_callVv (As := []) (st := []) C (c_X9_pass Y σ _ h) gX9_lostWhen_X9_pass rfl ⟨rfl, nkX9_pass⟩ rmOk_X9_lostWhen__X9_pass kM0 iM0 rfl rfl (Nat.le_of_ble_eq_true rfl) dX9_lostWhen_33 rfl (fun σ7 h => ?_)
      obtain ⟨x8, ex8⟩ : ∃ y : Int32, y = v1 + (1 : Int32) := ⟨_, rfl⟩
      replace h := h x8 ex8
      refine q_iinc C x8 1 [(1, .int x8), (0, .ref (qa Y 0))] dX9_lostWhen_36 rfl (by rw [ex8]; rfl) (by decide) rfl ?_
      refine q_goto C 16 dX9_lostWhen_39 (by decide) ?_
      refine q_sub (lv' := [(0, .ref (qa Y 0)), (1, .int x8)]) [1, 0] rfl ?_
      exact hK16 x8 σ7 h
theorem b_X9_lostWhen_L16 {Y : CY} {Z : CZ} (C : cx SM 2 Y Z cX9_lostWhen RX9 wsX9_lostWhen (some .int) rmX9_lostWhen) {Post : Int32 → St → Prop} (hQ : Qi SM Y Z Post)  : ∀ (n : Nat) (v1 : Int32) (σ : St) (h : w_X9_lostWhen_L16  Post n v1 σ), WW SM 2 Y Z σ 16 [(0, .ref (qa Y 0)), (1, .int v1)] [] := by
  intro n
  induction n with
  | zero => intro v1 σ h; exact h.elim
  | succ n ih => intro v1 σ h; exact b_X9_lostWhen_B16 C hQ  ih v1 σ h
set_option maxHeartbeats 4000000 in
set_option maxRecDepth 100000 in
theorem b_X9_lostWhen {Y : CY} {Z : CZ} (C : cx SM 2 Y Z cX9_lostWhen RX9 wsX9_lostWhen (some .int) rmX9_lostWhen) {Post : Int32 → St → Prop} (hQ : Qi SM Y Z Post)  (σ : St) (h : w_X9_lostWhen  σ Post) : WW SM 2 Y Z σ 0 [(0, .ref (qa Y 0))] [] := by
  unfold w_X9_lostWhen at h
  refine q_aload_n C 0 dX9_lostWhen_0 rfl ?_
  refine q_callVi (As := []) (st := []) C (c_X9_isReady Y σ _ h) gX9_lostWhen_X9_isReady rfl ⟨rfl, nkX9_isReady⟩ rmOk_X9_lostWhen__X9_isReady kM0 iM0 rfl rfl (Nat.le_of_ble_eq_true rfl) dX9_lostWhen_1 rfl (fun x2 σ1 h => ?_)
  refine q_if_ne C 10 dX9_lostWhen_4 (by decide) (fun c3 => ?_) (fun c3 => ?_)
  · replace h := h.1 c3
    refine q_aload_n C 0 dX9_lostWhen_10 rfl ?_
    refine q_callVv (As := []) (st := []) C (c_X9_save Y σ1 _ h) gX9_lostWhen_X9_save rfl ⟨rfl, nkX9_save⟩ rmOk_X9_lostWhen__X9_save kM0 iM0 rfl rfl (Nat.le_of_ble_eq_true rfl) dX9_lostWhen_11 rfl (fun σ4 h => ?_)
    refine q_iconst (v := (0 : Int32)) C dX9_lostWhen_14 (by decide) ?_
    refine q_istore_n C [(1, .int (0 : Int32)), (0, .ref (qa Y 0))] dX9_lostWhen_15 (by decide) rfl ?_
    refine q_sub (lv' := [(0, .ref (qa Y 0)), (1, .int (0 : Int32))]) [1, 0] rfl ?_
    exact b_X9_lostWhen_L16 C hQ FU (0 : Int32) σ4 h
  · replace h := h.2 c3
    refine q_ldc (v := (-1000000003 : Int32)) C (List.mem_of_getElem? (i := 1) rfl) dX9_lostWhen_7 ?_
    exact q_iret C hQ dX9_lostWhen_9 h
theorem c_X9_lostWhen (Y : CY)  (σ : St) (Post : Int32 → St → Prop) (h : w_X9_lostWhen  σ Post) : Ki SM Y yX9_lostWhen wsX9_lostWhen rmX9_lostWhen [.ref (qa Y 0)] σ Post :=
  Ki_of (cc := cX9_lostWhen) (nL := 2) (ret := (some .int)) (by decide +kernel) rfl (Nat.le_of_ble_eq_true rfl) (fun Z C hQ => b_X9_lostWhen C hQ  σ h)
abbrev rmX9_minute : Room := { frames := 2, cells := 0, slots := 0, locals := 46 }
theorem nkX9_minute : NmOk yX9_minute 1 := by decide +kernel
theorem rmOk_X9_minute__X9_minutesRefused : RmOk rmX9_minutesRefused rmX9_minute 2 := ⟨rfl, rfl, by decide, by decide⟩
theorem rmOk_X9_minute__X9_pass : RmOk rmX9_pass rmX9_minute 2 := ⟨rfl, rfl, by decide, by decide⟩
theorem rmOk_X9_minute__X9_remember : RmOk rmX9_remember rmX9_minute 2 := ⟨rfl, rfl, by decide, by decide⟩
theorem inX9_minute_X9 : ∀ w ∈ u_ws RX9 TX9 47, w ∈ wsX9_minute := fun _ h => List.mem_cons_of_mem _ (List.mem_append_right _ h)
def w_X9_minute_J42 (Post : Int32 → St → Prop) (σ : St) : Prop := Post (((σ 4 1) + (10000 : Int32))) σ
def w_X9_minute_B18 (Post : Int32 → St → Prop) (K18 : Int32 → Int32 → St → Prop) (v1 : Int32) (v3 : Int32) (σ : St) : Prop := (v1 ≤ v3 → w_X9_minute_J42 Post σ) ∧ (¬ v1 ≤ v3 → (¬ (σ 4 5) = 0 → w_X9_minute_J42 Post σ) ∧ ((σ 4 5) = 0 → w_X9_pass σ (fun σ7 => ∀ x8 : Int32, x8 = v3 + (1 : Int32) → K18 v1 x8 σ7)))
def w_X9_minute_L18 (Post : Int32 → St → Prop) : Nat → Int32 → Int32 → St → Prop
  | 0 => fun _ _ _ => False
  | n + 1 => w_X9_minute_B18   Post (w_X9_minute_L18   Post n)
def w_X9_minute (p1 : Int32) (σ : St) (Post : Int32 → St → Prop) : Prop := w_X9_minutesRefused p1 σ (fun x2 σ1 => (x2 = 0 → w_X9_remember σ1 (fun σ4 => w_X9_minute_L18 Post FU p1 (0 : Int32) σ4)) ∧ (¬ x2 = 0 → Post x2 σ1))
set_option maxHeartbeats 4000000 in
set_option maxRecDepth 100000 in
theorem b_X9_minute_J42 {Y : CY} {Z : CZ} (C : cx SM 4 Y Z cX9_minute RX9 wsX9_minute (some .int) rmX9_minute) {Post : Int32 → St → Prop} (hQ : Qi SM Y Z Post)  (σ : St) (h : w_X9_minute_J42  Post σ) : WW SM 4 Y Z σ 42 [(0, .ref (qa Y 0))] [] := by
  unfold w_X9_minute_J42 at h
  refine q_aload_n C 0 dX9_minute_42 rfl ?_
  refine q_getr (T := TX9) C kM0 iM0 inX9_minute_X9 rfl 12 (by decide) (List.mem_of_getElem? (i := 1) rfl) (fun _ h9 => h9) rfl dX9_minute_43 ?_
  refine q_iconst (v := (1 : Int32)) C dX9_minute_46 (by decide) ?_
  refine q_ialdk C 1 (by decide) (by decide) (by decide) kM4 iM4 dX9_minute_47 ?_
  refine q_sipush (v := (10000 : Int32)) C dX9_minute_48 (by decide) ?_
  refine q_iadd C dX9_minute_51 ?_
  exact q_iret C hQ dX9_minute_52 h
set_option maxHeartbeats 4000000 in
set_option maxRecDepth 100000 in
theorem b_X9_minute_B18 {Y : CY} {Z : CZ} (C : cx SM 4 Y Z cX9_minute RX9 wsX9_minute (some .int) rmX9_minute) {Post : Int32 → St → Prop} (hQ : Qi SM Y Z Post)  {K18 : Int32 → Int32 → St → Prop} (hK18 : ∀ (v1 : Int32) (v3 : Int32) (σ : St), K18 v1 v3 σ → WW SM 4 Y Z σ 18 [(0, .ref (qa Y 0)), (1, .int v1), (3, .int v3)] []) (v1 : Int32) (v3 : Int32) (σ : St) (h : w_X9_minute_B18  Post K18 v1 v3 σ) : WW SM 4 Y Z σ 18 [(0, .ref (qa Y 0)), (1, .int v1), (3, .int v3)] [] := by
  unfold w_X9_minute_B18 at h
  refine q_iload_n C 2 dX9_minute_18 rfl ?_
  refine q_iload_n C 1 dX9_minute_19 rfl ?_
  refine q_icmp_ge C 42 dX9_minute_20 (by decide) (fun c5 => ?_) (fun c5 => ?_)
  · replace h := h.1 c5
    refine q_sub (lv' := [(0, .ref (qa Y 0))]) [0] rfl ?_
    exact b_X9_minute_J42 C hQ σ h
  · replace h := h.2 c5
    refine q_aload_n C 0 dX9_minute_23 rfl ?_
    refine q_getr (T := TX9) C kM0 iM0 inX9_minute_X9 rfl 12 (by decide) (List.mem_of_getElem? (i := 1) rfl) (fun _ h9 => h9) rfl dX9_minute_24 ?_
    refine q_iconst (v := (5 : Int32)) C dX9_minute_27 (by decide) ?_
    refine q_ialdk C 5 (by decide) (by decide) (by decide) kM4 iM4 dX9_minute_28 ?_
    refine q_if_ne C 42 dX9_minute_29 (by decide) (fun c6 => ?_) (fun c6 => ?_)
    · replace h := h.1 c6
      refine q_sub (lv' := [(0, .ref (qa Y 0))]) [0] rfl ?_
      exact b_X9_minute_J42 C hQ σ h
    · replace h := h.2 c6
      refine q_aload_n C 0 dX9_minute_32 rfl ?_
      refine q_callVv (As := []) (st := []) C (c_X9_pass Y σ _ h) gX9_minute_X9_pass rfl ⟨rfl, nkX9_pass⟩ rmOk_X9_minute__X9_pass kM0 iM0 rfl rfl (Nat.le_of_ble_eq_true rfl) dX9_minute_33 rfl (fun σ7 h => ?_)
      obtain ⟨x8, ex8⟩ : ∃ y : Int32, y = v3 + (1 : Int32) := ⟨_, rfl⟩
      replace h := h x8 ex8
      refine q_iinc C x8 2 [(3, .int x8), (0, .ref (qa Y 0)), (1, .int v1)] dX9_minute_36 rfl (by rw [ex8]; rfl) (by decide) rfl ?_
      refine q_goto C 18 dX9_minute_39 (by decide) ?_
      refine q_sub (lv' := [(0, .ref (qa Y 0)), (1, .int v1), (3, .int x8)]) [1, 2, 0] rfl ?_
      exact hK18 v1 x8 σ7 h
theorem b_X9_minute_L18 {Y : CY} {Z : CZ} (C : cx SM 4 Y Z cX9_minute RX9 wsX9_minute (some .int) rmX9_minute) {Post : Int32 → St → Prop} (hQ : Qi SM Y Z Post)  : ∀ (n : Nat) (v1 : Int32) (v3 : Int32) (σ : St) (h : w_X9_minute_L18  Post n v1 v3 σ), WW SM 4 Y Z σ 18 [(0, .ref (qa Y 0)), (1, .int v1), (3, .int v3)] [] := by
  intro n
  induction n with
  | zero => intro v1 v3 σ h; exact h.elim
  | succ n ih => intro v1 v3 σ h; exact b_X9_minute_B18 C hQ  ih v1 v3 σ h
set_option maxHeartbeats 4000000 in
set_option maxRecDepth 100000 in
theorem b_X9_minute {Y : CY} {Z : CZ} (C : cx SM 4 Y Z cX9_minute RX9 wsX9_minute (some .int) rmX9_minute) {Post : Int32 → St → Prop} (hQ : Qi SM Y Z Post)  (p1 : Int32) (σ : St) (h : w_X9_minute p1 σ Post) : WW SM 4 Y Z σ 0 [(0, .ref (qa Y 0)), (1, .int p1)] [] := by
  unfold w_X9_minute at h
  refine q_aload_n C 0 dX9_minute_0 rfl ?_
  refine q_iload_n C 1 dX9_minute_1 rfl ?_
  refine q_callVi (As := [.int p1]) (st := []) C (c_X9_minutesRefused Y p1 σ _ h) gX9_minute_X9_minutesRefused rfl ⟨rfl, nkX9_minutesRefused⟩ rmOk_X9_minute__X9_minutesRefused kM0 iM0 rfl rfl (Nat.le_of_ble_eq_true rfl) dX9_minute_2 rfl (fun x2 σ1 h => ?_)
  refine q_istore_n C [(2, .int x2), (0, .ref (qa Y 0)), (1, .int p1)] dX9_minute_5 (by decide) rfl ?_
  refine q_iload_n C 0 dX9_minute_6 rfl ?_
  refine q_if_eq C 12 dX9_minute_7 (by decide) (fun c3 => ?_) (fun c3 => ?_)
  · replace h := h.1 c3
    refine q_aload_n C 1 dX9_minute_12 rfl ?_
    refine q_callVv (As := []) (st := []) C (c_X9_remember Y σ1 _ h) gX9_minute_X9_remember rfl ⟨rfl, nkX9_remember⟩ rmOk_X9_minute__X9_remember kM0 iM0 rfl rfl (Nat.le_of_ble_eq_true rfl) dX9_minute_13 rfl (fun σ4 h => ?_)
    refine q_iconst (v := (0 : Int32)) C dX9_minute_16 (by decide) ?_
    refine q_istore_n C [(3, .int (0 : Int32)), (2, .int x2), (0, .ref (qa Y 0)), (1, .int p1)] dX9_minute_17 (by decide) rfl ?_
    refine q_sub (lv' := [(0, .ref (qa Y 0)), (1, .int p1), (3, .int (0 : Int32))]) [2, 3, 0] rfl ?_
    exact b_X9_minute_L18 C hQ FU p1 (0 : Int32) σ4 h
  · replace h := h.2 c3
    refine q_iload_n C 0 dX9_minute_10 rfl ?_
    exact q_iret C hQ dX9_minute_11 h
theorem c_X9_minute (Y : CY)  (p1 : Int32) (σ : St) (Post : Int32 → St → Prop) (h : w_X9_minute p1 σ Post) : Ki SM Y yX9_minute wsX9_minute rmX9_minute [.ref (qa Y 0), .int p1] σ Post :=
  Ki_of (cc := cX9_minute) (nL := 4) (ret := (some .int)) (by decide +kernel) rfl (Nat.le_of_ble_eq_true rfl) (fun Z C hQ => b_X9_minute C hQ  p1 σ h)
abbrev rmX9_takeMount : Room := { frames := 3, cells := 0, slots := 0, locals := 73 }
theorem nkX9_takeMount : NmOk yX9_takeMount 0 := by decide +kernel
theorem rmOk_X9_takeMount__X9_into : RmOk rmX9_into rmX9_takeMount 6 := ⟨rfl, rfl, by decide, by decide⟩
theorem inX9_takeMount_X9 : ∀ w ∈ u_ws RX9 TX9 47, w ∈ wsX9_takeMount := fun _ h => List.mem_cons_of_mem _ (List.mem_append_right _ h)
def w_X9_takeMount_J38 (Post : Int32 → St → Prop) (s0 : Int32) (σ : St) : Prop := (s0 ≤ 0 → w_X9_into 6 3 (2 : Int32) (1 : Int32) (999 : Int32) σ (fun x9 σ8 => Post x9 σ8)) ∧ (¬ s0 ≤ 0 → Post s0 σ)
def w_X9_takeMount (σ : St) (Post : Int32 → St → Prop) : Prop := ∀ σ1 : St, σ1 = up σ 0 20 (1 : Int32) → w_X9_into 6 3 (0 : Int32) (0 : Int32) (18 : Int32) σ1 (fun x3 σ2 => (x3 ≤ 0 → w_X9_into 6 3 (1 : Int32) (0 : Int32) (18 : Int32) σ2 (fun x6 σ5 => w_X9_takeMount_J38 Post x6 σ5)) ∧ (¬ x3 ≤ 0 → w_X9_takeMount_J38 Post x3 σ2))
set_option maxHeartbeats 4000000 in
set_option maxRecDepth 100000 in
theorem b_X9_takeMount_J38 {Y : CY} {Z : CZ} (C : cx SM 2 Y Z cX9_takeMount RX9 wsX9_takeMount (some .int) rmX9_takeMount) {Post : Int32 → St → Prop} (hQ : Qi SM Y Z Post)  (s0 : Int32) (σ : St) (h : w_X9_takeMount_J38  Post s0 σ) : WW SM 2 Y Z σ 38 [(0, .ref (qa Y 0))] [.int s0] := by
  unfold w_X9_takeMount_J38 at h
  refine q_istore_n C [(1, .int s0), (0, .ref (qa Y 0))] dX9_takeMount_38 (by decide) rfl ?_
  refine q_iload_n C 0 dX9_takeMount_39 rfl ?_
  refine q_if_le C 47 dX9_takeMount_40 (by decide) (fun c7 => ?_) (fun c7 => ?_)
  · replace h := h.1 c7
    refine q_aload_n C 1 dX9_takeMount_47 rfl ?_
    refine q_aload_n C 1 dX9_takeMount_48 rfl ?_
    refine q_getr (T := TX9) C kM0 iM0 inX9_takeMount_X9 rfl 21 (by decide) (List.mem_of_getElem? (i := 2) rfl) (fun _ h9 => h9) rfl dX9_takeMount_49 ?_
    refine q_iconst (v := (2 : Int32)) C dX9_takeMount_52 (by decide) ?_
    refine q_iconst (v := (1 : Int32)) C dX9_takeMount_53 (by decide) ?_
    refine q_sipush (v := (999 : Int32)) C dX9_takeMount_54 (by decide) ?_
    refine q_callVi (As := [.ref (qa Y 6), .int (2 : Int32), .int (1 : Int32), .int (999 : Int32)]) (st := []) C (c_X9_into Y kM6 iM6 (2 : Int32) (1 : Int32) (999 : Int32) σ _ h) gX9_takeMount_X9_into rfl ⟨rfl, nkX9_into⟩ rmOk_X9_takeMount__X9_into kM0 iM0 rfl rfl (Nat.le_of_ble_eq_true rfl) dX9_takeMount_57 rfl (fun x9 σ8 h => ?_)
    exact q_iret C hQ dX9_takeMount_60 h
  · replace h := h.2 c7
    refine q_iload_n C 0 dX9_takeMount_43 rfl ?_
    refine q_goto C 60 dX9_takeMount_44 (by decide) ?_
    exact q_iret C hQ dX9_takeMount_60 h
set_option maxHeartbeats 4000000 in
set_option maxRecDepth 100000 in
theorem b_X9_takeMount {Y : CY} {Z : CZ} (C : cx SM 2 Y Z cX9_takeMount RX9 wsX9_takeMount (some .int) rmX9_takeMount) {Post : Int32 → St → Prop} (hQ : Qi SM Y Z Post)  (σ : St) (h : w_X9_takeMount  σ Post) : WW SM 2 Y Z σ 0 [(0, .ref (qa Y 0))] [] := by
  unfold w_X9_takeMount at h
  refine q_aload_n C 0 dX9_takeMount_0 rfl ?_
  refine q_iconst (v := (1 : Int32)) C dX9_takeMount_1 (by decide) ?_
  refine q_puti (T := TX9) C kM0 iM0 inX9_takeMount_X9 rfl tyX9 tyX9_ok nmX9 20 (by decide) (List.mem_of_getElem? (i := 1) rfl) (fun _ h9 => h9) rfl dgM0 rfl (zb_n (by decide)) (zb_f (by decide)) dX9_takeMount_2 ?_
  refine q_nmS (fun σ1 eσ1 => ?_)
  replace h := h σ1 eσ1
  refine q_aload_n C 0 dX9_takeMount_5 rfl ?_
  refine q_aload_n C 0 dX9_takeMount_6 rfl ?_
  refine q_getr (T := TX9) C kM0 iM0 inX9_takeMount_X9 rfl 21 (by decide) (List.mem_of_getElem? (i := 2) rfl) (fun _ h9 => h9) rfl dX9_takeMount_7 ?_
  refine q_iconst (v := (0 : Int32)) C dX9_takeMount_10 (by decide) ?_
  refine q_iconst (v := (0 : Int32)) C dX9_takeMount_11 (by decide) ?_
  refine q_bipush (v := (18 : Int32)) C dX9_takeMount_12 (by decide) ?_
  refine q_callVi (As := [.ref (qa Y 6), .int (0 : Int32), .int (0 : Int32), .int (18 : Int32)]) (st := []) C (c_X9_into Y kM6 iM6 (0 : Int32) (0 : Int32) (18 : Int32) σ1 _ h) gX9_takeMount_X9_into rfl ⟨rfl, nkX9_into⟩ rmOk_X9_takeMount__X9_into kM0 iM0 rfl rfl (Nat.le_of_ble_eq_true rfl) dX9_takeMount_14 rfl (fun x3 σ2 h => ?_)
  refine q_istore_n C [(1, .int x3), (0, .ref (qa Y 0))] dX9_takeMount_17 (by decide) rfl ?_
  refine q_iload_n C 0 dX9_takeMount_18 rfl ?_
  refine q_if_le C 26 dX9_takeMount_19 (by decide) (fun c4 => ?_) (fun c4 => ?_)
  · replace h := h.1 c4
    refine q_aload_n C 1 dX9_takeMount_26 rfl ?_
    refine q_aload_n C 1 dX9_takeMount_27 rfl ?_
    refine q_getr (T := TX9) C kM0 iM0 inX9_takeMount_X9 rfl 21 (by decide) (List.mem_of_getElem? (i := 2) rfl) (fun _ h9 => h9) rfl dX9_takeMount_28 ?_
    refine q_iconst (v := (1 : Int32)) C dX9_takeMount_31 (by decide) ?_
    refine q_iconst (v := (0 : Int32)) C dX9_takeMount_32 (by decide) ?_
    refine q_bipush (v := (18 : Int32)) C dX9_takeMount_33 (by decide) ?_
    refine q_callVi (As := [.ref (qa Y 6), .int (1 : Int32), .int (0 : Int32), .int (18 : Int32)]) (st := []) C (c_X9_into Y kM6 iM6 (1 : Int32) (0 : Int32) (18 : Int32) σ2 _ h) gX9_takeMount_X9_into rfl ⟨rfl, nkX9_into⟩ rmOk_X9_takeMount__X9_into kM0 iM0 rfl rfl (Nat.le_of_ble_eq_true rfl) dX9_takeMount_35 rfl (fun x6 σ5 h => ?_)
    refine q_sub (lv' := [(0, .ref (qa Y 0))]) [1] rfl ?_
    exact b_X9_takeMount_J38 C hQ x6 σ5 h
  · replace h := h.2 c4
    refine q_iload_n C 0 dX9_takeMount_22 rfl ?_
    refine q_goto C 38 dX9_takeMount_23 (by decide) ?_
    refine q_sub (lv' := [(0, .ref (qa Y 0))]) [1] rfl ?_
    exact b_X9_takeMount_J38 C hQ x3 σ2 h
theorem c_X9_takeMount (Y : CY)  (σ : St) (Post : Int32 → St → Prop) (h : w_X9_takeMount  σ Post) : Ki SM Y yX9_takeMount wsX9_takeMount rmX9_takeMount [.ref (qa Y 0)] σ Post :=
  Ki_of (cc := cX9_takeMount) (nL := 2) (ret := (some .int)) (by decide +kernel) rfl (Nat.le_of_ble_eq_true rfl) (fun Z C hQ => b_X9_takeMount C hQ  σ h)
abbrev rmX9_takeWorm : Room := { frames := 3, cells := 0, slots := 0, locals := 73 }
theorem nkX9_takeWorm : NmOk yX9_takeWorm 0 := by decide +kernel
theorem rmOk_X9_takeWorm__X9_fails : RmOk rmX9_fails rmX9_takeWorm 3 := ⟨rfl, rfl, by decide, by decide⟩
theorem rmOk_X9_takeWorm__X9_here : RmOk rmX9_here rmX9_takeWorm 1 := ⟨rfl, rfl, by decide, by decide⟩
theorem rmOk_X9_takeWorm__X9_into : RmOk rmX9_into rmX9_takeWorm 6 := ⟨rfl, rfl, by decide, by decide⟩
theorem inX9_takeWorm_X9 : ∀ w ∈ u_ws RX9 TX9 47, w ∈ wsX9_takeWorm := fun _ h => List.mem_cons_of_mem _ (List.mem_append_right _ h)
def w_X9_takeWorm_B18 (Post : Int32 → St → Prop) (K18 : Int32 → St → Prop) (v1 : Int32) (σ : St) : Prop := (¬ v1 = 0 → Post v1 σ) ∧ (v1 = 0 → w_X9_here σ (fun x6 σ5 => (¬ x6 = (44 : Int32) → Post v1 σ5) ∧ (x6 = (44 : Int32) → (¬ (σ5 0 22) = (9 : Int32) → ∀ σ9 : St, σ9 = up σ5 0 17 (((σ5 0 17) + (1 : Int32))) → w_X9_into 7 9 ((σ9 0 22)) (0 : Int32) (18 : Int32) σ9 (fun x11 σ10 => ∀ σ12 : St, σ12 = up σ10 0 22 (((σ10 0 22) + (1 : Int32))) → K18 x11 σ12)) ∧ ((σ5 0 22) = (9 : Int32) → w_X9_fails (1 : Int32) ((σ5 0 17)) σ5 (fun x14 σ13 => Post x14 σ13)))))
def w_X9_takeWorm_L18 (Post : Int32 → St → Prop) : Nat → Int32 → St → Prop
  | 0 => fun _ _ => False
  | n + 1 => w_X9_takeWorm_B18   Post (w_X9_takeWorm_L18   Post n)
def w_X9_takeWorm (σ : St) (Post : Int32 → St → Prop) : Prop := w_X9_into 7 9 (0 : Int32) (0 : Int32) (18 : Int32) σ (fun x2 σ1 => ∀ σ3 : St, σ3 = up σ1 0 22 (1 : Int32) → w_X9_takeWorm_L18 Post FU x2 σ3)
set_option maxHeartbeats 4000000 in
set_option maxRecDepth 100000 in
theorem b_X9_takeWorm_B18 {Y : CY} {Z : CZ} (C : cx SM 2 Y Z cX9_takeWorm RX9 wsX9_takeWorm (some .int) rmX9_takeWorm) {Post : Int32 → St → Prop} (hQ : Qi SM Y Z Post)  {K18 : Int32 → St → Prop} (hK18 : ∀ (v1 : Int32) (σ : St), K18 v1 σ → WW SM 2 Y Z σ 18 [(0, .ref (qa Y 0)), (1, .int v1)] []) (v1 : Int32) (σ : St) (h : w_X9_takeWorm_B18  Post K18 v1 σ) : WW SM 2 Y Z σ 18 [(0, .ref (qa Y 0)), (1, .int v1)] [] := by
  unfold w_X9_takeWorm_B18 at h
  refine q_iload_n C 1 dX9_takeWorm_18 rfl ?_
  refine q_if_ne C 89 dX9_takeWorm_19 (by decide) (fun c4 => ?_) (fun c4 => ?_)
  · replace h := h.1 c4
    refine q_iload_n C 1 dX9_takeWorm_89 rfl ?_
    exact q_iret C hQ dX9_takeWorm_90 h
  · replace h := h.2 c4
    refine q_aload_n C 0 dX9_takeWorm_22 rfl ?_
    refine q_callVi (As := []) (st := []) C (c_X9_here Y σ _ h) gX9_takeWorm_X9_here rfl ⟨rfl, nkX9_here⟩ rmOk_X9_takeWorm__X9_here kM0 iM0 rfl rfl (Nat.le_of_ble_eq_true rfl) dX9_takeWorm_23 rfl (fun x6 σ5 h => ?_)
    refine q_bipush (v := (44 : Int32)) C dX9_takeWorm_26 (by decide) ?_
    refine q_icmp_ne C 89 dX9_takeWorm_28 (by decide) (fun c7 => ?_) (fun c7 => ?_)
    · replace h := h.1 c7
      refine q_iload_n C 1 dX9_takeWorm_89 rfl ?_
      exact q_iret C hQ dX9_takeWorm_90 h
    · replace h := h.2 c7
      refine q_aload_n C 0 dX9_takeWorm_31 rfl ?_
      refine q_geti (T := TX9) C kM0 iM0 inX9_takeWorm_X9 rfl 22 (by decide) (List.mem_of_getElem? (i := 2) rfl) (fun _ h9 => h9) rfl dX9_takeWorm_32 ?_
      refine q_bipush (v := (9 : Int32)) C dX9_takeWorm_35 (by decide) ?_
      refine q_icmp_ne C 50 dX9_takeWorm_37 (by decide) (fun c8 => ?_) (fun c8 => ?_)
      · replace h := h.1 c8
        refine q_aload_n C 0 dX9_takeWorm_50 rfl ?_
        refine q_dup C dX9_takeWorm_51 rfl ?_
        refine q_geti (T := TX9) C kM0 iM0 inX9_takeWorm_X9 rfl 17 (by decide) (List.mem_of_getElem? (i := 3) rfl) (fun _ h9 => h9) rfl dX9_takeWorm_52 ?_
        refine q_iconst (v := (1 : Int32)) C dX9_takeWorm_55 (by decide) ?_
        refine q_iadd C dX9_takeWorm_56 ?_
        refine q_puti (T := TX9) C kM0 iM0 inX9_takeWorm_X9 rfl tyX9 tyX9_ok nmX9 17 (by decide) (List.mem_of_getElem? (i := 3) rfl) (fun _ h9 => h9) rfl dgM0 rfl (ni_n _) (ni_f _) dX9_takeWorm_57 ?_
        refine q_nmS (fun σ9 eσ9 => ?_)
        replace h := h σ9 eσ9
        refine q_aload_n C 0 dX9_takeWorm_60 rfl ?_
        refine q_aload_n C 0 dX9_takeWorm_61 rfl ?_
        refine q_getr (T := TX9) C kM0 iM0 inX9_takeWorm_X9 rfl 23 (by decide) (List.mem_of_getElem? (i := 1) rfl) (fun _ h9 => h9) rfl dX9_takeWorm_62 ?_
        refine q_aload_n C 0 dX9_takeWorm_65 rfl ?_
        refine q_geti (T := TX9) C kM0 iM0 inX9_takeWorm_X9 rfl 22 (by decide) (List.mem_of_getElem? (i := 2) rfl) (fun _ h9 => h9) rfl dX9_takeWorm_66 ?_
        refine q_iconst (v := (0 : Int32)) C dX9_takeWorm_69 (by decide) ?_
        refine q_bipush (v := (18 : Int32)) C dX9_takeWorm_70 (by decide) ?_
        refine q_callVi (As := [.ref (qa Y 7), .int (σ9 0 22), .int (0 : Int32), .int (18 : Int32)]) (st := []) C (c_X9_into Y kM7 iM7 ((σ9 0 22)) (0 : Int32) (18 : Int32) σ9 _ h) gX9_takeWorm_X9_into rfl ⟨rfl, nkX9_into⟩ rmOk_X9_takeWorm__X9_into kM0 iM0 rfl rfl (Nat.le_of_ble_eq_true rfl) dX9_takeWorm_72 rfl (fun x11 σ10 h => ?_)
        refine q_istore_n C [(1, .int x11), (0, .ref (qa Y 0))] dX9_takeWorm_75 (by decide) rfl ?_
        refine q_aload_n C 1 dX9_takeWorm_76 rfl ?_
        refine q_dup C dX9_takeWorm_77 rfl ?_
        refine q_geti (T := TX9) C kM0 iM0 inX9_takeWorm_X9 rfl 22 (by decide) (List.mem_of_getElem? (i := 2) rfl) (fun _ h9 => h9) rfl dX9_takeWorm_78 ?_
        refine q_iconst (v := (1 : Int32)) C dX9_takeWorm_81 (by decide) ?_
        refine q_iadd C dX9_takeWorm_82 ?_
        refine q_puti (T := TX9) C kM0 iM0 inX9_takeWorm_X9 rfl tyX9 tyX9_ok nmX9 22 (by decide) (List.mem_of_getElem? (i := 2) rfl) (fun _ h9 => h9) rfl dgM0 rfl (ni_n _) (ni_f _) dX9_takeWorm_83 ?_
        refine q_nmS (fun σ12 eσ12 => ?_)
        replace h := h σ12 eσ12
        refine q_goto C 18 dX9_takeWorm_86 (by decide) ?_
        refine q_sub (lv' := [(0, .ref (qa Y 0)), (1, .int x11)]) [1, 0] rfl ?_
        exact hK18 x11 σ12 h
      · replace h := h.2 c8
        refine q_aload_n C 0 dX9_takeWorm_40 rfl ?_
        refine q_iconst (v := (1 : Int32)) C dX9_takeWorm_41 (by decide) ?_
        refine q_aload_n C 0 dX9_takeWorm_42 rfl ?_
        refine q_geti (T := TX9) C kM0 iM0 inX9_takeWorm_X9 rfl 17 (by decide) (List.mem_of_getElem? (i := 3) rfl) (fun _ h9 => h9) rfl dX9_takeWorm_43 ?_
        refine q_callVi (As := [.int (1 : Int32), .int (σ5 0 17)]) (st := []) C (c_X9_fails Y (1 : Int32) ((σ5 0 17)) σ5 _ h) gX9_takeWorm_X9_fails rfl ⟨rfl, nkX9_fails⟩ rmOk_X9_takeWorm__X9_fails kM0 iM0 rfl rfl (Nat.le_of_ble_eq_true rfl) dX9_takeWorm_46 rfl (fun x14 σ13 h => ?_)
        exact q_iret C hQ dX9_takeWorm_49 h
theorem b_X9_takeWorm_L18 {Y : CY} {Z : CZ} (C : cx SM 2 Y Z cX9_takeWorm RX9 wsX9_takeWorm (some .int) rmX9_takeWorm) {Post : Int32 → St → Prop} (hQ : Qi SM Y Z Post)  : ∀ (n : Nat) (v1 : Int32) (σ : St) (h : w_X9_takeWorm_L18  Post n v1 σ), WW SM 2 Y Z σ 18 [(0, .ref (qa Y 0)), (1, .int v1)] [] := by
  intro n
  induction n with
  | zero => intro v1 σ h; exact h.elim
  | succ n ih => intro v1 σ h; exact b_X9_takeWorm_B18 C hQ  ih v1 σ h
set_option maxHeartbeats 4000000 in
set_option maxRecDepth 100000 in
theorem b_X9_takeWorm {Y : CY} {Z : CZ} (C : cx SM 2 Y Z cX9_takeWorm RX9 wsX9_takeWorm (some .int) rmX9_takeWorm) {Post : Int32 → St → Prop} (hQ : Qi SM Y Z Post)  (σ : St) (h : w_X9_takeWorm  σ Post) : WW SM 2 Y Z σ 0 [(0, .ref (qa Y 0))] [] := by
  unfold w_X9_takeWorm at h
  refine q_aload_n C 0 dX9_takeWorm_0 rfl ?_
  refine q_aload_n C 0 dX9_takeWorm_1 rfl ?_
  refine q_getr (T := TX9) C kM0 iM0 inX9_takeWorm_X9 rfl 23 (by decide) (List.mem_of_getElem? (i := 1) rfl) (fun _ h9 => h9) rfl dX9_takeWorm_2 ?_
  refine q_iconst (v := (0 : Int32)) C dX9_takeWorm_5 (by decide) ?_
  refine q_iconst (v := (0 : Int32)) C dX9_takeWorm_6 (by decide) ?_
  refine q_bipush (v := (18 : Int32)) C dX9_takeWorm_7 (by decide) ?_
  refine q_callVi (As := [.ref (qa Y 7), .int (0 : Int32), .int (0 : Int32), .int (18 : Int32)]) (st := []) C (c_X9_into Y kM7 iM7 (0 : Int32) (0 : Int32) (18 : Int32) σ _ h) gX9_takeWorm_X9_into rfl ⟨rfl, nkX9_into⟩ rmOk_X9_takeWorm__X9_into kM0 iM0 rfl rfl (Nat.le_of_ble_eq_true rfl) dX9_takeWorm_9 rfl (fun x2 σ1 h => ?_)
  refine q_istore_n C [(1, .int x2), (0, .ref (qa Y 0))] dX9_takeWorm_12 (by decide) rfl ?_
  refine q_aload_n C 1 dX9_takeWorm_13 rfl ?_
  refine q_iconst (v := (1 : Int32)) C dX9_takeWorm_14 (by decide) ?_
  refine q_puti (T := TX9) C kM0 iM0 inX9_takeWorm_X9 rfl tyX9 tyX9_ok nmX9 22 (by decide) (List.mem_of_getElem? (i := 2) rfl) (fun _ h9 => h9) rfl dgM0 rfl (ni_n _) (ni_f _) dX9_takeWorm_15 ?_
  refine q_nmS (fun σ3 eσ3 => ?_)
  replace h := h σ3 eσ3
  refine q_sub (lv' := [(0, .ref (qa Y 0)), (1, .int x2)]) [1, 0] rfl ?_
  exact b_X9_takeWorm_L18 C hQ FU x2 σ3 h
theorem c_X9_takeWorm (Y : CY)  (σ : St) (Post : Int32 → St → Prop) (h : w_X9_takeWorm  σ Post) : Ki SM Y yX9_takeWorm wsX9_takeWorm rmX9_takeWorm [.ref (qa Y 0)] σ Post :=
  Ki_of (cc := cX9_takeWorm) (nL := 2) (ret := (some .int)) (by decide +kernel) rfl (Nat.le_of_ble_eq_true rfl) (fun Z C hQ => b_X9_takeWorm C hQ  σ h)
abbrev rmX9_takeJump : Room := { frames := 3, cells := 0, slots := 0, locals := 73 }
theorem nkX9_takeJump : NmOk yX9_takeJump 0 := by decide +kernel
theorem rmOk_X9_takeJump__X9_into : RmOk rmX9_into rmX9_takeJump 6 := ⟨rfl, rfl, by decide, by decide⟩
theorem inX9_takeJump_X9 : ∀ w ∈ u_ws RX9 TX9 47, w ∈ wsX9_takeJump := fun _ h => List.mem_cons_of_mem _ (List.mem_append_right _ h)
def w_X9_takeJump (σ : St) (Post : Int32 → St → Prop) : Prop := ∀ σ1 : St, σ1 = up σ 0 24 (1 : Int32) → w_X9_into 8 2 (0 : Int32) (0 : Int32) (999 : Int32) σ1 (fun x3 σ2 => (x3 ≤ 0 → w_X9_into 8 2 (1 : Int32) (0 : Int32) (198 : Int32) σ2 (fun x6 σ5 => Post x6 σ5)) ∧ (¬ x3 ≤ 0 → Post x3 σ2))
set_option maxHeartbeats 4000000 in
set_option maxRecDepth 100000 in
theorem b_X9_takeJump {Y : CY} {Z : CZ} (C : cx SM 2 Y Z cX9_takeJump RX9 wsX9_takeJump (some .int) rmX9_takeJump) {Post : Int32 → St → Prop} (hQ : Qi SM Y Z Post)  (σ : St) (h : w_X9_takeJump  σ Post) : WW SM 2 Y Z σ 0 [(0, .ref (qa Y 0))] [] := by
  unfold w_X9_takeJump at h
  refine q_aload_n C 0 dX9_takeJump_0 rfl ?_
  refine q_iconst (v := (1 : Int32)) C dX9_takeJump_1 (by decide) ?_
  refine q_puti (T := TX9) C kM0 iM0 inX9_takeJump_X9 rfl tyX9 tyX9_ok nmX9 24 (by decide) (List.mem_of_getElem? (i := 1) rfl) (fun _ h9 => h9) rfl dgM0 rfl (zb_n (by decide)) (zb_f (by decide)) dX9_takeJump_2 ?_
  refine q_nmS (fun σ1 eσ1 => ?_)
  replace h := h σ1 eσ1
  refine q_aload_n C 0 dX9_takeJump_5 rfl ?_
  refine q_aload_n C 0 dX9_takeJump_6 rfl ?_
  refine q_getr (T := TX9) C kM0 iM0 inX9_takeJump_X9 rfl 25 (by decide) (List.mem_of_getElem? (i := 2) rfl) (fun _ h9 => h9) rfl dX9_takeJump_7 ?_
  refine q_iconst (v := (0 : Int32)) C dX9_takeJump_10 (by decide) ?_
  refine q_iconst (v := (0 : Int32)) C dX9_takeJump_11 (by decide) ?_
  refine q_sipush (v := (999 : Int32)) C dX9_takeJump_12 (by decide) ?_
  refine q_callVi (As := [.ref (qa Y 8), .int (0 : Int32), .int (0 : Int32), .int (999 : Int32)]) (st := []) C (c_X9_into Y kM8 iM8 (0 : Int32) (0 : Int32) (999 : Int32) σ1 _ h) gX9_takeJump_X9_into rfl ⟨rfl, nkX9_into⟩ rmOk_X9_takeJump__X9_into kM0 iM0 rfl rfl (Nat.le_of_ble_eq_true rfl) dX9_takeJump_15 rfl (fun x3 σ2 h => ?_)
  refine q_istore_n C [(1, .int x3), (0, .ref (qa Y 0))] dX9_takeJump_18 (by decide) rfl ?_
  refine q_iload_n C 0 dX9_takeJump_19 rfl ?_
  refine q_if_le C 27 dX9_takeJump_20 (by decide) (fun c4 => ?_) (fun c4 => ?_)
  · replace h := h.1 c4
    refine q_aload_n C 1 dX9_takeJump_27 rfl ?_
    refine q_aload_n C 1 dX9_takeJump_28 rfl ?_
    refine q_getr (T := TX9) C kM0 iM0 inX9_takeJump_X9 rfl 25 (by decide) (List.mem_of_getElem? (i := 2) rfl) (fun _ h9 => h9) rfl dX9_takeJump_29 ?_
    refine q_iconst (v := (1 : Int32)) C dX9_takeJump_32 (by decide) ?_
    refine q_iconst (v := (0 : Int32)) C dX9_takeJump_33 (by decide) ?_
    refine q_sipush (v := (198 : Int32)) C dX9_takeJump_34 (by decide) ?_
    refine q_callVi (As := [.ref (qa Y 8), .int (1 : Int32), .int (0 : Int32), .int (198 : Int32)]) (st := []) C (c_X9_into Y kM8 iM8 (1 : Int32) (0 : Int32) (198 : Int32) σ2 _ h) gX9_takeJump_X9_into rfl ⟨rfl, nkX9_into⟩ rmOk_X9_takeJump__X9_into kM0 iM0 rfl rfl (Nat.le_of_ble_eq_true rfl) dX9_takeJump_37 rfl (fun x6 σ5 h => ?_)
    exact q_iret C hQ dX9_takeJump_40 h
  · replace h := h.2 c4
    refine q_iload_n C 0 dX9_takeJump_23 rfl ?_
    refine q_goto C 40 dX9_takeJump_24 (by decide) ?_
    exact q_iret C hQ dX9_takeJump_40 h
theorem c_X9_takeJump (Y : CY)  (σ : St) (Post : Int32 → St → Prop) (h : w_X9_takeJump  σ Post) : Ki SM Y yX9_takeJump wsX9_takeJump rmX9_takeJump [.ref (qa Y 0)] σ Post :=
  Ki_of (cc := cX9_takeJump) (nL := 2) (ret := (some .int)) (by decide +kernel) rfl (Nat.le_of_ble_eq_true rfl) (fun Z C hQ => b_X9_takeJump C hQ  σ h)
abbrev rmX9_takeStar : Room := { frames := 3, cells := 0, slots := 0, locals := 73 }
theorem nkX9_takeStar : NmOk yX9_takeStar 0 := by decide +kernel
theorem rmOk_X9_takeStar__X9_into : RmOk rmX9_into rmX9_takeStar 6 := ⟨rfl, rfl, by decide, by decide⟩
theorem inX9_takeStar_X9 : ∀ w ∈ u_ws RX9 TX9 47, w ∈ wsX9_takeStar := fun _ h => List.mem_cons_of_mem _ (List.mem_append_right _ h)
def w_X9_takeStar (σ : St) (Post : Int32 → St → Prop) : Prop := ∀ x1 : Int32, x1 = (σ 0 28) → ∀ σ2 : St, σ2 = up σ 0 28 (((σ 0 28) + (1 : Int32))) → w_X9_into 10 6 x1 (0 : Int32) (99 : Int32) σ2 (fun x4 σ3 => (x4 ≤ 0 → w_X9_into 11 6 x1 (1 : Int32) (9 : Int32) σ3 (fun x7 σ6 => Post x7 σ6)) ∧ (¬ x4 ≤ 0 → Post x4 σ3))
set_option maxHeartbeats 4000000 in
set_option maxRecDepth 100000 in
theorem b_X9_takeStar {Y : CY} {Z : CZ} (C : cx SM 3 Y Z cX9_takeStar RX9 wsX9_takeStar (some .int) rmX9_takeStar) {Post : Int32 → St → Prop} (hQ : Qi SM Y Z Post)  (σ : St) (h : w_X9_takeStar  σ Post) : WW SM 3 Y Z σ 0 [(0, .ref (qa Y 0))] [] := by
  unfold w_X9_takeStar at h
  refine q_aload_n C 0 dX9_takeStar_0 rfl ?_
  refine q_geti (T := TX9) C kM0 iM0 inX9_takeStar_X9 rfl 28 (by decide) (List.mem_of_getElem? (i := 1) rfl) (fun _ h9 => h9) rfl dX9_takeStar_1 ?_
  refine q_topi (fun x1 ex1 => ?_)
  replace h := h x1 ex1
  refine q_istore_n C [(1, .int x1), (0, .ref (qa Y 0))] dX9_takeStar_4 (by decide) rfl ?_
  refine q_aload_n C 1 dX9_takeStar_5 rfl ?_
  refine q_dup C dX9_takeStar_6 rfl ?_
  refine q_geti (T := TX9) C kM0 iM0 inX9_takeStar_X9 rfl 28 (by decide) (List.mem_of_getElem? (i := 1) rfl) (fun _ h9 => h9) rfl dX9_takeStar_7 ?_
  refine q_iconst (v := (1 : Int32)) C dX9_takeStar_10 (by decide) ?_
  refine q_iadd C dX9_takeStar_11 ?_
  refine q_puti (T := TX9) C kM0 iM0 inX9_takeStar_X9 rfl tyX9 tyX9_ok nmX9 28 (by decide) (List.mem_of_getElem? (i := 1) rfl) (fun _ h9 => h9) rfl dgM0 rfl (ni_n _) (ni_f _) dX9_takeStar_12 ?_
  refine q_nmS (fun σ2 eσ2 => ?_)
  replace h := h σ2 eσ2
  refine q_aload_n C 1 dX9_takeStar_15 rfl ?_
  refine q_aload_n C 1 dX9_takeStar_16 rfl ?_
  refine q_getr (T := TX9) C kM0 iM0 inX9_takeStar_X9 rfl 29 (by decide) (List.mem_of_getElem? (i := 2) rfl) (fun _ h9 => h9) rfl dX9_takeStar_17 ?_
  refine q_iload_n C 0 dX9_takeStar_20 rfl ?_
  refine q_iconst (v := (0 : Int32)) C dX9_takeStar_21 (by decide) ?_
  refine q_bipush (v := (99 : Int32)) C dX9_takeStar_22 (by decide) ?_
  refine q_callVi (As := [.ref (qa Y 10), .int x1, .int (0 : Int32), .int (99 : Int32)]) (st := []) C (c_X9_into Y kM10 iM10 x1 (0 : Int32) (99 : Int32) σ2 _ h) gX9_takeStar_X9_into rfl ⟨rfl, nkX9_into⟩ rmOk_X9_takeStar__X9_into kM0 iM0 rfl rfl (Nat.le_of_ble_eq_true rfl) dX9_takeStar_24 rfl (fun x4 σ3 h => ?_)
  refine q_istore_n C [(2, .int x4), (1, .int x1), (0, .ref (qa Y 0))] dX9_takeStar_27 (by decide) rfl ?_
  refine q_iload_n C 0 dX9_takeStar_28 rfl ?_
  refine q_if_le C 36 dX9_takeStar_29 (by decide) (fun c5 => ?_) (fun c5 => ?_)
  · replace h := h.1 c5
    refine q_aload_n C 2 dX9_takeStar_36 rfl ?_
    refine q_aload_n C 2 dX9_takeStar_37 rfl ?_
    refine q_getr (T := TX9) C kM0 iM0 inX9_takeStar_X9 rfl 30 (by decide) (List.mem_of_getElem? (i := 3) rfl) (fun _ h9 => h9) rfl dX9_takeStar_38 ?_
    refine q_iload_n C 1 dX9_takeStar_41 rfl ?_
    refine q_iconst (v := (1 : Int32)) C dX9_takeStar_42 (by decide) ?_
    refine q_bipush (v := (9 : Int32)) C dX9_takeStar_43 (by decide) ?_
    refine q_callVi (As := [.ref (qa Y 11), .int x1, .int (1 : Int32), .int (9 : Int32)]) (st := []) C (c_X9_into Y kM11 iM11 x1 (1 : Int32) (9 : Int32) σ3 _ h) gX9_takeStar_X9_into rfl ⟨rfl, nkX9_into⟩ rmOk_X9_takeStar__X9_into kM0 iM0 rfl rfl (Nat.le_of_ble_eq_true rfl) dX9_takeStar_45 rfl (fun x7 σ6 h => ?_)
    exact q_iret C hQ dX9_takeStar_48 h
  · replace h := h.2 c5
    refine q_iload_n C 0 dX9_takeStar_32 rfl ?_
    refine q_goto C 48 dX9_takeStar_33 (by decide) ?_
    exact q_iret C hQ dX9_takeStar_48 h
theorem c_X9_takeStar (Y : CY)  (σ : St) (Post : Int32 → St → Prop) (h : w_X9_takeStar  σ Post) : Ki SM Y yX9_takeStar wsX9_takeStar rmX9_takeStar [.ref (qa Y 0)] σ Post :=
  Ki_of (cc := cX9_takeStar) (nL := 3) (ret := (some .int)) (by decide +kernel) rfl (Nat.le_of_ble_eq_true rfl) (fun Z C hQ => b_X9_takeStar C hQ  σ h)
abbrev rmX9_takePress : Room := { frames := 3, cells := 0, slots := 0, locals := 73 }
theorem nkX9_takePress : NmOk yX9_takePress 0 := by decide +kernel
theorem rmOk_X9_takePress__X9_into : RmOk rmX9_into rmX9_takePress 6 := ⟨rfl, rfl, by decide, by decide⟩
theorem inX9_takePress_X9 : ∀ w ∈ u_ws RX9 TX9 47, w ∈ wsX9_takePress := fun _ h => List.mem_cons_of_mem _ (List.mem_append_right _ h)
def w_X9_takePress (σ : St) (Post : Int32 → St → Prop) : Prop := ∀ σ1 : St, σ1 = up σ 0 26 (1 : Int32) → w_X9_into 9 1 (0 : Int32) (1 : Int32) (9 : Int32) σ1 (fun x3 σ2 => Post x3 σ2)
set_option maxHeartbeats 4000000 in
set_option maxRecDepth 100000 in
theorem b_X9_takePress {Y : CY} {Z : CZ} (C : cx SM 1 Y Z cX9_takePress RX9 wsX9_takePress (some .int) rmX9_takePress) {Post : Int32 → St → Prop} (hQ : Qi SM Y Z Post)  (σ : St) (h : w_X9_takePress  σ Post) : WW SM 1 Y Z σ 0 [(0, .ref (qa Y 0))] [] := by
  unfold w_X9_takePress at h
  refine q_aload_n C 0 dX9_takePress_0 rfl ?_
  refine q_iconst (v := (1 : Int32)) C dX9_takePress_1 (by decide) ?_
  refine q_puti (T := TX9) C kM0 iM0 inX9_takePress_X9 rfl tyX9 tyX9_ok nmX9 26 (by decide) (List.mem_of_getElem? (i := 1) rfl) (fun _ h9 => h9) rfl dgM0 rfl (zb_n (by decide)) (zb_f (by decide)) dX9_takePress_2 ?_
  refine q_nmS (fun σ1 eσ1 => ?_)
  replace h := h σ1 eσ1
  refine q_aload_n C 0 dX9_takePress_5 rfl ?_
  refine q_aload_n C 0 dX9_takePress_6 rfl ?_
  refine q_getr (T := TX9) C kM0 iM0 inX9_takePress_X9 rfl 27 (by decide) (List.mem_of_getElem? (i := 2) rfl) (fun _ h9 => h9) rfl dX9_takePress_7 ?_
  refine q_iconst (v := (0 : Int32)) C dX9_takePress_10 (by decide) ?_
  refine q_iconst (v := (1 : Int32)) C dX9_takePress_11 (by decide) ?_
  refine q_bipush (v := (9 : Int32)) C dX9_takePress_12 (by decide) ?_
  refine q_callVi (As := [.ref (qa Y 9), .int (0 : Int32), .int (1 : Int32), .int (9 : Int32)]) (st := []) C (c_X9_into Y kM9 iM9 (0 : Int32) (1 : Int32) (9 : Int32) σ1 _ h) gX9_takePress_X9_into rfl ⟨rfl, nkX9_into⟩ rmOk_X9_takePress__X9_into kM0 iM0 rfl rfl (Nat.le_of_ble_eq_true rfl) dX9_takePress_14 rfl (fun x3 σ2 h => ?_)
  exact q_iret C hQ dX9_takePress_17 h
theorem c_X9_takePress (Y : CY)  (σ : St) (Post : Int32 → St → Prop) (h : w_X9_takePress  σ Post) : Ki SM Y yX9_takePress wsX9_takePress rmX9_takePress [.ref (qa Y 0)] σ Post :=
  Ki_of (cc := cX9_takePress) (nL := 1) (ret := (some .int)) (by decide +kernel) rfl (Nat.le_of_ble_eq_true rfl) (fun Z C hQ => b_X9_takePress C hQ  σ h)
abbrev rmX9_takeClause : Room := { frames := 4, cells := 0, slots := 0, locals := 95 }
theorem nkX9_takeClause : NmOk yX9_takeClause 0 := by decide +kernel
theorem rmOk_X9_takeClause__X9_fails : RmOk rmX9_fails rmX9_takeClause 3 := ⟨rfl, rfl, by decide, by decide⟩
theorem rmOk_X9_takeClause__X9_here : RmOk rmX9_here rmX9_takeClause 1 := ⟨rfl, rfl, by decide, by decide⟩
theorem rmOk_X9_takeClause__X9_takeJump : RmOk rmX9_takeJump rmX9_takeClause 2 := ⟨rfl, rfl, by decide, by decide⟩
theorem rmOk_X9_takeClause__X9_takeMount : RmOk rmX9_takeMount rmX9_takeClause 2 := ⟨rfl, rfl, by decide, by decide⟩
theorem rmOk_X9_takeClause__X9_takePress : RmOk rmX9_takePress rmX9_takeClause 1 := ⟨rfl, rfl, by decide, by decide⟩
theorem rmOk_X9_takeClause__X9_takeStar : RmOk rmX9_takeStar rmX9_takeClause 3 := ⟨rfl, rfl, by decide, by decide⟩
theorem rmOk_X9_takeClause__X9_takeWorm : RmOk rmX9_takeWorm rmX9_takeClause 2 := ⟨rfl, rfl, by decide, by decide⟩
theorem inX9_takeClause_X9 : ∀ w ∈ u_ws RX9 TX9 47, w ∈ wsX9_takeClause := fun _ h => List.mem_cons_of_mem _ (List.mem_append_right _ h)
def w_X9_takeClause_J72 (Post : Int32 → St → Prop) (σ : St) : Prop := w_X9_fails (1 : Int32) ((σ 0 17)) σ (fun x12 σ11 => Post x12 σ11)
def w_X9_takeClause_J253 (Post : Int32 → St → Prop) (v4 : Int32) (σ : St) : Prop := ∀ σ43 : St, σ43 = up σ 0 17 (((σ 0 17) + (1 : Int32))) → Post v4 σ43
def w_X9_takeClause_J227 (Post : Int32 → St → Prop) (s0 : Int32) (σ : St) : Prop := (¬ s0 = 0 → w_X9_takeClause_J253 Post s0 σ) ∧ (s0 = 0 → w_X9_here σ (fun x39 σ38 => (x39 = (59 : Int32) → w_X9_takeClause_J253 Post s0 σ38) ∧ (¬ x39 = (59 : Int32) → w_X9_fails (1 : Int32) ((σ38 0 17)) σ38 (fun x42 σ41 => Post x42 σ41))))
def w_X9_takeClause_J151 (Post : Int32 → St → Prop) (v2 : Int32) (s0 : Int32) (σ : St) : Prop := (s0 = 0 → ∀ σ20 : St, σ20 = up σ 0 17 (((σ 0 17) + (1 : Int32))) → (¬ v2 = 0 → (¬ v2 = (1 : Int32) → (¬ v2 = (2 : Int32) → (¬ v2 = (3 : Int32) → w_X9_takePress σ20 (fun x26 σ25 => w_X9_takeClause_J227 Post x26 σ25)) ∧ (v2 = (3 : Int32) → w_X9_takeStar σ20 (fun x28 σ27 => w_X9_takeClause_J227 Post x28 σ27))) ∧ (v2 = (2 : Int32) → w_X9_takeJump σ20 (fun x30 σ29 => w_X9_takeClause_J227 Post x30 σ29))) ∧ (v2 = (1 : Int32) → w_X9_takeWorm σ20 (fun x32 σ31 => w_X9_takeClause_J227 Post x32 σ31))) ∧ (v2 = 0 → w_X9_takeMount σ20 (fun x34 σ33 => w_X9_takeClause_J227 Post x34 σ33))) ∧ (¬ s0 = 0 → w_X9_fails (3 : Int32) ((σ 0 17)) σ (fun x36 σ35 => Post x36 σ35))
def w_X9_takeClause_J82 (Post : Int32 → St → Prop) (v2 : Int32) (σ : St) : Prop := (¬ v2 = 0 → (¬ v2 = (1 : Int32) → (¬ v2 = (2 : Int32) → (¬ v2 = (3 : Int32) → w_X9_takeClause_J151 Post v2 ((σ 0 26)) σ) ∧ (v2 = (3 : Int32) → (¬ (σ 0 28) = (6 : Int32) → w_X9_takeClause_J151 Post v2 (0 : Int32) σ) ∧ ((σ 0 28) = (6 : Int32) → w_X9_takeClause_J151 Post v2 (1 : Int32) σ))) ∧ (v2 = (2 : Int32) → w_X9_takeClause_J151 Post v2 ((σ 0 24)) σ)) ∧ (v2 = (1 : Int32) → ((σ 0 22) ≤ 0 → w_X9_takeClause_J151 Post v2 (0 : Int32) σ) ∧ (¬ (σ 0 22) ≤ 0 → w_X9_takeClause_J151 Post v2 (1 : Int32) σ))) ∧ (v2 = 0 → w_X9_takeClause_J151 Post v2 ((σ 0 20)) σ)
def w_X9_takeClause_J56 (Post : Int32 → St → Prop) (s0 : Int32) (σ : St) : Prop := (s0 < 0 → w_X9_takeClause_J72 Post σ) ∧ (¬ s0 < 0 → (s0 ≤ 0 → w_X9_takeClause_J82 Post s0 σ) ∧ (¬ s0 ≤ 0 → (¬ (σ 0 20) = 0 → w_X9_takeClause_J82 Post s0 σ) ∧ ((σ 0 20) = 0 → w_X9_takeClause_J72 Post σ)))
def w_X9_takeClause (σ : St) (Post : Int32 → St → Prop) : Prop := w_X9_here σ (fun x2 σ1 => (¬ x2 = (109 : Int32) → (¬ x2 = (119 : Int32) → (¬ x2 = (106 : Int32) → (¬ x2 = (115 : Int32) → (¬ x2 = (98 : Int32) → w_X9_takeClause_J56 Post (-1 : Int32) σ1) ∧ (x2 = (98 : Int32) → w_X9_takeClause_J56 Post (4 : Int32) σ1)) ∧ (x2 = (115 : Int32) → w_X9_takeClause_J56 Post (3 : Int32) σ1)) ∧ (x2 = (106 : Int32) → w_X9_takeClause_J56 Post (2 : Int32) σ1)) ∧ (x2 = (119 : Int32) → w_X9_takeClause_J56 Post (1 : Int32) σ1)) ∧ (x2 = (109 : Int32) → w_X9_takeClause_J56 Post (0 : Int32) σ1))
set_option maxHeartbeats 4000000 in
set_option maxRecDepth 100000 in
theorem b_X9_takeClause_J72 {Y : CY} {Z : CZ} (C : cx SM 5 Y Z cX9_takeClause RX9 wsX9_takeClause (some .int) rmX9_takeClause) {Post : Int32 → St → Prop} (hQ : Qi SM Y Z Post)  (σ : St) (h : w_X9_takeClause_J72  Post σ) : WW SM 5 Y Z σ 72 [(0, .ref (qa Y 0))] [] := by
  unfold w_X9_takeClause_J72 at h
  refine q_aload_n C 0 dX9_takeClause_72 rfl ?_
  refine q_iconst (v := (1 : Int32)) C dX9_takeClause_73 (by decide) ?_
  refine q_aload_n C 0 dX9_takeClause_74 rfl ?_
  refine q_geti (T := TX9) C kM0 iM0 inX9_takeClause_X9 rfl 17 (by decide) (List.mem_of_getElem? (i := 2) rfl) (fun _ h9 => h9) rfl dX9_takeClause_75 ?_
  refine q_callVi (As := [.int (1 : Int32), .int (σ 0 17)]) (st := []) C (c_X9_fails Y (1 : Int32) ((σ 0 17)) σ _ h) gX9_takeClause_X9_fails rfl ⟨rfl, nkX9_fails⟩ rmOk_X9_takeClause__X9_fails kM0 iM0 rfl rfl (Nat.le_of_ble_eq_true rfl) dX9_takeClause_78 rfl (fun x12 σ11 h => ?_)
  exact q_iret C hQ dX9_takeClause_81 h
set_option maxHeartbeats 4000000 in
set_option maxRecDepth 100000 in
theorem b_X9_takeClause_J253 {Y : CY} {Z : CZ} (C : cx SM 5 Y Z cX9_takeClause RX9 wsX9_takeClause (some .int) rmX9_takeClause) {Post : Int32 → St → Prop} (hQ : Qi SM Y Z Post)  (v4 : Int32) (σ : St) (h : w_X9_takeClause_J253  Post v4 σ) : WW SM 5 Y Z σ 253 [(0, .ref (qa Y 0)), (4, .int v4)] [] := by
  unfold w_X9_takeClause_J253 at h
  refine q_aload_n C 0 dX9_takeClause_253 rfl ?_
  refine q_dup C dX9_takeClause_254 rfl ?_
  refine q_geti (T := TX9) C kM0 iM0 inX9_takeClause_X9 rfl 17 (by decide) (List.mem_of_getElem? (i := 2) rfl) (fun _ h9 => h9) rfl dX9_takeClause_255 ?_
  refine q_iconst (v := (1 : Int32)) C dX9_takeClause_258 (by decide) ?_
  refine q_iadd C dX9_takeClause_259 ?_
  refine q_puti (T := TX9) C kM0 iM0 inX9_takeClause_X9 rfl tyX9 tyX9_ok nmX9 17 (by decide) (List.mem_of_getElem? (i := 2) rfl) (fun _ h9 => h9) rfl dgM0 rfl (ni_n _) (ni_f _) dX9_takeClause_260 ?_
  refine q_nmS (fun σ43 eσ43 => ?_)
  replace h := h σ43 eσ43
  refine q_iload C 1 dX9_takeClause_263 rfl ?_
  exact q_iret C hQ dX9_takeClause_265 h
set_option maxHeartbeats 4000000 in
set_option maxRecDepth 100000 in
theorem b_X9_takeClause_J227 {Y : CY} {Z : CZ} (C : cx SM 5 Y Z cX9_takeClause RX9 wsX9_takeClause (some .int) rmX9_takeClause) {Post : Int32 → St → Prop} (hQ : Qi SM Y Z Post)  (s0 : Int32) (σ : St) (h : w_X9_takeClause_J227  Post s0 σ) : WW SM 5 Y Z σ 227 [(0, .ref (qa Y 0))] [.int s0] := by
  unfold w_X9_takeClause_J227 at h
  refine q_istore C [(4, .int s0), (0, .ref (qa Y 0))] dX9_takeClause_227 (by decide) rfl ?_
  refine q_iload C 0 dX9_takeClause_229 rfl ?_
  refine q_if_ne C 253 dX9_takeClause_231 (by decide) (fun c37 => ?_) (fun c37 => ?_)
  · replace h := h.1 c37
    refine q_sub (lv' := [(0, .ref (qa Y 0)), (4, .int s0)]) [1, 0] rfl ?_
    exact b_X9_takeClause_J253 C hQ s0 σ h
  · replace h := h.2 c37
    refine q_aload_n C 1 dX9_takeClause_234 rfl ?_
    refine q_callVi (As := []) (st := []) C (c_X9_here Y σ _ h) gX9_takeClause_X9_here rfl ⟨rfl, nkX9_here⟩ rmOk_X9_takeClause__X9_here kM0 iM0 rfl rfl (Nat.le_of_ble_eq_true rfl) dX9_takeClause_235 rfl (fun x39 σ38 h => ?_)
    refine q_bipush (v := (59 : Int32)) C dX9_takeClause_238 (by decide) ?_
    refine q_icmp_eq C 253 dX9_takeClause_240 (by decide) (fun c40 => ?_) (fun c40 => ?_)
    · replace h := h.1 c40
      refine q_sub (lv' := [(0, .ref (qa Y 0)), (4, .int s0)]) [1, 0] rfl ?_
      exact b_X9_takeClause_J253 C hQ s0 σ38 h
    · replace h := h.2 c40
      refine q_aload_n C 1 dX9_takeClause_243 rfl ?_
      refine q_iconst (v := (1 : Int32)) C dX9_takeClause_244 (by decide) ?_
      refine q_aload_n C 1 dX9_takeClause_245 rfl ?_
      refine q_geti (T := TX9) C kM0 iM0 inX9_takeClause_X9 rfl 17 (by decide) (List.mem_of_getElem? (i := 2) rfl) (fun _ h9 => h9) rfl dX9_takeClause_246 ?_
      refine q_callVi (As := [.int (1 : Int32), .int (σ38 0 17)]) (st := []) C (c_X9_fails Y (1 : Int32) ((σ38 0 17)) σ38 _ h) gX9_takeClause_X9_fails rfl ⟨rfl, nkX9_fails⟩ rmOk_X9_takeClause__X9_fails kM0 iM0 rfl rfl (Nat.le_of_ble_eq_true rfl) dX9_takeClause_249 rfl (fun x42 σ41 h => ?_)
      exact q_iret C hQ dX9_takeClause_252 h
set_option maxHeartbeats 4000000 in
set_option maxRecDepth 100000 in
theorem b_X9_takeClause_J151 {Y : CY} {Z : CZ} (C : cx SM 5 Y Z cX9_takeClause RX9 wsX9_takeClause (some .int) rmX9_takeClause) {Post : Int32 → St → Prop} (hQ : Qi SM Y Z Post)  (v2 : Int32) (s0 : Int32) (σ : St) (h : w_X9_takeClause_J151  Post v2 s0 σ) : WW SM 5 Y Z σ 151 [(0, .ref (qa Y 0)), (2, .int v2)] [.int s0] := by
  unfold w_X9_takeClause_J151 at h
  refine q_istore_n C [(3, .int s0), (0, .ref (qa Y 0)), (2, .int v2)] dX9_takeClause_151 (by decide) rfl ?_
  refine q_iload_n C 0 dX9_takeClause_152 rfl ?_
  refine q_if_eq C 166 dX9_takeClause_153 (by decide) (fun c19 => ?_) (fun c19 => ?_)
  · replace h := h.1 c19
    refine q_aload_n C 1 dX9_takeClause_166 rfl ?_
    refine q_dup C dX9_takeClause_167 rfl ?_
    refine q_geti (T := TX9) C kM0 iM0 inX9_takeClause_X9 rfl 17 (by decide) (List.mem_of_getElem? (i := 2) rfl) (fun _ h9 => h9) rfl dX9_takeClause_168 ?_
    refine q_iconst (v := (1 : Int32)) C dX9_takeClause_171 (by decide) ?_
    refine q_iadd C dX9_takeClause_172 ?_
    refine q_puti (T := TX9) C kM0 iM0 inX9_takeClause_X9 rfl tyX9 tyX9_ok nmX9 17 (by decide) (List.mem_of_getElem? (i := 2) rfl) (fun _ h9 => h9) rfl dgM0 rfl (ni_n _) (ni_f _) dX9_takeClause_173 ?_
    refine q_nmS (fun σ20 eσ20 => ?_)
    replace h := h σ20 eσ20
    refine q_iload_n C 2 dX9_takeClause_176 rfl ?_
    refine q_if_ne C 187 dX9_takeClause_177 (by decide) (fun c21 => ?_) (fun c21 => ?_)
    · replace h := h.1 c21
      refine q_iload_n C 2 dX9_takeClause_187 rfl ?_
      refine q_iconst (v := (1 : Int32)) C dX9_takeClause_188 (by decide) ?_
      refine q_icmp_ne C 199 dX9_takeClause_189 (by decide) (fun c22 => ?_) (fun c22 => ?_)
      · replace h := h.1 c22
        refine q_iload_n C 2 dX9_takeClause_199 rfl ?_
        refine q_iconst (v := (2 : Int32)) C dX9_takeClause_200 (by decide) ?_
        refine q_icmp_ne C 211 dX9_takeClause_201 (by decide) (fun c23 => ?_) (fun c23 => ?_)
        · replace h := h.1 c23
          refine q_iload_n C 2 dX9_takeClause_211 rfl ?_
          refine q_iconst (v := (3 : Int32)) C dX9_takeClause_212 (by decide) ?_
          refine q_icmp_ne C 223 dX9_takeClause_213 (by decide) (fun c24 => ?_) (fun c24 => ?_)
          · replace h := h.1 c24
            refine q_aload_n C 1 dX9_takeClause_223 rfl ?_
            refine q_callVi (As := []) (st := []) C (c_X9_takePress Y σ20 _ h) gX9_takeClause_X9_takePress rfl ⟨rfl, nkX9_takePress⟩ rmOk_X9_takeClause__X9_takePress kM0 iM0 rfl rfl (Nat.le_of_ble_eq_true rfl) dX9_takeClause_224 rfl (fun x26 σ25 h => ?_)
            refine q_sub (lv' := [(0, .ref (qa Y 0))]) [1] rfl ?_
            exact b_X9_takeClause_J227 C hQ x26 σ25 h
          · replace h := h.2 c24
            refine q_aload_n C 1 dX9_takeClause_216 rfl ?_
            refine q_callVi (As := []) (st := []) C (c_X9_takeStar Y σ20 _ h) gX9_takeClause_X9_takeStar rfl ⟨rfl, nkX9_takeStar⟩ rmOk_X9_takeClause__X9_takeStar kM0 iM0 rfl rfl (Nat.le_of_ble_eq_true rfl) dX9_takeClause_217 rfl (fun x28 σ27 h => ?_)
            refine q_goto C 227 dX9_takeClause_220 (by decide) ?_
            refine q_sub (lv' := [(0, .ref (qa Y 0))]) [1] rfl ?_
            exact b_X9_takeClause_J227 C hQ x28 σ27 h
        · replace h := h.2 c23
          refine q_aload_n C 1 dX9_takeClause_204 rfl ?_
          refine q_callVi (As := []) (st := []) C (c_X9_takeJump Y σ20 _ h) gX9_takeClause_X9_takeJump rfl ⟨rfl, nkX9_takeJump⟩ rmOk_X9_takeClause__X9_takeJump kM0 iM0 rfl rfl (Nat.le_of_ble_eq_true rfl) dX9_takeClause_205 rfl (fun x30 σ29 h => ?_)
          refine q_goto C 227 dX9_takeClause_208 (by decide) ?_
          refine q_sub (lv' := [(0, .ref (qa Y 0))]) [1] rfl ?_
          exact b_X9_takeClause_J227 C hQ x30 σ29 h
      · replace h := h.2 c22
        refine q_aload_n C 1 dX9_takeClause_192 rfl ?_
        refine q_callVi (As := []) (st := []) C (c_X9_takeWorm Y σ20 _ h) gX9_takeClause_X9_takeWorm rfl ⟨rfl, nkX9_takeWorm⟩ rmOk_X9_takeClause__X9_takeWorm kM0 iM0 rfl rfl (Nat.le_of_ble_eq_true rfl) dX9_takeClause_193 rfl (fun x32 σ31 h => ?_)
        refine q_goto C 227 dX9_takeClause_196 (by decide) ?_
        refine q_sub (lv' := [(0, .ref (qa Y 0))]) [1] rfl ?_
        exact b_X9_takeClause_J227 C hQ x32 σ31 h
    · replace h := h.2 c21
      refine q_aload_n C 1 dX9_takeClause_180 rfl ?_
      refine q_callVi (As := []) (st := []) C (c_X9_takeMount Y σ20 _ h) gX9_takeClause_X9_takeMount rfl ⟨rfl, nkX9_takeMount⟩ rmOk_X9_takeClause__X9_takeMount kM0 iM0 rfl rfl (Nat.le_of_ble_eq_true rfl) dX9_takeClause_181 rfl (fun x34 σ33 h => ?_)
      refine q_goto C 227 dX9_takeClause_184 (by decide) ?_
      refine q_sub (lv' := [(0, .ref (qa Y 0))]) [1] rfl ?_
      exact b_X9_takeClause_J227 C hQ x34 σ33 h
  · replace h := h.2 c19
    refine q_aload_n C 1 dX9_takeClause_156 rfl ?_
    refine q_iconst (v := (3 : Int32)) C dX9_takeClause_157 (by decide) ?_
    refine q_aload_n C 1 dX9_takeClause_158 rfl ?_
    refine q_geti (T := TX9) C kM0 iM0 inX9_takeClause_X9 rfl 17 (by decide) (List.mem_of_getElem? (i := 2) rfl) (fun _ h9 => h9) rfl dX9_takeClause_159 ?_
    refine q_callVi (As := [.int (3 : Int32), .int (σ 0 17)]) (st := []) C (c_X9_fails Y (3 : Int32) ((σ 0 17)) σ _ h) gX9_takeClause_X9_fails rfl ⟨rfl, nkX9_fails⟩ rmOk_X9_takeClause__X9_fails kM0 iM0 rfl rfl (Nat.le_of_ble_eq_true rfl) dX9_takeClause_162 rfl (fun x36 σ35 h => ?_)
    exact q_iret C hQ dX9_takeClause_165 h
set_option maxHeartbeats 4000000 in
set_option maxRecDepth 100000 in
theorem b_X9_takeClause_J82 {Y : CY} {Z : CZ} (C : cx SM 5 Y Z cX9_takeClause RX9 wsX9_takeClause (some .int) rmX9_takeClause) {Post : Int32 → St → Prop} (hQ : Qi SM Y Z Post)  (v2 : Int32) (σ : St) (h : w_X9_takeClause_J82  Post v2 σ) : WW SM 5 Y Z σ 82 [(0, .ref (qa Y 0)), (2, .int v2)] [] := by
  unfold w_X9_takeClause_J82 at h
  refine q_iload_n C 1 dX9_takeClause_82 rfl ?_
  refine q_if_ne C 93 dX9_takeClause_83 (by decide) (fun c13 => ?_) (fun c13 => ?_)
  · replace h := h.1 c13
    refine q_iload_n C 1 dX9_takeClause_93 rfl ?_
    refine q_iconst (v := (1 : Int32)) C dX9_takeClause_94 (by decide) ?_
    refine q_icmp_ne C 113 dX9_takeClause_95 (by decide) (fun c14 => ?_) (fun c14 => ?_)
    · replace h := h.1 c14
      refine q_iload_n C 1 dX9_takeClause_113 rfl ?_
      refine q_iconst (v := (2 : Int32)) C dX9_takeClause_114 (by decide) ?_
      refine q_icmp_ne C 125 dX9_takeClause_115 (by decide) (fun c15 => ?_) (fun c15 => ?_)
      · replace h := h.1 c15
        refine q_iload_n C 1 dX9_takeClause_125 rfl ?_
        refine q_iconst (v := (3 : Int32)) C dX9_takeClause_126 (by decide) ?_
        refine q_icmp_ne C 147 dX9_takeClause_127 (by decide) (fun c16 => ?_) (fun c16 => ?_)
        · replace h := h.1 c16
          refine q_aload_n C 0 dX9_takeClause_147 rfl ?_
          refine q_geti (T := TX9) C kM0 iM0 inX9_takeClause_X9 rfl 26 (by decide) (List.mem_of_getElem? (i := 6) rfl) (fun _ h9 => h9) rfl dX9_takeClause_148 ?_
          exact b_X9_takeClause_J151 C hQ v2 ((σ 0 26)) σ h
        · replace h := h.2 c16
          refine q_aload_n C 0 dX9_takeClause_130 rfl ?_
          refine q_geti (T := TX9) C kM0 iM0 inX9_takeClause_X9 rfl 28 (by decide) (List.mem_of_getElem? (i := 5) rfl) (fun _ h9 => h9) rfl dX9_takeClause_131 ?_
          refine q_bipush (v := (6 : Int32)) C dX9_takeClause_134 (by decide) ?_
          refine q_icmp_ne C 143 dX9_takeClause_136 (by decide) (fun c17 => ?_) (fun c17 => ?_)
          · replace h := h.1 c17
            refine q_iconst (v := (0 : Int32)) C dX9_takeClause_143 (by decide) ?_
            refine q_goto C 151 dX9_takeClause_144 (by decide) ?_
            exact b_X9_takeClause_J151 C hQ v2 (0 : Int32) σ h
          · replace h := h.2 c17
            refine q_iconst (v := (1 : Int32)) C dX9_takeClause_139 (by decide) ?_
            refine q_goto C 151 dX9_takeClause_140 (by decide) ?_
            exact b_X9_takeClause_J151 C hQ v2 (1 : Int32) σ h
      · replace h := h.2 c15
        refine q_aload_n C 0 dX9_takeClause_118 rfl ?_
        refine q_geti (T := TX9) C kM0 iM0 inX9_takeClause_X9 rfl 24 (by decide) (List.mem_of_getElem? (i := 4) rfl) (fun _ h9 => h9) rfl dX9_takeClause_119 ?_
        refine q_goto C 151 dX9_takeClause_122 (by decide) ?_
        exact b_X9_takeClause_J151 C hQ v2 ((σ 0 24)) σ h
    · replace h := h.2 c14
      refine q_aload_n C 0 dX9_takeClause_98 rfl ?_
      refine q_geti (T := TX9) C kM0 iM0 inX9_takeClause_X9 rfl 22 (by decide) (List.mem_of_getElem? (i := 3) rfl) (fun _ h9 => h9) rfl dX9_takeClause_99 ?_
      refine q_if_le C 109 dX9_takeClause_102 (by decide) (fun c18 => ?_) (fun c18 => ?_)
      · replace h := h.1 c18
        refine q_iconst (v := (0 : Int32)) C dX9_takeClause_109 (by decide) ?_
        refine q_goto C 151 dX9_takeClause_110 (by decide) ?_
        exact b_X9_takeClause_J151 C hQ v2 (0 : Int32) σ h
      · replace h := h.2 c18
        refine q_iconst (v := (1 : Int32)) C dX9_takeClause_105 (by decide) ?_
        refine q_goto C 151 dX9_takeClause_106 (by decide) ?_
        exact b_X9_takeClause_J151 C hQ v2 (1 : Int32) σ h
  · replace h := h.2 c13
    refine q_aload_n C 0 dX9_takeClause_86 rfl ?_
    refine q_geti (T := TX9) C kM0 iM0 inX9_takeClause_X9 rfl 20 (by decide) (List.mem_of_getElem? (i := 1) rfl) (fun _ h9 => h9) rfl dX9_takeClause_87 ?_
    refine q_goto C 151 dX9_takeClause_90 (by decide) ?_
    exact b_X9_takeClause_J151 C hQ v2 ((σ 0 20)) σ h
set_option maxHeartbeats 4000000 in
set_option maxRecDepth 100000 in
theorem b_X9_takeClause_J56 {Y : CY} {Z : CZ} (C : cx SM 5 Y Z cX9_takeClause RX9 wsX9_takeClause (some .int) rmX9_takeClause) {Post : Int32 → St → Prop} (hQ : Qi SM Y Z Post)  (s0 : Int32) (σ : St) (h : w_X9_takeClause_J56  Post s0 σ) : WW SM 5 Y Z σ 56 [(0, .ref (qa Y 0))] [.int s0] := by
  unfold w_X9_takeClause_J56 at h
  refine q_istore_n C [(2, .int s0), (0, .ref (qa Y 0))] dX9_takeClause_56 (by decide) rfl ?_
  refine q_iload_n C 0 dX9_takeClause_57 rfl ?_
  refine q_if_lt C 72 dX9_takeClause_58 (by decide) (fun c8 => ?_) (fun c8 => ?_)
  · replace h := h.1 c8
    refine q_sub (lv' := [(0, .ref (qa Y 0))]) [1] rfl ?_
    exact b_X9_takeClause_J72 C hQ σ h
  · replace h := h.2 c8
    refine q_iload_n C 0 dX9_takeClause_61 rfl ?_
    refine q_if_le C 82 dX9_takeClause_62 (by decide) (fun c9 => ?_) (fun c9 => ?_)
    · replace h := h.1 c9
      refine q_sub (lv' := [(0, .ref (qa Y 0)), (2, .int s0)]) [1, 0] rfl ?_
      exact b_X9_takeClause_J82 C hQ s0 σ h
    · replace h := h.2 c9
      refine q_aload_n C 1 dX9_takeClause_65 rfl ?_
      refine q_geti (T := TX9) C kM0 iM0 inX9_takeClause_X9 rfl 20 (by decide) (List.mem_of_getElem? (i := 1) rfl) (fun _ h9 => h9) rfl dX9_takeClause_66 ?_
      refine q_if_ne C 82 dX9_takeClause_69 (by decide) (fun c10 => ?_) (fun c10 => ?_)
      · replace h := h.1 c10
        refine q_sub (lv' := [(0, .ref (qa Y 0)), (2, .int s0)]) [1, 0] rfl ?_
        exact b_X9_takeClause_J82 C hQ s0 σ h
      · replace h := h.2 c10
        refine q_sub (lv' := [(0, .ref (qa Y 0))]) [1] rfl ?_
        exact b_X9_takeClause_J72 C hQ σ h
set_option maxHeartbeats 4000000 in
set_option maxRecDepth 100000 in
theorem b_X9_takeClause {Y : CY} {Z : CZ} (C : cx SM 5 Y Z cX9_takeClause RX9 wsX9_takeClause (some .int) rmX9_takeClause) {Post : Int32 → St → Prop} (hQ : Qi SM Y Z Post)  (σ : St) (h : w_X9_takeClause  σ Post) : WW SM 5 Y Z σ 0 [(0, .ref (qa Y 0))] [] := by
  unfold w_X9_takeClause at h
  refine q_aload_n C 0 dX9_takeClause_0 rfl ?_
  refine q_callVi (As := []) (st := []) C (c_X9_here Y σ _ h) gX9_takeClause_X9_here rfl ⟨rfl, nkX9_here⟩ rmOk_X9_takeClause__X9_here kM0 iM0 rfl rfl (Nat.le_of_ble_eq_true rfl) dX9_takeClause_1 rfl (fun x2 σ1 h => ?_)
  refine q_istore_n C [(1, .int x2), (0, .ref (qa Y 0))] dX9_takeClause_4 (by decide) rfl ?_
  refine q_iload_n C 0 dX9_takeClause_5 rfl ?_
  refine q_bipush (v := (109 : Int32)) C dX9_takeClause_6 (by decide) ?_
  refine q_icmp_ne C 15 dX9_takeClause_8 (by decide) (fun c3 => ?_) (fun c3 => ?_)
  · replace h := h.1 c3
    refine q_iload_n C 0 dX9_takeClause_15 rfl ?_
    refine q_bipush (v := (119 : Int32)) C dX9_takeClause_16 (by decide) ?_
    refine q_icmp_ne C 25 dX9_takeClause_18 (by decide) (fun c4 => ?_) (fun c4 => ?_)
    · replace h := h.1 c4
      refine q_iload_n C 0 dX9_takeClause_25 rfl ?_
      refine q_bipush (v := (106 : Int32)) C dX9_takeClause_26 (by decide) ?_
      refine q_icmp_ne C 35 dX9_takeClause_28 (by decide) (fun c5 => ?_) (fun c5 => ?_)
      · replace h := h.1 c5
        refine q_iload_n C 0 dX9_takeClause_35 rfl ?_
        refine q_bipush (v := (115 : Int32)) C dX9_takeClause_36 (by decide) ?_
        refine q_icmp_ne C 45 dX9_takeClause_38 (by decide) (fun c6 => ?_) (fun c6 => ?_)
        · replace h := h.1 c6
          refine q_iload_n C 0 dX9_takeClause_45 rfl ?_
          refine q_bipush (v := (98 : Int32)) C dX9_takeClause_46 (by decide) ?_
          refine q_icmp_ne C 55 dX9_takeClause_48 (by decide) (fun c7 => ?_) (fun c7 => ?_)
          · replace h := h.1 c7
            refine q_iconst (v := (-1 : Int32)) C dX9_takeClause_55 (by decide) ?_
            refine q_sub (lv' := [(0, .ref (qa Y 0))]) [1] rfl ?_
            exact b_X9_takeClause_J56 C hQ (-1 : Int32) σ1 h
          · replace h := h.2 c7
            refine q_iconst (v := (4 : Int32)) C dX9_takeClause_51 (by decide) ?_
            refine q_goto C 56 dX9_takeClause_52 (by decide) ?_
            refine q_sub (lv' := [(0, .ref (qa Y 0))]) [1] rfl ?_
            exact b_X9_takeClause_J56 C hQ (4 : Int32) σ1 h
        · replace h := h.2 c6
          refine q_iconst (v := (3 : Int32)) C dX9_takeClause_41 (by decide) ?_
          refine q_goto C 56 dX9_takeClause_42 (by decide) ?_
          refine q_sub (lv' := [(0, .ref (qa Y 0))]) [1] rfl ?_
          exact b_X9_takeClause_J56 C hQ (3 : Int32) σ1 h
      · replace h := h.2 c5
        refine q_iconst (v := (2 : Int32)) C dX9_takeClause_31 (by decide) ?_
        refine q_goto C 56 dX9_takeClause_32 (by decide) ?_
        refine q_sub (lv' := [(0, .ref (qa Y 0))]) [1] rfl ?_
        exact b_X9_takeClause_J56 C hQ (2 : Int32) σ1 h
    · replace h := h.2 c4
      refine q_iconst (v := (1 : Int32)) C dX9_takeClause_21 (by decide) ?_
      refine q_goto C 56 dX9_takeClause_22 (by decide) ?_
      refine q_sub (lv' := [(0, .ref (qa Y 0))]) [1] rfl ?_
      exact b_X9_takeClause_J56 C hQ (1 : Int32) σ1 h
  · replace h := h.2 c3
    refine q_iconst (v := (0 : Int32)) C dX9_takeClause_11 (by decide) ?_
    refine q_goto C 56 dX9_takeClause_12 (by decide) ?_
    refine q_sub (lv' := [(0, .ref (qa Y 0))]) [1] rfl ?_
    exact b_X9_takeClause_J56 C hQ (0 : Int32) σ1 h
theorem c_X9_takeClause (Y : CY)  (σ : St) (Post : Int32 → St → Prop) (h : w_X9_takeClause  σ Post) : Ki SM Y yX9_takeClause wsX9_takeClause rmX9_takeClause [.ref (qa Y 0)] σ Post :=
  Ki_of (cc := cX9_takeClause) (nL := 5) (ret := (some .int)) (by decide +kernel) rfl (Nat.le_of_ble_eq_true rfl) (fun Z C hQ => b_X9_takeClause C hQ  σ h)
abbrev rmX9_takeRead : Room := { frames := 0, cells := 0, slots := 0, locals := 0 }
theorem nkX9_takeRead : NmOk yX9_takeRead 0 := by decide +kernel
theorem inX9_takeRead_X9 : ∀ w ∈ u_ws RX9 TX9 47, w ∈ wsX9_takeRead := fun _ h => List.mem_cons_of_mem _ (List.mem_append_right _ h)
def w_X9_takeRead_J130 (K98 : Int32 → St → Prop) (Post : St → Prop) (v1 : Int32) (s0 : Int32) (s1 : Int32) (σ : St) : Prop := (vp_in s1 9) ∧ (∀ σ17 : St, σ17 = up σ 1 s1.toNatClampNeg s0 → ∀ x18 : Int32, x18 = v1 + (1 : Int32) → K98 x18 σ17)
def w_X9_takeRead_B253 (Post : St → Prop) (K253 : Int32 → St → Prop) (v1 : Int32) (σ : St) : Prop := ((12 : Int32) ≤ v1 → Post σ) ∧ (¬ (12 : Int32) ≤ v1 → (vp_in v1 12) ∧ (∀ σ33 : St, σ33 = up σ 4 v1.toNatClampNeg (0 : Int32) → ∀ x34 : Int32, x34 = v1 + (1 : Int32) → K253 x34 σ33))
def w_X9_takeRead_L253 (Post : St → Prop) : Nat → Int32 → St → Prop
  | 0 => fun _ _ => False
  | n + 1 => w_X9_takeRead_B253   Post (w_X9_takeRead_L253   Post n)
def w_X9_takeRead_B213 (Post : St → Prop) (K213 : Int32 → St → Prop) (v1 : Int32) (σ : St) : Prop := ((σ 0 9) ≤ v1 → w_X9_takeRead_L253 Post FU (0 : Int32) σ) ∧ (¬ (σ 0 9) ≤ v1 → (vp_in v1 6) ∧ ((vp_in v1 6) ∧ (∀ σ26 : St, σ26 = up σ 2 v1.toNatClampNeg ((σ 10 v1.toNatClampNeg)) → (vp_in v1 6) ∧ ((vp_in v1 6) ∧ (∀ σ28 : St, σ28 = up σ26 3 v1.toNatClampNeg ((σ26 11 v1.toNatClampNeg)) → ∀ x29 : Int32, x29 = v1 + (1 : Int32) → K213 x29 σ28)))))
def w_X9_takeRead_L213 (Post : St → Prop) : Nat → Int32 → St → Prop
  | 0 => fun _ _ => False
  | n + 1 => w_X9_takeRead_B213   Post (w_X9_takeRead_L213   Post n)
def w_X9_takeRead_J200 (Post : St → Prop) (s0 : Int32) (σ : St) : Prop := ∀ σ22 : St, σ22 = up σ 0 8 s0 → ∀ σ23 : St, σ23 = up σ22 0 9 ((σ22 0 28)) → w_X9_takeRead_L213 Post FU (0 : Int32) σ23
def w_X9_takeRead_J179 (Post : St → Prop) (s0 : Int32) (σ : St) : Prop := ∀ σ20 : St, σ20 = up σ 0 7 s0 → ((σ20 0 26) = 0 → w_X9_takeRead_J200 Post (1 : Int32) σ20) ∧ (¬ (σ20 0 26) = 0 → w_X9_takeRead_J200 Post ((σ20 9 0)) σ20)
def w_X9_takeRead_J155 (Post : St → Prop) (s0 : Int32) (σ : St) : Prop := ∀ σ15 : St, σ15 = up σ 0 6 s0 → ((σ15 0 24) = 0 → w_X9_takeRead_J179 Post (0 : Int32) σ15) ∧ (¬ (σ15 0 24) = 0 → w_X9_takeRead_J179 Post (((σ15 8 1) - (99 : Int32))) σ15)
def w_X9_takeRead_B98 (Post : St → Prop) (K98 : Int32 → St → Prop) (v1 : Int32) (σ : St) : Prop := ((9 : Int32) ≤ v1 → ((σ 0 24) = 0 → w_X9_takeRead_J155 Post (-1 : Int32) σ) ∧ (¬ (σ 0 24) = 0 → w_X9_takeRead_J155 Post ((σ 8 0)) σ)) ∧ (¬ (9 : Int32) ≤ v1 → ((σ 0 22) ≤ v1 → w_X9_takeRead_J130 K98 Post v1 (0 : Int32) v1 σ) ∧ (¬ (σ 0 22) ≤ v1 → (vp_in v1 9) ∧ (w_X9_takeRead_J130 K98 Post v1 (((σ 7 v1.toNatClampNeg) - (9 : Int32))) v1 σ)))
def w_X9_takeRead_L98 (Post : St → Prop) : Nat → Int32 → St → Prop
  | 0 => fun _ _ => False
  | n + 1 => w_X9_takeRead_B98   Post (w_X9_takeRead_L98   Post n)
def w_X9_takeRead_J93 (Post : St → Prop) (s0 : Int32) (σ : St) : Prop := ∀ σ10 : St, σ10 = up σ 0 4 s0 → w_X9_takeRead_L98 Post FU (0 : Int32) σ10
def w_X9_takeRead_J74 (Post : St → Prop) (s0 : Int32) (σ : St) : Prop := ∀ σ8 : St, σ8 = up σ 0 3 s0 → ((σ8 0 22) ≤ 0 → w_X9_takeRead_J93 Post (1 : Int32) σ8) ∧ (¬ (σ8 0 22) ≤ 0 → w_X9_takeRead_J93 Post ((σ8 0 22)) σ8)
def w_X9_takeRead_J53 (Post : St → Prop) (s0 : Int32) (σ : St) : Prop := ∀ σ6 : St, σ6 = up σ 0 2 s0 → ((σ6 0 20) = 0 → w_X9_takeRead_J74 Post (0 : Int32) σ6) ∧ (¬ (σ6 0 20) = 0 → w_X9_takeRead_J74 Post ((σ6 6 2)) σ6)
def w_X9_takeRead_J29 (Post : St → Prop) (s0 : Int32) (σ : St) : Prop := ∀ σ4 : St, σ4 = up σ 0 1 s0 → ((σ4 0 20) = 0 → w_X9_takeRead_J53 Post (0 : Int32) σ4) ∧ (¬ (σ4 0 20) = 0 → w_X9_takeRead_J53 Post (((σ4 6 1) - (9 : Int32))) σ4)
def w_X9_takeRead (σ : St) (Post : St → Prop) : Prop := ((σ 0 20) = 0 ∨ (σ 0 20) = 1) ∧ (∀ σ1 : St, σ1 = up σ 0 0 ((σ 0 20)) → ((σ1 0 20) = 0 → w_X9_takeRead_J29 Post (0 : Int32) σ1) ∧ (¬ (σ1 0 20) = 0 → w_X9_takeRead_J29 Post (((σ1 6 0) - (9 : Int32))) σ1))
set_option maxHeartbeats 4000000 in
set_option maxRecDepth 100000 in
theorem b_X9_takeRead_J130 {Y : CY} {Z : CZ} (C : cx SM 2 Y Z cX9_takeRead RX9 wsX9_takeRead none rmX9_takeRead) {Post : St → Prop} (hQ : Qv SM Y Z Post)  {K98 : Int32 → St → Prop} (hK98 : ∀ (v1 : Int32) (σ : St), K98 v1 σ → WW SM 2 Y Z σ 98 [(0, .ref (qa Y 0)), (1, .int v1)] []) (v1 : Int32) (s0 : Int32) (s1 : Int32) (σ : St) (h : w_X9_takeRead_J130 K98 Post v1 s0 s1 σ) : WW SM 2 Y Z σ 130 [(0, .ref (qa Y 0)), (1, .int v1)] [.int s0, .int s1, .ref (qa Y 1)] := by
  unfold w_X9_takeRead_J130 at h
  obtain ⟨g19, h⟩ := h
  refine q_iast C kM1 iM1 g19 dX9_takeRead_130 ?_
  refine q_nmS (fun σ17 eσ17 => ?_)
  replace h := h σ17 eσ17
  obtain ⟨x18, ex18⟩ : ∃ y : Int32, y = v1 + (1 : Int32) := ⟨_, rfl⟩
  replace h := h x18 ex18
  refine q_iinc C x18 1 [(1, .int x18), (0, .ref (qa Y 0))] dX9_takeRead_131 rfl (by rw [ex18]; rfl) (by decide) rfl ?_
  refine q_goto C 98 dX9_takeRead_134 (by decide) ?_
  refine q_sub (lv' := [(0, .ref (qa Y 0)), (1, .int x18)]) [1, 0] rfl ?_
  exact hK98 x18 σ17 h
set_option maxHeartbeats 4000000 in
set_option maxRecDepth 100000 in
theorem b_X9_takeRead_B253 {Y : CY} {Z : CZ} (C : cx SM 2 Y Z cX9_takeRead RX9 wsX9_takeRead none rmX9_takeRead) {Post : St → Prop} (hQ : Qv SM Y Z Post)  {K253 : Int32 → St → Prop} (hK253 : ∀ (v1 : Int32) (σ : St), K253 v1 σ → WW SM 2 Y Z σ 253 [(0, .ref (qa Y 0)), (1, .int v1)] []) (v1 : Int32) (σ : St) (h : w_X9_takeRead_B253  Post K253 v1 σ) : WW SM 2 Y Z σ 253 [(0, .ref (qa Y 0)), (1, .int v1)] [] := by
  unfold w_X9_takeRead_B253 at h
  refine q_iload_n C 1 dX9_takeRead_253 rfl ?_
  refine q_bipush (v := (12 : Int32)) C dX9_takeRead_254 (by decide) ?_
  refine q_icmp_ge C 272 dX9_takeRead_256 (by decide) (fun c32 => ?_) (fun c32 => ?_)
  · replace h := h.1 c32
    exact q_vret C hQ dX9_takeRead_272 h
  · replace h := h.2 c32
    refine q_aload_n C 0 dX9_takeRead_259 rfl ?_
    refine q_getr (T := TX9) C kM0 iM0 inX9_takeRead_X9 rfl 12 (by decide) (List.mem_of_getElem? (i := 24) rfl) (fun _ h9 => h9) rfl dX9_takeRead_260 ?_
    refine q_iload_n C 1 dX9_takeRead_263 rfl ?_
    refine q_iconst (v := (0 : Int32)) C dX9_takeRead_264 (by decide) ?_
    obtain ⟨g35, h⟩ := h
    refine q_iast C kM4 iM4 g35 dX9_takeRead_265 ?_
    refine q_nmS (fun σ33 eσ33 => ?_)
    replace h := h σ33 eσ33
    obtain ⟨x34, ex34⟩ : ∃ y : Int32, y = v1 + (1 : Int32) := ⟨_, rfl⟩
    replace h := h x34 ex34
    refine q_iinc C x34 1 [(1, .int x34), (0, .ref (qa Y 0))] dX9_takeRead_266 rfl (by rw [ex34]; rfl) (by decide) rfl ?_
    refine q_goto C 253 dX9_takeRead_269 (by decide) ?_
    refine q_sub (lv' := [(0, .ref (qa Y 0)), (1, .int x34)]) [1, 0] rfl ?_
    exact hK253 x34 σ33 h
theorem b_X9_takeRead_L253 {Y : CY} {Z : CZ} (C : cx SM 2 Y Z cX9_takeRead RX9 wsX9_takeRead none rmX9_takeRead) {Post : St → Prop} (hQ : Qv SM Y Z Post)  : ∀ (n : Nat) (v1 : Int32) (σ : St) (h : w_X9_takeRead_L253  Post n v1 σ), WW SM 2 Y Z σ 253 [(0, .ref (qa Y 0)), (1, .int v1)] [] := by
  intro n
  induction n with
  | zero => intro v1 σ h; exact h.elim
  | succ n ih => intro v1 σ h; exact b_X9_takeRead_B253 C hQ  ih v1 σ h
set_option maxHeartbeats 4000000 in
set_option maxRecDepth 100000 in
theorem b_X9_takeRead_B213 {Y : CY} {Z : CZ} (C : cx SM 2 Y Z cX9_takeRead RX9 wsX9_takeRead none rmX9_takeRead) {Post : St → Prop} (hQ : Qv SM Y Z Post)  {K213 : Int32 → St → Prop} (hK213 : ∀ (v1 : Int32) (σ : St), K213 v1 σ → WW SM 2 Y Z σ 213 [(0, .ref (qa Y 0)), (1, .int v1)] []) (v1 : Int32) (σ : St) (h : w_X9_takeRead_B213  Post K213 v1 σ) : WW SM 2 Y Z σ 213 [(0, .ref (qa Y 0)), (1, .int v1)] [] := by
  unfold w_X9_takeRead_B213 at h
  refine q_iload_n C 1 dX9_takeRead_213 rfl ?_
  refine q_aload_n C 0 dX9_takeRead_214 rfl ?_
  refine q_geti (T := TX9) C kM0 iM0 inX9_takeRead_X9 rfl 9 (by decide) (List.mem_of_getElem? (i := 19) rfl) (fun _ h9 => h9) rfl dX9_takeRead_215 ?_
  refine q_icmp_ge C 251 dX9_takeRead_218 (by decide) (fun c24 => ?_) (fun c24 => ?_)
  · replace h := h.1 c24
    refine q_iconst (v := (0 : Int32)) C dX9_takeRead_251 (by decide) ?_
    refine q_istore_n C [(1, .int (0 : Int32)), (0, .ref (qa Y 0))] dX9_takeRead_252 (by decide) rfl ?_
    refine q_sub (lv' := [(0, .ref (qa Y 0)), (1, .int (0 : Int32))]) [1, 0] rfl ?_
    exact b_X9_takeRead_L253 C hQ FU (0 : Int32) σ h
  · replace h := h.2 c24
    refine q_aload_n C 0 dX9_takeRead_221 rfl ?_
    refine q_getr (T := TX9) C kM0 iM0 inX9_takeRead_X9 rfl 10 (by decide) (List.mem_of_getElem? (i := 20) rfl) (fun _ h9 => h9) rfl dX9_takeRead_222 ?_
    refine q_iload_n C 1 dX9_takeRead_225 rfl ?_
    refine q_aload_n C 0 dX9_takeRead_226 rfl ?_
    refine q_getr (T := TX9) C kM0 iM0 inX9_takeRead_X9 rfl 29 (by decide) (List.mem_of_getElem? (i := 21) rfl) (fun _ h9 => h9) rfl dX9_takeRead_227 ?_
    refine q_iload_n C 1 dX9_takeRead_230 rfl ?_
    obtain ⟨g25, h⟩ := h
    refine q_iald C kM10 iM10 g25 dX9_takeRead_231 ?_
    obtain ⟨g31, h⟩ := h
    refine q_iast C kM2 iM2 g31 dX9_takeRead_232 ?_
    refine q_nmS (fun σ26 eσ26 => ?_)
    replace h := h σ26 eσ26
    refine q_aload_n C 0 dX9_takeRead_233 rfl ?_
    refine q_getr (T := TX9) C kM0 iM0 inX9_takeRead_X9 rfl 11 (by decide) (List.mem_of_getElem? (i := 22) rfl) (fun _ h9 => h9) rfl dX9_takeRead_234 ?_
    refine q_iload_n C 1 dX9_takeRead_237 rfl ?_
    refine q_aload_n C 0 dX9_takeRead_238 rfl ?_
    refine q_getr (T := TX9) C kM0 iM0 inX9_takeRead_X9 rfl 30 (by decide) (List.mem_of_getElem? (i := 23) rfl) (fun _ h9 => h9) rfl dX9_takeRead_239 ?_
    refine q_iload_n C 1 dX9_takeRead_242 rfl ?_
    obtain ⟨g27, h⟩ := h
    refine q_iald C kM11 iM11 g27 dX9_takeRead_243 ?_
    obtain ⟨g30, h⟩ := h
    refine q_iast C kM3 iM3 g30 dX9_takeRead_244 ?_
    refine q_nmS (fun σ28 eσ28 => ?_)
    replace h := h σ28 eσ28
    obtain ⟨x29, ex29⟩ : ∃ y : Int32, y = v1 + (1 : Int32) := ⟨_, rfl⟩
    replace h := h x29 ex29
    refine q_iinc C x29 1 [(1, .int x29), (0, .ref (qa Y 0))] dX9_takeRead_245 rfl (by rw [ex29]; rfl) (by decide) rfl ?_
    refine q_goto C 213 dX9_takeRead_248 (by decide) ?_
    refine q_sub (lv' := [(0, .ref (qa Y 0)), (1, .int x29)]) [1, 0] rfl ?_
    exact hK213 x29 σ28 h
theorem b_X9_takeRead_L213 {Y : CY} {Z : CZ} (C : cx SM 2 Y Z cX9_takeRead RX9 wsX9_takeRead none rmX9_takeRead) {Post : St → Prop} (hQ : Qv SM Y Z Post)  : ∀ (n : Nat) (v1 : Int32) (σ : St) (h : w_X9_takeRead_L213  Post n v1 σ), WW SM 2 Y Z σ 213 [(0, .ref (qa Y 0)), (1, .int v1)] [] := by
  intro n
  induction n with
  | zero => intro v1 σ h; exact h.elim
  | succ n ih => intro v1 σ h; exact b_X9_takeRead_B213 C hQ  ih v1 σ h
set_option maxHeartbeats 4000000 in
set_option maxRecDepth 100000 in
theorem b_X9_takeRead_J200 {Y : CY} {Z : CZ} (C : cx SM 2 Y Z cX9_takeRead RX9 wsX9_takeRead none rmX9_takeRead) {Post : St → Prop} (hQ : Qv SM Y Z Post)  (s0 : Int32) (σ : St) (h : w_X9_takeRead_J200  Post s0 σ) : WW SM 2 Y Z σ 200 [(0, .ref (qa Y 0))] [.int s0, .ref (qa Y 0)] := by
  unfold w_X9_takeRead_J200 at h
  refine q_puti (T := TX9) C kM0 iM0 inX9_takeRead_X9 rfl tyX9 tyX9_ok nmX9 8 (by decide) (List.mem_of_getElem? (i := 17) rfl) (fun _ h9 => h9) rfl dgM0 rfl (ni_n _) (ni_f _) dX9_takeRead_200 ?_
  refine q_nmS (fun σ22 eσ22 => ?_)
  replace h := h σ22 eσ22
  refine q_aload_n C 0 dX9_takeRead_203 rfl ?_
  refine q_aload_n C 0 dX9_takeRead_204 rfl ?_
  refine q_geti (T := TX9) C kM0 iM0 inX9_takeRead_X9 rfl 28 (by decide) (List.mem_of_getElem? (i := 18) rfl) (fun _ h9 => h9) rfl dX9_takeRead_205 ?_
  refine q_puti (T := TX9) C kM0 iM0 inX9_takeRead_X9 rfl tyX9 tyX9_ok nmX9 9 (by decide) (List.mem_of_getElem? (i := 19) rfl) (fun _ h9 => h9) rfl dgM0 rfl (ni_n _) (ni_f _) dX9_takeRead_208 ?_
  refine q_nmS (fun σ23 eσ23 => ?_)
  replace h := h σ23 eσ23
  refine q_iconst (v := (0 : Int32)) C dX9_takeRead_211 (by decide) ?_
  refine q_istore_n C [(1, .int (0 : Int32)), (0, .ref (qa Y 0))] dX9_takeRead_212 (by decide) rfl ?_
  refine q_sub (lv' := [(0, .ref (qa Y 0)), (1, .int (0 : Int32))]) [1, 0] rfl ?_
  exact b_X9_takeRead_L213 C hQ FU (0 : Int32) σ23 h
set_option maxHeartbeats 4000000 in
set_option maxRecDepth 100000 in
theorem b_X9_takeRead_J179 {Y : CY} {Z : CZ} (C : cx SM 2 Y Z cX9_takeRead RX9 wsX9_takeRead none rmX9_takeRead) {Post : St → Prop} (hQ : Qv SM Y Z Post)  (s0 : Int32) (σ : St) (h : w_X9_takeRead_J179  Post s0 σ) : WW SM 2 Y Z σ 179 [(0, .ref (qa Y 0))] [.int s0, .ref (qa Y 0)] := by
  unfold w_X9_takeRead_J179 at h
  refine q_puti (T := TX9) C kM0 iM0 inX9_takeRead_X9 rfl tyX9 tyX9_ok nmX9 7 (by decide) (List.mem_of_getElem? (i := 14) rfl) (fun _ h9 => h9) rfl dgM0 rfl (ni_n _) (ni_f _) dX9_takeRead_179 ?_
  refine q_nmS (fun σ20 eσ20 => ?_)
  replace h := h σ20 eσ20
  refine q_aload_n C 0 dX9_takeRead_182 rfl ?_
  refine q_aload_n C 0 dX9_takeRead_183 rfl ?_
  refine q_geti (T := TX9) C kM0 iM0 inX9_takeRead_X9 rfl 26 (by decide) (List.mem_of_getElem? (i := 15) rfl) (fun _ h9 => h9) rfl dX9_takeRead_184 ?_
  refine q_if_eq C 199 dX9_takeRead_187 (by decide) (fun c21 => ?_) (fun c21 => ?_)
  · replace h := h.1 c21
    refine q_iconst (v := (1 : Int32)) C dX9_takeRead_199 (by decide) ?_
    exact b_X9_takeRead_J200 C hQ (1 : Int32) σ20 h
  · replace h := h.2 c21
    refine q_aload_n C 0 dX9_takeRead_190 rfl ?_
    refine q_getr (T := TX9) C kM0 iM0 inX9_takeRead_X9 rfl 27 (by decide) (List.mem_of_getElem? (i := 16) rfl) (fun _ h9 => h9) rfl dX9_takeRead_191 ?_
    refine q_iconst (v := (0 : Int32)) C dX9_takeRead_194 (by decide) ?_
    refine q_ialdk C 0 (by decide) (by decide) (by decide) kM9 iM9 dX9_takeRead_195 ?_
    refine q_goto C 200 dX9_takeRead_196 (by decide) ?_
    exact b_X9_takeRead_J200 C hQ ((σ20 9 0)) σ20 h
set_option maxHeartbeats 4000000 in
set_option maxRecDepth 100000 in
theorem b_X9_takeRead_J155 {Y : CY} {Z : CZ} (C : cx SM 2 Y Z cX9_takeRead RX9 wsX9_takeRead none rmX9_takeRead) {Post : St → Prop} (hQ : Qv SM Y Z Post)  (s0 : Int32) (σ : St) (h : w_X9_takeRead_J155  Post s0 σ) : WW SM 2 Y Z σ 155 [(0, .ref (qa Y 0))] [.int s0, .ref (qa Y 0)] := by
  unfold w_X9_takeRead_J155 at h
  refine q_puti (T := TX9) C kM0 iM0 inX9_takeRead_X9 rfl tyX9 tyX9_ok nmX9 6 (by decide) (List.mem_of_getElem? (i := 13) rfl) (fun _ h9 => h9) rfl dgM0 rfl (ni_n _) (ni_f _) dX9_takeRead_155 ?_
  refine q_nmS (fun σ15 eσ15 => ?_)
  replace h := h σ15 eσ15
  refine q_aload_n C 0 dX9_takeRead_158 rfl ?_
  refine q_aload_n C 0 dX9_takeRead_159 rfl ?_
  refine q_geti (T := TX9) C kM0 iM0 inX9_takeRead_X9 rfl 24 (by decide) (List.mem_of_getElem? (i := 11) rfl) (fun _ h9 => h9) rfl dX9_takeRead_160 ?_
  refine q_if_eq C 178 dX9_takeRead_163 (by decide) (fun c16 => ?_) (fun c16 => ?_)
  · replace h := h.1 c16
    refine q_iconst (v := (0 : Int32)) C dX9_takeRead_178 (by decide) ?_
    exact b_X9_takeRead_J179 C hQ (0 : Int32) σ15 h
  · replace h := h.2 c16
    refine q_aload_n C 0 dX9_takeRead_166 rfl ?_
    refine q_getr (T := TX9) C kM0 iM0 inX9_takeRead_X9 rfl 25 (by decide) (List.mem_of_getElem? (i := 12) rfl) (fun _ h9 => h9) rfl dX9_takeRead_167 ?_
    refine q_iconst (v := (1 : Int32)) C dX9_takeRead_170 (by decide) ?_
    refine q_ialdk C 1 (by decide) (by decide) (by decide) kM8 iM8 dX9_takeRead_171 ?_
    refine q_bipush (v := (99 : Int32)) C dX9_takeRead_172 (by decide) ?_
    refine q_isub C dX9_takeRead_174 ?_
    refine q_goto C 179 dX9_takeRead_175 (by decide) ?_
    exact b_X9_takeRead_J179 C hQ (((σ15 8 1) - (99 : Int32))) σ15 h
set_option maxHeartbeats 4000000 in
set_option maxRecDepth 100000 in
theorem b_X9_takeRead_B98 {Y : CY} {Z : CZ} (C : cx SM 2 Y Z cX9_takeRead RX9 wsX9_takeRead none rmX9_takeRead) {Post : St → Prop} (hQ : Qv SM Y Z Post)  {K98 : Int32 → St → Prop} (hK98 : ∀ (v1 : Int32) (σ : St), K98 v1 σ → WW SM 2 Y Z σ 98 [(0, .ref (qa Y 0)), (1, .int v1)] []) (v1 : Int32) (σ : St) (h : w_X9_takeRead_B98  Post K98 v1 σ) : WW SM 2 Y Z σ 98 [(0, .ref (qa Y 0)), (1, .int v1)] [] := by
  unfold w_X9_takeRead_B98 at h
  refine q_iload_n C 1 dX9_takeRead_98 rfl ?_
  refine q_bipush (v := (9 : Int32)) C dX9_takeRead_99 (by decide) ?_
  refine q_icmp_ge C 137 dX9_takeRead_101 (by decide) (fun c11 => ?_) (fun c11 => ?_)
  · replace h := h.1 c11
    refine q_aload_n C 0 dX9_takeRead_137 rfl ?_
    refine q_aload_n C 0 dX9_takeRead_138 rfl ?_
    refine q_geti (T := TX9) C kM0 iM0 inX9_takeRead_X9 rfl 24 (by decide) (List.mem_of_getElem? (i := 11) rfl) (fun _ h9 => h9) rfl dX9_takeRead_139 ?_
    refine q_if_eq C 154 dX9_takeRead_142 (by decide) (fun c12 => ?_) (fun c12 => ?_)
    · replace h := h.1 c12
      refine q_iconst (v := (-1 : Int32)) C dX9_takeRead_154 (by decide) ?_
      refine q_sub (lv' := [(0, .ref (qa Y 0))]) [0] rfl ?_
      exact b_X9_takeRead_J155 C hQ (-1 : Int32) σ h
    · replace h := h.2 c12
      refine q_aload_n C 0 dX9_takeRead_145 rfl ?_
      refine q_getr (T := TX9) C kM0 iM0 inX9_takeRead_X9 rfl 25 (by decide) (List.mem_of_getElem? (i := 12) rfl) (fun _ h9 => h9) rfl dX9_takeRead_146 ?_
      refine q_iconst (v := (0 : Int32)) C dX9_takeRead_149 (by decide) ?_
      refine q_ialdk C 0 (by decide) (by decide) (by decide) kM8 iM8 dX9_takeRead_150 ?_
      refine q_goto C 155 dX9_takeRead_151 (by decide) ?_
      refine q_sub (lv' := [(0, .ref (qa Y 0))]) [0] rfl ?_
      exact b_X9_takeRead_J155 C hQ ((σ 8 0)) σ h
  · replace h := h.2 c11
    refine q_aload_n C 0 dX9_takeRead_104 rfl ?_
    refine q_getr (T := TX9) C kM0 iM0 inX9_takeRead_X9 rfl 5 (by decide) (List.mem_of_getElem? (i := 9) rfl) (fun _ h9 => h9) rfl dX9_takeRead_105 ?_
    refine q_iload_n C 1 dX9_takeRead_108 rfl ?_
    refine q_iload_n C 1 dX9_takeRead_109 rfl ?_
    refine q_aload_n C 0 dX9_takeRead_110 rfl ?_
    refine q_geti (T := TX9) C kM0 iM0 inX9_takeRead_X9 rfl 22 (by decide) (List.mem_of_getElem? (i := 7) rfl) (fun _ h9 => h9) rfl dX9_takeRead_111 ?_
    refine q_icmp_ge C 129 dX9_takeRead_114 (by decide) (fun c13 => ?_) (fun c13 => ?_)
    · replace h := h.1 c13
      refine q_iconst (v := (0 : Int32)) C dX9_takeRead_129 (by decide) ?_
      exact b_X9_takeRead_J130 C hQ hK98 v1 (0 : Int32) v1 σ h
    · replace h := h.2 c13
      refine q_aload_n C 0 dX9_takeRead_117 rfl ?_
      refine q_getr (T := TX9) C kM0 iM0 inX9_takeRead_X9 rfl 23 (by decide) (List.mem_of_getElem? (i := 10) rfl) (fun _ h9 => h9) rfl dX9_takeRead_118 ?_
      refine q_iload_n C 1 dX9_takeRead_121 rfl ?_
      obtain ⟨g14, h⟩ := h
      refine q_iald C kM7 iM7 g14 dX9_takeRead_122 ?_
      refine q_bipush (v := (9 : Int32)) C dX9_takeRead_123 (by decide) ?_
      refine q_isub C dX9_takeRead_125 ?_
      refine q_goto C 130 dX9_takeRead_126 (by decide) ?_
      exact b_X9_takeRead_J130 C hQ hK98 v1 (((σ 7 v1.toNatClampNeg) - (9 : Int32))) v1 σ h
theorem b_X9_takeRead_L98 {Y : CY} {Z : CZ} (C : cx SM 2 Y Z cX9_takeRead RX9 wsX9_takeRead none rmX9_takeRead) {Post : St → Prop} (hQ : Qv SM Y Z Post)  : ∀ (n : Nat) (v1 : Int32) (σ : St) (h : w_X9_takeRead_L98  Post n v1 σ), WW SM 2 Y Z σ 98 [(0, .ref (qa Y 0)), (1, .int v1)] [] := by
  intro n
  induction n with
  | zero => intro v1 σ h; exact h.elim
  | succ n ih => intro v1 σ h; exact b_X9_takeRead_B98 C hQ  ih v1 σ h
set_option maxHeartbeats 4000000 in
set_option maxRecDepth 100000 in
theorem b_X9_takeRead_J93 {Y : CY} {Z : CZ} (C : cx SM 2 Y Z cX9_takeRead RX9 wsX9_takeRead none rmX9_takeRead) {Post : St → Prop} (hQ : Qv SM Y Z Post)  (s0 : Int32) (σ : St) (h : w_X9_takeRead_J93  Post s0 σ) : WW SM 2 Y Z σ 93 [(0, .ref (qa Y 0))] [.int s0, .ref (qa Y 0)] := by
  unfold w_X9_takeRead_J93 at h
  refine q_puti (T := TX9) C kM0 iM0 inX9_takeRead_X9 rfl tyX9 tyX9_ok nmX9 4 (by decide) (List.mem_of_getElem? (i := 8) rfl) (fun _ h9 => h9) rfl dgM0 rfl (ni_n _) (ni_f _) dX9_takeRead_93 ?_
  refine q_nmS (fun σ10 eσ10 => ?_)
  replace h := h σ10 eσ10
  refine q_iconst (v := (0 : Int32)) C dX9_takeRead_96 (by decide) ?_
  refine q_istore_n C [(1, .int (0 : Int32)), (0, .ref (qa Y 0))] dX9_takeRead_97 (by decide) rfl ?_
  refine q_sub (lv' := [(0, .ref (qa Y 0)), (1, .int (0 : Int32))]) [1, 0] rfl ?_
  exact b_X9_takeRead_L98 C hQ FU (0 : Int32) σ10 h
set_option maxHeartbeats 4000000 in
set_option maxRecDepth 100000 in
theorem b_X9_takeRead_J74 {Y : CY} {Z : CZ} (C : cx SM 2 Y Z cX9_takeRead RX9 wsX9_takeRead none rmX9_takeRead) {Post : St → Prop} (hQ : Qv SM Y Z Post)  (s0 : Int32) (σ : St) (h : w_X9_takeRead_J74  Post s0 σ) : WW SM 2 Y Z σ 74 [(0, .ref (qa Y 0))] [.int s0, .ref (qa Y 0)] := by
  unfold w_X9_takeRead_J74 at h
  refine q_puti (T := TX9) C kM0 iM0 inX9_takeRead_X9 rfl tyX9 tyX9_ok nmX9 3 (by decide) (List.mem_of_getElem? (i := 6) rfl) (fun _ h9 => h9) rfl dgM0 rfl (ni_n _) (ni_f _) dX9_takeRead_74 ?_
  refine q_nmS (fun σ8 eσ8 => ?_)
  replace h := h σ8 eσ8
  refine q_aload_n C 0 dX9_takeRead_77 rfl ?_
  refine q_aload_n C 0 dX9_takeRead_78 rfl ?_
  refine q_geti (T := TX9) C kM0 iM0 inX9_takeRead_X9 rfl 22 (by decide) (List.mem_of_getElem? (i := 7) rfl) (fun _ h9 => h9) rfl dX9_takeRead_79 ?_
  refine q_if_le C 92 dX9_takeRead_82 (by decide) (fun c9 => ?_) (fun c9 => ?_)
  · replace h := h.1 c9
    refine q_iconst (v := (1 : Int32)) C dX9_takeRead_92 (by decide) ?_
    exact b_X9_takeRead_J93 C hQ (1 : Int32) σ8 h
  · replace h := h.2 c9
    refine q_aload_n C 0 dX9_takeRead_85 rfl ?_
    refine q_geti (T := TX9) C kM0 iM0 inX9_takeRead_X9 rfl 22 (by decide) (List.mem_of_getElem? (i := 7) rfl) (fun _ h9 => h9) rfl dX9_takeRead_86 ?_
    refine q_goto C 93 dX9_takeRead_89 (by decide) ?_
    exact b_X9_takeRead_J93 C hQ ((σ8 0 22)) σ8 h
set_option maxHeartbeats 4000000 in
set_option maxRecDepth 100000 in
theorem b_X9_takeRead_J53 {Y : CY} {Z : CZ} (C : cx SM 2 Y Z cX9_takeRead RX9 wsX9_takeRead none rmX9_takeRead) {Post : St → Prop} (hQ : Qv SM Y Z Post)  (s0 : Int32) (σ : St) (h : w_X9_takeRead_J53  Post s0 σ) : WW SM 2 Y Z σ 53 [(0, .ref (qa Y 0))] [.int s0, .ref (qa Y 0)] := by
  unfold w_X9_takeRead_J53 at h
  refine q_puti (T := TX9) C kM0 iM0 inX9_takeRead_X9 rfl tyX9 tyX9_ok nmX9 2 (by decide) (List.mem_of_getElem? (i := 5) rfl) (fun _ h9 => h9) rfl dgM0 rfl (ni_n _) (ni_f _) dX9_takeRead_53 ?_
  refine q_nmS (fun σ6 eσ6 => ?_)
  replace h := h σ6 eσ6
  refine q_aload_n C 0 dX9_takeRead_56 rfl ?_
  refine q_aload_n C 0 dX9_takeRead_57 rfl ?_
  refine q_geti (T := TX9) C kM0 iM0 inX9_takeRead_X9 rfl 20 (by decide) (List.mem_of_getElem? (i := 1) rfl) (fun _ h9 => h9) rfl dX9_takeRead_58 ?_
  refine q_if_eq C 73 dX9_takeRead_61 (by decide) (fun c7 => ?_) (fun c7 => ?_)
  · replace h := h.1 c7
    refine q_iconst (v := (0 : Int32)) C dX9_takeRead_73 (by decide) ?_
    exact b_X9_takeRead_J74 C hQ (0 : Int32) σ6 h
  · replace h := h.2 c7
    refine q_aload_n C 0 dX9_takeRead_64 rfl ?_
    refine q_getr (T := TX9) C kM0 iM0 inX9_takeRead_X9 rfl 21 (by decide) (List.mem_of_getElem? (i := 3) rfl) (fun _ h9 => h9) rfl dX9_takeRead_65 ?_
    refine q_iconst (v := (2 : Int32)) C dX9_takeRead_68 (by decide) ?_
    refine q_ialdk C 2 (by decide) (by decide) (by decide) kM6 iM6 dX9_takeRead_69 ?_
    refine q_goto C 74 dX9_takeRead_70 (by decide) ?_
    exact b_X9_takeRead_J74 C hQ ((σ6 6 2)) σ6 h
set_option maxHeartbeats 4000000 in
set_option maxRecDepth 100000 in
theorem b_X9_takeRead_J29 {Y : CY} {Z : CZ} (C : cx SM 2 Y Z cX9_takeRead RX9 wsX9_takeRead none rmX9_takeRead) {Post : St → Prop} (hQ : Qv SM Y Z Post)  (s0 : Int32) (σ : St) (h : w_X9_takeRead_J29  Post s0 σ) : WW SM 2 Y Z σ 29 [(0, .ref (qa Y 0))] [.int s0, .ref (qa Y 0)] := by
  unfold w_X9_takeRead_J29 at h
  refine q_puti (T := TX9) C kM0 iM0 inX9_takeRead_X9 rfl tyX9 tyX9_ok nmX9 1 (by decide) (List.mem_of_getElem? (i := 4) rfl) (fun _ h9 => h9) rfl dgM0 rfl (ni_n _) (ni_f _) dX9_takeRead_29 ?_
  refine q_nmS (fun σ4 eσ4 => ?_)
  replace h := h σ4 eσ4
  refine q_aload_n C 0 dX9_takeRead_32 rfl ?_
  refine q_aload_n C 0 dX9_takeRead_33 rfl ?_
  refine q_geti (T := TX9) C kM0 iM0 inX9_takeRead_X9 rfl 20 (by decide) (List.mem_of_getElem? (i := 1) rfl) (fun _ h9 => h9) rfl dX9_takeRead_34 ?_
  refine q_if_eq C 52 dX9_takeRead_37 (by decide) (fun c5 => ?_) (fun c5 => ?_)
  · replace h := h.1 c5
    refine q_iconst (v := (0 : Int32)) C dX9_takeRead_52 (by decide) ?_
    exact b_X9_takeRead_J53 C hQ (0 : Int32) σ4 h
  · replace h := h.2 c5
    refine q_aload_n C 0 dX9_takeRead_40 rfl ?_
    refine q_getr (T := TX9) C kM0 iM0 inX9_takeRead_X9 rfl 21 (by decide) (List.mem_of_getElem? (i := 3) rfl) (fun _ h9 => h9) rfl dX9_takeRead_41 ?_
    refine q_iconst (v := (1 : Int32)) C dX9_takeRead_44 (by decide) ?_
    refine q_ialdk C 1 (by decide) (by decide) (by decide) kM6 iM6 dX9_takeRead_45 ?_
    refine q_bipush (v := (9 : Int32)) C dX9_takeRead_46 (by decide) ?_
    refine q_isub C dX9_takeRead_48 ?_
    refine q_goto C 53 dX9_takeRead_49 (by decide) ?_
    exact b_X9_takeRead_J53 C hQ (((σ4 6 1) - (9 : Int32))) σ4 h
set_option maxHeartbeats 4000000 in
set_option maxRecDepth 100000 in
theorem b_X9_takeRead {Y : CY} {Z : CZ} (C : cx SM 2 Y Z cX9_takeRead RX9 wsX9_takeRead none rmX9_takeRead) {Post : St → Prop} (hQ : Qv SM Y Z Post)  (σ : St) (h : w_X9_takeRead  σ Post) : WW SM 2 Y Z σ 0 [(0, .ref (qa Y 0))] [] := by
  unfold w_X9_takeRead at h
  refine q_aload_n C 0 dX9_takeRead_0 rfl ?_
  refine q_aload_n C 0 dX9_takeRead_1 rfl ?_
  refine q_geti (T := TX9) C kM0 iM0 inX9_takeRead_X9 rfl 20 (by decide) (List.mem_of_getElem? (i := 1) rfl) (fun _ h9 => h9) rfl dX9_takeRead_2 ?_
  obtain ⟨g2, h⟩ := h
  refine q_puti (T := TX9) C kM0 iM0 inX9_takeRead_X9 rfl tyX9 tyX9_ok nmX9 0 (by decide) (List.mem_of_getElem? (i := 2) rfl) (fun _ h9 => h9) rfl dgM0 rfl (zb_n g2) (zb_f g2) dX9_takeRead_5 ?_
  refine q_nmS (fun σ1 eσ1 => ?_)
  replace h := h σ1 eσ1
  refine q_aload_n C 0 dX9_takeRead_8 rfl ?_
  refine q_aload_n C 0 dX9_takeRead_9 rfl ?_
  refine q_geti (T := TX9) C kM0 iM0 inX9_takeRead_X9 rfl 20 (by decide) (List.mem_of_getElem? (i := 1) rfl) (fun _ h9 => h9) rfl dX9_takeRead_10 ?_
  refine q_if_eq C 28 dX9_takeRead_13 (by decide) (fun c3 => ?_) (fun c3 => ?_)
  · replace h := h.1 c3
    refine q_iconst (v := (0 : Int32)) C dX9_takeRead_28 (by decide) ?_
    exact b_X9_takeRead_J29 C hQ (0 : Int32) σ1 h
  · replace h := h.2 c3
    refine q_aload_n C 0 dX9_takeRead_16 rfl ?_
    refine q_getr (T := TX9) C kM0 iM0 inX9_takeRead_X9 rfl 21 (by decide) (List.mem_of_getElem? (i := 3) rfl) (fun _ h9 => h9) rfl dX9_takeRead_17 ?_
    refine q_iconst (v := (0 : Int32)) C dX9_takeRead_20 (by decide) ?_
    refine q_ialdk C 0 (by decide) (by decide) (by decide) kM6 iM6 dX9_takeRead_21 ?_
    refine q_bipush (v := (9 : Int32)) C dX9_takeRead_22 (by decide) ?_
    refine q_isub C dX9_takeRead_24 ?_
    refine q_goto C 29 dX9_takeRead_25 (by decide) ?_
    exact b_X9_takeRead_J29 C hQ (((σ1 6 0) - (9 : Int32))) σ1 h
theorem c_X9_takeRead (Y : CY)  (σ : St) (Post : St → Prop) (h : w_X9_takeRead  σ Post) : Kv SM Y yX9_takeRead wsX9_takeRead rmX9_takeRead [.ref (qa Y 0)] σ Post :=
  Kv_of (cc := cX9_takeRead) (nL := 2) (ret := none) (by decide +kernel) rfl (Nat.le_of_ble_eq_true rfl) (fun Z C hQ => b_X9_takeRead C hQ  σ h)
abbrev rmX9_mount : Room := { frames := 5, cells := 0, slots := 0, locals := 119 }
theorem nkX9_mount : NmOk yX9_mount 0 := by decide +kernel
theorem rmOk_X9_mount__X9_here : RmOk rmX9_here rmX9_mount 1 := ⟨rfl, rfl, by decide, by decide⟩
theorem rmOk_X9_mount__X9_takeClause : RmOk rmX9_takeClause rmX9_mount 5 := ⟨rfl, rfl, by decide, by decide⟩
theorem rmOk_X9_mount__X9_takeRead : RmOk rmX9_takeRead rmX9_mount 2 := ⟨rfl, rfl, by decide, by decide⟩
theorem inX9_mount_X9 : ∀ w ∈ u_ws RX9 TX9 47, w ∈ wsX9_mount := fun _ h => List.mem_cons_of_mem _ (List.mem_append_right _ h)
def w_X9_mount_J56 (Post : Int32 → St → Prop) (v1 : Int32) (σ : St) : Prop := ∀ σ14 : St, σ14 = up σ 0 15 (0 : Int32) → (v1 ≤ 0 → w_X9_takeRead σ14 (fun σ16 => ∀ σ17 : St, σ17 = up σ16 0 35 (0 : Int32) → ∀ σ18 : St, σ18 = up σ17 0 38 (0 : Int32) → ∀ σ19 : St, σ19 = up σ18 0 42 (0 : Int32) → ∀ σ20 : St, σ20 = up σ19 0 31 (0 : Int32) → (vp_in (0 : Int32) 2) ∧ (∀ σ21 : St, σ21 = up σ20 22 (0 : Int32).toNatClampNeg (0 : Int32) → (vp_in (1 : Int32) 2) ∧ (∀ σ22 : St, σ22 = up σ21 22 (1 : Int32).toNatClampNeg (0 : Int32) → Post ((σ22 0 9)) σ22)))) ∧ (¬ v1 ≤ 0 → Post (((-10 : Int32) - v1)) σ14)
def w_X9_mount_B37 (Post : Int32 → St → Prop) (K37 : Int32 → St → Prop) (v1 : Int32) (σ : St) : Prop := (¬ v1 = 0 → w_X9_mount_J56 Post v1 σ) ∧ (v1 = 0 → w_X9_here σ (fun x10 σ9 => (x10 < 0 → w_X9_mount_J56 Post v1 σ9) ∧ (¬ x10 < 0 → w_X9_takeClause σ9 (fun x13 σ12 => K37 x13 σ12))))
def w_X9_mount_L37 (Post : Int32 → St → Prop) : Nat → Int32 → St → Prop
  | 0 => fun _ _ => False
  | n + 1 => w_X9_mount_B37   Post (w_X9_mount_L37   Post n)
def w_X9_mount (σ : St) (Post : Int32 → St → Prop) : Prop := ∀ σ1 : St, σ1 = up σ 0 16 (-1 : Int32) → ∀ σ2 : St, σ2 = up σ1 0 17 (0 : Int32) → ∀ σ3 : St, σ3 = up σ2 0 20 (0 : Int32) → ∀ σ4 : St, σ4 = up σ3 0 22 (0 : Int32) → ∀ σ5 : St, σ5 = up σ4 0 24 (0 : Int32) → ∀ σ6 : St, σ6 = up σ5 0 26 (0 : Int32) → ∀ σ7 : St, σ7 = up σ6 0 28 (0 : Int32) → w_X9_mount_L37 Post FU (0 : Int32) σ7
set_option maxHeartbeats 4000000 in
set_option maxRecDepth 100000 in
theorem b_X9_mount_J56 {Y : CY} {Z : CZ} (C : cx SM 2 Y Z cX9_mount RX9 wsX9_mount (some .int) rmX9_mount) {Post : Int32 → St → Prop} (hQ : Qi SM Y Z Post)  (v1 : Int32) (σ : St) (h : w_X9_mount_J56  Post v1 σ) : WW SM 2 Y Z σ 56 [(0, .ref (qa Y 0)), (1, .int v1)] [] := by
  unfold w_X9_mount_J56 at h
  refine q_aload_n C 0 dX9_mount_56 rfl ?_
  refine q_iconst (v := (0 : Int32)) C dX9_mount_57 (by decide) ?_
  refine q_puti (T := TX9) C kM0 iM0 inX9_mount_X9 rfl tyX9 tyX9_ok nmX9 15 (by decide) (List.mem_of_getElem? (i := 8) rfl) (fun _ h9 => h9) rfl dgM0 rfl (ni_n _) (ni_f _) dX9_mount_58 ?_
  refine q_nmS (fun σ14 eσ14 => ?_)
  replace h := h σ14 eσ14
  refine q_iload_n C 1 dX9_mount_61 rfl ?_
  refine q_if_le C 70 dX9_mount_62 (by decide) (fun c15 => ?_) (fun c15 => ?_)
  · replace h := h.1 c15
    refine q_aload_n C 0 dX9_mount_70 rfl ?_
    refine q_callVv (As := []) (st := []) C (c_X9_takeRead Y σ14 _ h) gX9_mount_X9_takeRead rfl ⟨rfl, nkX9_takeRead⟩ rmOk_X9_mount__X9_takeRead kM0 iM0 rfl rfl (Nat.le_of_ble_eq_true rfl) dX9_mount_71 rfl (fun σ16 h => ?_)
    refine q_aload_n C 0 dX9_mount_74 rfl ?_
    refine q_iconst (v := (0 : Int32)) C dX9_mount_75 (by decide) ?_
    refine q_puti (T := TX9) C kM0 iM0 inX9_mount_X9 rfl tyX9 tyX9_ok nmX9 35 (by decide) (List.mem_of_getElem? (i := 9) rfl) (fun _ h9 => h9) rfl dgM0 rfl (ni_n _) (ni_f _) dX9_mount_76 ?_
    refine q_nmS (fun σ17 eσ17 => ?_)
    replace h := h σ17 eσ17
    refine q_aload_n C 0 dX9_mount_79 rfl ?_
    refine q_iconst (v := (0 : Int32)) C dX9_mount_80 (by decide) ?_
    refine q_puti (T := TX9) C kM0 iM0 inX9_mount_X9 rfl tyX9 tyX9_ok nmX9 38 (by decide) (List.mem_of_getElem? (i := 10) rfl) (fun _ h9 => h9) rfl dgM0 rfl (ni_n _) (ni_f _) dX9_mount_81 ?_
    refine q_nmS (fun σ18 eσ18 => ?_)
    replace h := h σ18 eσ18
    refine q_aload_n C 0 dX9_mount_84 rfl ?_
    refine q_iconst (v := (0 : Int32)) C dX9_mount_85 (by decide) ?_
    refine q_puti (T := TX9) C kM0 iM0 inX9_mount_X9 rfl tyX9 tyX9_ok nmX9 42 (by decide) (List.mem_of_getElem? (i := 11) rfl) (fun _ h9 => h9) rfl dgM0 rfl (ni_n _) (ni_f _) dX9_mount_86 ?_
    refine q_nmS (fun σ19 eσ19 => ?_)
    replace h := h σ19 eσ19
    refine q_aload_n C 0 dX9_mount_89 rfl ?_
    refine q_iconst (v := (0 : Int32)) C dX9_mount_90 (by decide) ?_
    refine q_puti (T := TX9) C kM0 iM0 inX9_mount_X9 rfl tyX9 tyX9_ok nmX9 31 (by decide) (List.mem_of_getElem? (i := 12) rfl) (fun _ h9 => h9) rfl dgM0 rfl (ni_n _) (ni_f _) dX9_mount_91 ?_
    refine q_nmS (fun σ20 eσ20 => ?_)
    replace h := h σ20 eσ20
    refine q_aload_n C 0 dX9_mount_94 rfl ?_
    refine q_getr (T := TX9) C kM0 iM0 inX9_mount_X9 rfl 46 (by decide) (List.mem_of_getElem? (i := 13) rfl) (fun _ h9 => h9) rfl dX9_mount_95 ?_
    refine q_iconst (v := (0 : Int32)) C dX9_mount_98 (by decide) ?_
    refine q_iconst (v := (0 : Int32)) C dX9_mount_99 (by decide) ?_
    obtain ⟨g24, h⟩ := h
    refine q_zast C kM22 iM22 g24 (zb_v (by decide)) dX9_mount_100 ?_
    refine q_nmS (fun σ21 eσ21 => ?_)
    replace h := h σ21 eσ21
    refine q_aload_n C 0 dX9_mount_101 rfl ?_
    refine q_getr (T := TX9) C kM0 iM0 inX9_mount_X9 rfl 46 (by decide) (List.mem_of_getElem? (i := 13) rfl) (fun _ h9 => h9) rfl dX9_mount_102 ?_
    refine q_iconst (v := (1 : Int32)) C dX9_mount_105 (by decide) ?_
    refine q_iconst (v := (0 : Int32)) C dX9_mount_106 (by decide) ?_
    obtain ⟨g23, h⟩ := h
    refine q_zast C kM22 iM22 g23 (zb_v (by decide)) dX9_mount_107 ?_
    refine q_nmS (fun σ22 eσ22 => ?_)
    replace h := h σ22 eσ22
    refine q_aload_n C 0 dX9_mount_108 rfl ?_
    refine q_geti (T := TX9) C kM0 iM0 inX9_mount_X9 rfl 9 (by decide) (List.mem_of_getElem? (i := 14) rfl) (fun _ h9 => h9) rfl dX9_mount_109 ?_
    exact q_iret C hQ dX9_mount_112 h
  · replace h := h.2 c15
    refine q_bipush (v := (-10 : Int32)) C dX9_mount_65 (by decide) ?_
    refine q_iload_n C 1 dX9_mount_67 rfl ?_
    refine q_isub C dX9_mount_68 ?_
    exact q_iret C hQ dX9_mount_69 h
set_option maxHeartbeats 4000000 in
set_option maxRecDepth 100000 in
theorem b_X9_mount_B37 {Y : CY} {Z : CZ} (C : cx SM 2 Y Z cX9_mount RX9 wsX9_mount (some .int) rmX9_mount) {Post : Int32 → St → Prop} (hQ : Qi SM Y Z Post)  {K37 : Int32 → St → Prop} (hK37 : ∀ (v1 : Int32) (σ : St), K37 v1 σ → WW SM 2 Y Z σ 37 [(0, .ref (qa Y 0)), (1, .int v1)] []) (v1 : Int32) (σ : St) (h : w_X9_mount_B37  Post K37 v1 σ) : WW SM 2 Y Z σ 37 [(0, .ref (qa Y 0)), (1, .int v1)] [] := by
  unfold w_X9_mount_B37 at h
  refine q_iload_n C 1 dX9_mount_37 rfl ?_
  refine q_if_ne C 56 dX9_mount_38 (by decide) (fun c8 => ?_) (fun c8 => ?_)
  · replace h := h.1 c8
    exact b_X9_mount_J56 C hQ v1 σ h
  · replace h := h.2 c8
    refine q_aload_n C 0 dX9_mount_41 rfl ?_
    refine q_callVi (As := []) (st := []) C (c_X9_here Y σ _ h) gX9_mount_X9_here rfl ⟨rfl, nkX9_here⟩ rmOk_X9_mount__X9_here kM0 iM0 rfl rfl (Nat.le_of_ble_eq_true rfl) dX9_mount_42 rfl (fun x10 σ9 h => ?_)
    refine q_if_lt C 56 dX9_mount_45 (by decide) (fun c11 => ?_) (fun c11 => ?_)
    · replace h := h.1 c11
      exact b_X9_mount_J56 C hQ v1 σ9 h
    · replace h := h.2 c11
      refine q_aload_n C 0 dX9_mount_48 rfl ?_
      refine q_callVi (As := []) (st := []) C (c_X9_takeClause Y σ9 _ h) gX9_mount_X9_takeClause rfl ⟨rfl, nkX9_takeClause⟩ rmOk_X9_mount__X9_takeClause kM0 iM0 rfl rfl (Nat.le_of_ble_eq_true rfl) dX9_mount_49 rfl (fun x13 σ12 h => ?_)
      refine q_istore_n C [(1, .int x13), (0, .ref (qa Y 0))] dX9_mount_52 (by decide) rfl ?_
      refine q_goto C 37 dX9_mount_53 (by decide) ?_
      refine q_sub (lv' := [(0, .ref (qa Y 0)), (1, .int x13)]) [1, 0] rfl ?_
      exact hK37 x13 σ12 h
theorem b_X9_mount_L37 {Y : CY} {Z : CZ} (C : cx SM 2 Y Z cX9_mount RX9 wsX9_mount (some .int) rmX9_mount) {Post : Int32 → St → Prop} (hQ : Qi SM Y Z Post)  : ∀ (n : Nat) (v1 : Int32) (σ : St) (h : w_X9_mount_L37  Post n v1 σ), WW SM 2 Y Z σ 37 [(0, .ref (qa Y 0)), (1, .int v1)] [] := by
  intro n
  induction n with
  | zero => intro v1 σ h; exact h.elim
  | succ n ih => intro v1 σ h; exact b_X9_mount_B37 C hQ  ih v1 σ h
set_option maxHeartbeats 4000000 in
set_option maxRecDepth 100000 in
theorem b_X9_mount {Y : CY} {Z : CZ} (C : cx SM 2 Y Z cX9_mount RX9 wsX9_mount (some .int) rmX9_mount) {Post : Int32 → St → Prop} (hQ : Qi SM Y Z Post)  (σ : St) (h : w_X9_mount  σ Post) : WW SM 2 Y Z σ 0 [(0, .ref (qa Y 0))] [] := by
  unfold w_X9_mount at h
  refine q_aload_n C 0 dX9_mount_0 rfl ?_
  refine q_iconst (v := (-1 : Int32)) C dX9_mount_1 (by decide) ?_
  refine q_puti (T := TX9) C kM0 iM0 inX9_mount_X9 rfl tyX9 tyX9_ok nmX9 16 (by decide) (List.mem_of_getElem? (i := 1) rfl) (fun _ h9 => h9) rfl dgM0 rfl (ni_n _) (ni_f _) dX9_mount_2 ?_
  refine q_nmS (fun σ1 eσ1 => ?_)
  replace h := h σ1 eσ1
  refine q_aload_n C 0 dX9_mount_5 rfl ?_
  refine q_iconst (v := (0 : Int32)) C dX9_mount_6 (by decide) ?_
  refine q_puti (T := TX9) C kM0 iM0 inX9_mount_X9 rfl tyX9 tyX9_ok nmX9 17 (by decide) (List.mem_of_getElem? (i := 2) rfl) (fun _ h9 => h9) rfl dgM0 rfl (ni_n _) (ni_f _) dX9_mount_7 ?_
  refine q_nmS (fun σ2 eσ2 => ?_)
  replace h := h σ2 eσ2
  refine q_aload_n C 0 dX9_mount_10 rfl ?_
  refine q_iconst (v := (0 : Int32)) C dX9_mount_11 (by decide) ?_
  refine q_puti (T := TX9) C kM0 iM0 inX9_mount_X9 rfl tyX9 tyX9_ok nmX9 20 (by decide) (List.mem_of_getElem? (i := 3) rfl) (fun _ h9 => h9) rfl dgM0 rfl (zb_n (by decide)) (zb_f (by decide)) dX9_mount_12 ?_
  refine q_nmS (fun σ3 eσ3 => ?_)
  replace h := h σ3 eσ3
  refine q_aload_n C 0 dX9_mount_15 rfl ?_
  refine q_iconst (v := (0 : Int32)) C dX9_mount_16 (by decide) ?_
  refine q_puti (T := TX9) C kM0 iM0 inX9_mount_X9 rfl tyX9 tyX9_ok nmX9 22 (by decide) (List.mem_of_getElem? (i := 4) rfl) (fun _ h9 => h9) rfl dgM0 rfl (ni_n _) (ni_f _) dX9_mount_17 ?_
  refine q_nmS (fun σ4 eσ4 => ?_)
  replace h := h σ4 eσ4
  refine q_aload_n C 0 dX9_mount_20 rfl ?_
  refine q_iconst (v := (0 : Int32)) C dX9_mount_21 (by decide) ?_
  refine q_puti (T := TX9) C kM0 iM0 inX9_mount_X9 rfl tyX9 tyX9_ok nmX9 24 (by decide) (List.mem_of_getElem? (i := 5) rfl) (fun _ h9 => h9) rfl dgM0 rfl (zb_n (by decide)) (zb_f (by decide)) dX9_mount_22 ?_
  refine q_nmS (fun σ5 eσ5 => ?_)
  replace h := h σ5 eσ5
  refine q_aload_n C 0 dX9_mount_25 rfl ?_
  refine q_iconst (v := (0 : Int32)) C dX9_mount_26 (by decide) ?_
  refine q_puti (T := TX9) C kM0 iM0 inX9_mount_X9 rfl tyX9 tyX9_ok nmX9 26 (by decide) (List.mem_of_getElem? (i := 6) rfl) (fun _ h9 => h9) rfl dgM0 rfl (zb_n (by decide)) (zb_f (by decide)) dX9_mount_27 ?_
  refine q_nmS (fun σ6 eσ6 => ?_)
  replace h := h σ6 eσ6
  refine q_aload_n C 0 dX9_mount_30 rfl ?_
  refine q_iconst (v := (0 : Int32)) C dX9_mount_31 (by decide) ?_
  refine q_puti (T := TX9) C kM0 iM0 inX9_mount_X9 rfl tyX9 tyX9_ok nmX9 28 (by decide) (List.mem_of_getElem? (i := 7) rfl) (fun _ h9 => h9) rfl dgM0 rfl (ni_n _) (ni_f _) dX9_mount_32 ?_
  refine q_nmS (fun σ7 eσ7 => ?_)
  replace h := h σ7 eσ7
  refine q_iconst (v := (0 : Int32)) C dX9_mount_35 (by decide) ?_
  refine q_istore_n C [(1, .int (0 : Int32)), (0, .ref (qa Y 0))] dX9_mount_36 (by decide) rfl ?_
  refine q_sub (lv' := [(0, .ref (qa Y 0)), (1, .int (0 : Int32))]) [1, 0] rfl ?_
  exact b_X9_mount_L37 C hQ FU (0 : Int32) σ7 h
theorem c_X9_mount (Y : CY)  (σ : St) (Post : Int32 → St → Prop) (h : w_X9_mount  σ Post) : Ki SM Y yX9_mount wsX9_mount rmX9_mount [.ref (qa Y 0)] σ Post :=
  Ki_of (cc := cX9_mount) (nL := 2) (ret := (some .int)) (by decide +kernel) rfl (Nat.le_of_ble_eq_true rfl) (fun Z C hQ => b_X9_mount C hQ  σ h)
abbrev rmX9_nodded : Room := { frames := 4, cells := 0, slots := 0, locals := 92 }
theorem nkX9_nodded : NmOk yX9_nodded 6 := by decide +kernel
theorem rmOk_X9_nodded__X9_in : RmOk rmX9_in rmX9_nodded 6 := ⟨rfl, rfl, by decide, by decide⟩
theorem rmOk_X9_nodded__X9_save : RmOk rmX9_save rmX9_nodded 2 := ⟨rfl, rfl, by decide, by decide⟩
theorem rmOk_X9_nodded__X9_tailBy : RmOk rmX9_tailBy rmX9_nodded 7 := ⟨rfl, rfl, by decide, by decide⟩
theorem inX9_nodded_X9 : ∀ w ∈ u_ws RX9 TX9 47, w ∈ wsX9_nodded := fun _ h => List.mem_cons_of_mem _ (List.mem_append_right _ h)
def w_X9_nodded_J132 (K88 : Int32 → Int32 → Int32 → Int32 → Int32 → Int32 → Int32 → Int32 → Int32 → St → Prop) (Post : Int32 → St → Prop) (v1 : Int32) (v2 : Int32) (v3 : Int32) (v4 : Int32) (v5 : Int32) (v6 : Int32) (v7 : Int32) (v8 : Int32) (v9 : Int32) (σ : St) : Prop := ∀ x24 : Int32, x24 = v9 + (1 : Int32) → K88 v1 v2 v3 v4 v5 v6 v7 v8 x24 σ
def w_X9_nodded_J127 (K88 : Int32 → Int32 → Int32 → Int32 → Int32 → Int32 → Int32 → Int32 → Int32 → St → Prop) (Post : Int32 → St → Prop) (v1 : Int32) (v2 : Int32) (v3 : Int32) (v4 : Int32) (v5 : Int32) (v6 : Int32) (v7 : Int32) (v9 : Int32) (s0 : Int32) (σ : St) : Prop := ∀ x25 : Int32, x25 = v7 + (1 : Int32) → w_X9_nodded_J132 K88 Post v1 v2 v3 v4 v5 v6 x25 s0 v9 σ
def w_X9_nodded_B88 (Post : Int32 → St → Prop) (K88 : Int32 → Int32 → Int32 → Int32 → Int32 → Int32 → Int32 → Int32 → Int32 → St → Prop) (v1 : Int32) (v2 : Int32) (v3 : Int32) (v4 : Int32) (v5 : Int32) (v6 : Int32) (v7 : Int32) (v8 : Int32) (v9 : Int32) (σ : St) : Prop := ((v3 - v4) < v9 → (¬ v6 = (-1 : Int32) → Post v8 σ) ∧ (v6 = (-1 : Int32) → Post v7 σ)) ∧ (¬ (v3 - v4) < v9 → w_X9_tailBy v1 v2 v3 v9 v4 σ (fun x21 σ20 => (¬ x21 = v5 → w_X9_nodded_J132 K88 Post v1 v2 v3 v4 v5 v6 v7 v8 v9 σ20) ∧ (x21 = v5 → (¬ v7 = v6 → w_X9_nodded_J127 K88 Post v1 v2 v3 v4 v5 v6 v7 v9 v8 σ20) ∧ (v7 = v6 → w_X9_nodded_J127 K88 Post v1 v2 v3 v4 v5 v6 v7 v9 v9 σ20))))
def w_X9_nodded_L88 (Post : Int32 → St → Prop) : Nat → Int32 → Int32 → Int32 → Int32 → Int32 → Int32 → Int32 → Int32 → Int32 → St → Prop
  | 0 => fun _ _ _ _ _ _ _ _ _ _ => False
  | n + 1 => w_X9_nodded_B88   Post (w_X9_nodded_L88   Post n)
def w_X9_nodded (p1 : Int32) (p2 : Int32) (p3 : Int32) (p4 : Int32) (p5 : Int32) (p6 : Int32) (σ : St) (Post : Int32 → St → Prop) : Prop := w_X9_in (p1.toInt64) (0 : Int64) (99 : Int64) σ (fun x2 σ1 => (x2 = 0 → Post (-1000000002 : Int32) σ1) ∧ (¬ x2 = 0 → w_X9_in (p2.toInt64) (0 : Int64) (20 : Int64) σ1 (fun x5 σ4 => (x5 = 0 → Post (-1000000002 : Int32) σ4) ∧ (¬ x5 = 0 → w_X9_in (p3.toInt64) (1 : Int64) (60 : Int64) σ4 (fun x8 σ7 => (x8 = 0 → Post (-1000000002 : Int32) σ7) ∧ (¬ x8 = 0 → w_X9_in (p4.toInt64) (1 : Int64) (20 : Int64) σ7 (fun x11 σ10 => (x11 = 0 → Post (-1000000002 : Int32) σ10) ∧ (¬ x11 = 0 → w_X9_in (p5.toInt64) (0 : Int64) (9999 : Int64) σ10 (fun x14 σ13 => (¬ x14 = 0 → (¬ (σ13 0 0) = 0 → w_X9_save σ13 (fun σ17 => w_X9_nodded_L88 Post FU p1 p2 p3 p4 p5 p6 (0 : Int32) (-1 : Int32) (0 : Int32) σ17)) ∧ ((σ13 0 0) = 0 → Post (-1000000003 : Int32) σ13)) ∧ (x14 = 0 → Post (-1000000002 : Int32) σ13))))))))))
set_option maxHeartbeats 4000000 in
set_option maxRecDepth 100000 in
theorem b_X9_nodded_J132 {Y : CY} {Z : CZ} (C : cx SM 10 Y Z cX9_nodded RX9 wsX9_nodded (some .int) rmX9_nodded) {Post : Int32 → St → Prop} (hQ : Qi SM Y Z Post)  {K88 : Int32 → Int32 → Int32 → Int32 → Int32 → Int32 → Int32 → Int32 → Int32 → St → Prop} (hK88 : ∀ (v1 : Int32) (v2 : Int32) (v3 : Int32) (v4 : Int32) (v5 : Int32) (v6 : Int32) (v7 : Int32) (v8 : Int32) (v9 : Int32) (σ : St), K88 v1 v2 v3 v4 v5 v6 v7 v8 v9 σ → WW SM 10 Y Z σ 88 [(0, .ref (qa Y 0)), (1, .int v1), (2, .int v2), (3, .int v3), (4, .int v4), (5, .int v5), (6, .int v6), (7, .int v7), (8, .int v8), (9, .int v9)] []) (v1 : Int32) (v2 : Int32) (v3 : Int32) (v4 : Int32) (v5 : Int32) (v6 : Int32) (v7 : Int32) (v8 : Int32) (v9 : Int32) (σ : St) (h : w_X9_nodded_J132 K88 Post v1 v2 v3 v4 v5 v6 v7 v8 v9 σ) : WW SM 10 Y Z σ 132 [(0, .ref (qa Y 0)), (1, .int v1), (2, .int v2), (3, .int v3), (4, .int v4), (5, .int v5), (6, .int v6), (7, .int v7), (8, .int v8), (9, .int v9)] [] := by
  unfold w_X9_nodded_J132 at h
  obtain ⟨x24, ex24⟩ : ∃ y : Int32, y = v9 + (1 : Int32) := ⟨_, rfl⟩
  replace h := h x24 ex24
  refine q_iinc C x24 9 [(9, .int x24), (0, .ref (qa Y 0)), (1, .int v1), (2, .int v2), (3, .int v3), (4, .int v4), (5, .int v5), (6, .int v6), (7, .int v7), (8, .int v8)] dX9_nodded_132 rfl (by rw [ex24]; rfl) (by decide) rfl ?_
  refine q_goto C 88 dX9_nodded_135 (by decide) ?_
  refine q_sub (lv' := [(0, .ref (qa Y 0)), (1, .int v1), (2, .int v2), (3, .int v3), (4, .int v4), (5, .int v5), (6, .int v6), (7, .int v7), (8, .int v8), (9, .int x24)]) [1, 2, 3, 4, 5, 6, 7, 8, 9, 0] rfl ?_
  exact hK88 v1 v2 v3 v4 v5 v6 v7 v8 x24 σ h
set_option maxHeartbeats 4000000 in
set_option maxRecDepth 100000 in
theorem b_X9_nodded_J127 {Y : CY} {Z : CZ} (C : cx SM 10 Y Z cX9_nodded RX9 wsX9_nodded (some .int) rmX9_nodded) {Post : Int32 → St → Prop} (hQ : Qi SM Y Z Post)  {K88 : Int32 → Int32 → Int32 → Int32 → Int32 → Int32 → Int32 → Int32 → Int32 → St → Prop} (hK88 : ∀ (v1 : Int32) (v2 : Int32) (v3 : Int32) (v4 : Int32) (v5 : Int32) (v6 : Int32) (v7 : Int32) (v8 : Int32) (v9 : Int32) (σ : St), K88 v1 v2 v3 v4 v5 v6 v7 v8 v9 σ → WW SM 10 Y Z σ 88 [(0, .ref (qa Y 0)), (1, .int v1), (2, .int v2), (3, .int v3), (4, .int v4), (5, .int v5), (6, .int v6), (7, .int v7), (8, .int v8), (9, .int v9)] []) (v1 : Int32) (v2 : Int32) (v3 : Int32) (v4 : Int32) (v5 : Int32) (v6 : Int32) (v7 : Int32) (v9 : Int32) (s0 : Int32) (σ : St) (h : w_X9_nodded_J127 K88 Post v1 v2 v3 v4 v5 v6 v7 v9 s0 σ) : WW SM 10 Y Z σ 127 [(0, .ref (qa Y 0)), (1, .int v1), (2, .int v2), (3, .int v3), (4, .int v4), (5, .int v5), (6, .int v6), (7, .int v7), (9, .int v9)] [.int s0] := by
  unfold w_X9_nodded_J127 at h
  refine q_istore C [(8, .int s0), (0, .ref (qa Y 0)), (1, .int v1), (2, .int v2), (3, .int v3), (4, .int v4), (5, .int v5), (6, .int v6), (7, .int v7), (9, .int v9)] dX9_nodded_127 (by decide) rfl ?_
  obtain ⟨x25, ex25⟩ : ∃ y : Int32, y = v7 + (1 : Int32) := ⟨_, rfl⟩
  replace h := h x25 ex25
  refine q_iinc C x25 8 [(7, .int x25), (8, .int s0), (0, .ref (qa Y 0)), (1, .int v1), (2, .int v2), (3, .int v3), (4, .int v4), (5, .int v5), (6, .int v6), (9, .int v9)] dX9_nodded_129 rfl (by rw [ex25]; rfl) (by decide) rfl ?_
  refine q_sub (lv' := [(0, .ref (qa Y 0)), (1, .int v1), (2, .int v2), (3, .int v3), (4, .int v4), (5, .int v5), (6, .int v6), (7, .int x25), (8, .int s0), (9, .int v9)]) [2, 3, 4, 5, 6, 7, 8, 0, 1, 9] rfl ?_
  exact b_X9_nodded_J132 C hQ hK88 v1 v2 v3 v4 v5 v6 x25 s0 v9 σ h
set_option maxHeartbeats 4000000 in
set_option maxRecDepth 100000 in
theorem b_X9_nodded_B88 {Y : CY} {Z : CZ} (C : cx SM 10 Y Z cX9_nodded RX9 wsX9_nodded (some .int) rmX9_nodded) {Post : Int32 → St → Prop} (hQ : Qi SM Y Z Post)  {K88 : Int32 → Int32 → Int32 → Int32 → Int32 → Int32 → Int32 → Int32 → Int32 → St → Prop} (hK88 : ∀ (v1 : Int32) (v2 : Int32) (v3 : Int32) (v4 : Int32) (v5 : Int32) (v6 : Int32) (v7 : Int32) (v8 : Int32) (v9 : Int32) (σ : St), K88 v1 v2 v3 v4 v5 v6 v7 v8 v9 σ → WW SM 10 Y Z σ 88 [(0, .ref (qa Y 0)), (1, .int v1), (2, .int v2), (3, .int v3), (4, .int v4), (5, .int v5), (6, .int v6), (7, .int v7), (8, .int v8), (9, .int v9)] []) (v1 : Int32) (v2 : Int32) (v3 : Int32) (v4 : Int32) (v5 : Int32) (v6 : Int32) (v7 : Int32) (v8 : Int32) (v9 : Int32) (σ : St) (h : w_X9_nodded_B88  Post K88 v1 v2 v3 v4 v5 v6 v7 v8 v9 σ) : WW SM 10 Y Z σ 88 [(0, .ref (qa Y 0)), (1, .int v1), (2, .int v2), (3, .int v3), (4, .int v4), (5, .int v5), (6, .int v6), (7, .int v7), (8, .int v8), (9, .int v9)] [] := by
  unfold w_X9_nodded_B88 at h
  refine q_iload C 9 dX9_nodded_88 rfl ?_
  refine q_iload_n C 3 dX9_nodded_90 rfl ?_
  refine q_iload C 4 dX9_nodded_91 rfl ?_
  refine q_isub C dX9_nodded_93 ?_
  refine q_icmp_gt C 138 dX9_nodded_94 (by decide) (fun c18 => ?_) (fun c18 => ?_)
  · replace h := h.1 c18
    refine q_iload C 6 dX9_nodded_138 rfl ?_
    refine q_iconst (v := (-1 : Int32)) C dX9_nodded_140 (by decide) ?_
    refine q_icmp_ne C 149 dX9_nodded_141 (by decide) (fun c19 => ?_) (fun c19 => ?_)
    · replace h := h.1 c19
      refine q_iload C 8 dX9_nodded_149 rfl ?_
      exact q_iret C hQ dX9_nodded_151 h
    · replace h := h.2 c19
      refine q_iload C 7 dX9_nodded_144 rfl ?_
      refine q_goto C 151 dX9_nodded_146 (by decide) ?_
      exact q_iret C hQ dX9_nodded_151 h
  · replace h := h.2 c18
    refine q_aload_n C 0 dX9_nodded_97 rfl ?_
    refine q_iload_n C 1 dX9_nodded_98 rfl ?_
    refine q_iload_n C 2 dX9_nodded_99 rfl ?_
    refine q_iload_n C 3 dX9_nodded_100 rfl ?_
    refine q_iload C 9 dX9_nodded_101 rfl ?_
    refine q_iload C 4 dX9_nodded_103 rfl ?_
    refine q_callVi (As := [.int v1, .int v2, .int v3, .int v9, .int v4]) (st := []) C (c_X9_tailBy Y v1 v2 v3 v9 v4 σ _ h) gX9_nodded_X9_tailBy rfl ⟨rfl, nkX9_tailBy⟩ rmOk_X9_nodded__X9_tailBy kM0 iM0 rfl rfl (Nat.le_of_ble_eq_true rfl) dX9_nodded_105 rfl (fun x21 σ20 h => ?_)
    refine q_iload C 5 dX9_nodded_108 rfl ?_
    refine q_icmp_ne C 132 dX9_nodded_110 (by decide) (fun c22 => ?_) (fun c22 => ?_)
    · replace h := h.1 c22
      exact b_X9_nodded_J132 C hQ hK88 v1 v2 v3 v4 v5 v6 v7 v8 v9 σ20 h
    · replace h := h.2 c22
      refine q_iload C 7 dX9_nodded_113 rfl ?_
      refine q_iload C 6 dX9_nodded_115 rfl ?_
      refine q_icmp_ne C 125 dX9_nodded_117 (by decide) (fun c23 => ?_) (fun c23 => ?_)
      · replace h := h.1 c23
        refine q_iload C 8 dX9_nodded_125 rfl ?_
        refine q_sub (lv' := [(0, .ref (qa Y 0)), (1, .int v1), (2, .int v2), (3, .int v3), (4, .int v4), (5, .int v5), (6, .int v6), (7, .int v7), (9, .int v9)]) [0, 1, 2, 3, 4, 5, 6, 7, 9] rfl ?_
        exact b_X9_nodded_J127 C hQ hK88 v1 v2 v3 v4 v5 v6 v7 v9 v8 σ20 h
      · replace h := h.2 c23
        refine q_iload C 9 dX9_nodded_120 rfl ?_
        refine q_goto C 127 dX9_nodded_122 (by decide) ?_
        refine q_sub (lv' := [(0, .ref (qa Y 0)), (1, .int v1), (2, .int v2), (3, .int v3), (4, .int v4), (5, .int v5), (6, .int v6), (7, .int v7), (9, .int v9)]) [0, 1, 2, 3, 4, 5, 6, 7, 9] rfl ?_
        exact b_X9_nodded_J127 C hQ hK88 v1 v2 v3 v4 v5 v6 v7 v9 v9 σ20 h
theorem b_X9_nodded_L88 {Y : CY} {Z : CZ} (C : cx SM 10 Y Z cX9_nodded RX9 wsX9_nodded (some .int) rmX9_nodded) {Post : Int32 → St → Prop} (hQ : Qi SM Y Z Post)  : ∀ (n : Nat) (v1 : Int32) (v2 : Int32) (v3 : Int32) (v4 : Int32) (v5 : Int32) (v6 : Int32) (v7 : Int32) (v8 : Int32) (v9 : Int32) (σ : St) (h : w_X9_nodded_L88  Post n v1 v2 v3 v4 v5 v6 v7 v8 v9 σ), WW SM 10 Y Z σ 88 [(0, .ref (qa Y 0)), (1, .int v1), (2, .int v2), (3, .int v3), (4, .int v4), (5, .int v5), (6, .int v6), (7, .int v7), (8, .int v8), (9, .int v9)] [] := by
  intro n
  induction n with
  | zero => intro v1 v2 v3 v4 v5 v6 v7 v8 v9 σ h; exact h.elim
  | succ n ih => intro v1 v2 v3 v4 v5 v6 v7 v8 v9 σ h; exact b_X9_nodded_B88 C hQ  ih v1 v2 v3 v4 v5 v6 v7 v8 v9 σ h
set_option maxHeartbeats 4000000 in
set_option maxRecDepth 100000 in
theorem b_X9_nodded {Y : CY} {Z : CZ} (C : cx SM 10 Y Z cX9_nodded RX9 wsX9_nodded (some .int) rmX9_nodded) {Post : Int32 → St → Prop} (hQ : Qi SM Y Z Post)  (p1 : Int32) (p2 : Int32) (p3 : Int32) (p4 : Int32) (p5 : Int32) (p6 : Int32) (σ : St) (h : w_X9_nodded p1 p2 p3 p4 p5 p6 σ Post) : WW SM 10 Y Z σ 0 [(0, .ref (qa Y 0)), (1, .int p1), (2, .int p2), (3, .int p3), (4, .int p4), (5, .int p5), (6, .int p6)] [] := by
  unfold w_X9_nodded at h
  refine q_iload_n C 1 dX9_nodded_0 rfl ?_
  refine q_i2l C dX9_nodded_1 ?_
  refine q_lconst (v := (0 : Int64)) C dX9_nodded_2 (by decide) ?_
  refine q_ldc2 (v := (99 : Int64)) C (List.mem_of_getElem? (i := 1) rfl) dX9_nodded_3 ?_
  refine q_callSi (As := [.long p1.toInt64, .long (0 : Int64), .long (99 : Int64)]) (st := []) C (c_X9_in Y (p1.toInt64) (0 : Int64) (99 : Int64) σ _ h) gX9_nodded_X9_in rfl nkX9_in rmOk_X9_nodded__X9_in rfl (Nat.le_of_ble_eq_true rfl) dX9_nodded_6 rfl (fun x2 σ1 h => ?_)
  refine q_if_eq C 62 dX9_nodded_9 (by decide) (fun c3 => ?_) (fun c3 => ?_)
  · replace h := h.1 c3
    refine q_ldc (v := (-1000000002 : Int32)) C (List.mem_of_getElem? (i := 5) rfl) dX9_nodded_62 ?_
    exact q_iret C hQ dX9_nodded_64 h
  · replace h := h.2 c3
    refine q_iload_n C 2 dX9_nodded_12 rfl ?_
    refine q_i2l C dX9_nodded_13 ?_
    refine q_lconst (v := (0 : Int64)) C dX9_nodded_14 (by decide) ?_
    refine q_ldc2 (v := (20 : Int64)) C (List.mem_of_getElem? (i := 2) rfl) dX9_nodded_15 ?_
    refine q_callSi (As := [.long p2.toInt64, .long (0 : Int64), .long (20 : Int64)]) (st := []) C (c_X9_in Y (p2.toInt64) (0 : Int64) (20 : Int64) σ1 _ h) gX9_nodded_X9_in rfl nkX9_in rmOk_X9_nodded__X9_in rfl (Nat.le_of_ble_eq_true rfl) dX9_nodded_18 rfl (fun x5 σ4 h => ?_)
    refine q_if_eq C 62 dX9_nodded_21 (by decide) (fun c6 => ?_) (fun c6 => ?_)
    · replace h := h.1 c6
      refine q_ldc (v := (-1000000002 : Int32)) C (List.mem_of_getElem? (i := 5) rfl) dX9_nodded_62 ?_
      exact q_iret C hQ dX9_nodded_64 h
    · replace h := h.2 c6
      refine q_iload_n C 3 dX9_nodded_24 rfl ?_
      refine q_i2l C dX9_nodded_25 ?_
      refine q_lconst (v := (1 : Int64)) C dX9_nodded_26 (by decide) ?_
      refine q_ldc2 (v := (60 : Int64)) C (List.mem_of_getElem? (i := 3) rfl) dX9_nodded_27 ?_
      refine q_callSi (As := [.long p3.toInt64, .long (1 : Int64), .long (60 : Int64)]) (st := []) C (c_X9_in Y (p3.toInt64) (1 : Int64) (60 : Int64) σ4 _ h) gX9_nodded_X9_in rfl nkX9_in rmOk_X9_nodded__X9_in rfl (Nat.le_of_ble_eq_true rfl) dX9_nodded_30 rfl (fun x8 σ7 h => ?_)
      refine q_if_eq C 62 dX9_nodded_33 (by decide) (fun c9 => ?_) (fun c9 => ?_)
      · replace h := h.1 c9
        refine q_ldc (v := (-1000000002 : Int32)) C (List.mem_of_getElem? (i := 5) rfl) dX9_nodded_62 ?_
        exact q_iret C hQ dX9_nodded_64 h
      · replace h := h.2 c9
        refine q_iload C 4 dX9_nodded_36 rfl ?_
        refine q_i2l C dX9_nodded_38 ?_
        refine q_lconst (v := (1 : Int64)) C dX9_nodded_39 (by decide) ?_
        refine q_ldc2 (v := (20 : Int64)) C (List.mem_of_getElem? (i := 2) rfl) dX9_nodded_40 ?_
        refine q_callSi (As := [.long p4.toInt64, .long (1 : Int64), .long (20 : Int64)]) (st := []) C (c_X9_in Y (p4.toInt64) (1 : Int64) (20 : Int64) σ7 _ h) gX9_nodded_X9_in rfl nkX9_in rmOk_X9_nodded__X9_in rfl (Nat.le_of_ble_eq_true rfl) dX9_nodded_43 rfl (fun x11 σ10 h => ?_)
        refine q_if_eq C 62 dX9_nodded_46 (by decide) (fun c12 => ?_) (fun c12 => ?_)
        · replace h := h.1 c12
          refine q_ldc (v := (-1000000002 : Int32)) C (List.mem_of_getElem? (i := 5) rfl) dX9_nodded_62 ?_
          exact q_iret C hQ dX9_nodded_64 h
        · replace h := h.2 c12
          refine q_iload C 5 dX9_nodded_49 rfl ?_
          refine q_i2l C dX9_nodded_51 ?_
          refine q_lconst (v := (0 : Int64)) C dX9_nodded_52 (by decide) ?_
          refine q_ldc2 (v := (9999 : Int64)) C (List.mem_of_getElem? (i := 4) rfl) dX9_nodded_53 ?_
          refine q_callSi (As := [.long p5.toInt64, .long (0 : Int64), .long (9999 : Int64)]) (st := []) C (c_X9_in Y (p5.toInt64) (0 : Int64) (9999 : Int64) σ10 _ h) gX9_nodded_X9_in rfl nkX9_in rmOk_X9_nodded__X9_in rfl (Nat.le_of_ble_eq_true rfl) dX9_nodded_56 rfl (fun x14 σ13 h => ?_)
          refine q_if_ne C 65 dX9_nodded_59 (by decide) (fun c15 => ?_) (fun c15 => ?_)
          · replace h := h.1 c15
            refine q_aload_n C 0 dX9_nodded_65 rfl ?_
            refine q_geti (T := TX9) C kM0 iM0 inX9_nodded_X9 rfl 0 (by decide) (List.mem_of_getElem? (i := 6) rfl) (fun _ h9 => h9) rfl dX9_nodded_66 ?_
            refine q_if_ne C 75 dX9_nodded_69 (by decide) (fun c16 => ?_) (fun c16 => ?_)
            · replace h := h.1 c16
              refine q_aload_n C 0 dX9_nodded_75 rfl ?_
              refine q_callVv (As := []) (st := []) C (c_X9_save Y σ13 _ h) gX9_nodded_X9_save rfl ⟨rfl, nkX9_save⟩ rmOk_X9_nodded__X9_save kM0 iM0 rfl rfl (Nat.le_of_ble_eq_true rfl) dX9_nodded_76 rfl (fun σ17 h => ?_)
              refine q_iconst (v := (0 : Int32)) C dX9_nodded_79 (by decide) ?_
              refine q_istore C [(7, .int (0 : Int32)), (0, .ref (qa Y 0)), (1, .int p1), (2, .int p2), (3, .int p3), (4, .int p4), (5, .int p5), (6, .int p6)] dX9_nodded_80 (by decide) rfl ?_
              refine q_iconst (v := (-1 : Int32)) C dX9_nodded_82 (by decide) ?_
              refine q_istore C [(8, .int (-1 : Int32)), (7, .int (0 : Int32)), (0, .ref (qa Y 0)), (1, .int p1), (2, .int p2), (3, .int p3), (4, .int p4), (5, .int p5), (6, .int p6)] dX9_nodded_83 (by decide) rfl ?_
              refine q_iconst (v := (0 : Int32)) C dX9_nodded_85 (by decide) ?_
              refine q_istore C [(9, .int (0 : Int32)), (8, .int (-1 : Int32)), (7, .int (0 : Int32)), (0, .ref (qa Y 0)), (1, .int p1), (2, .int p2), (3, .int p3), (4, .int p4), (5, .int p5), (6, .int p6)] dX9_nodded_86 (by decide) rfl ?_
              refine q_sub (lv' := [(0, .ref (qa Y 0)), (1, .int p1), (2, .int p2), (3, .int p3), (4, .int p4), (5, .int p5), (6, .int p6), (7, .int (0 : Int32)), (8, .int (-1 : Int32)), (9, .int (0 : Int32))]) [3, 4, 5, 6, 7, 8, 9, 2, 1, 0] rfl ?_
              exact b_X9_nodded_L88 C hQ FU p1 p2 p3 p4 p5 p6 (0 : Int32) (-1 : Int32) (0 : Int32) σ17 h
            · replace h := h.2 c16
              refine q_ldc (v := (-1000000003 : Int32)) C (List.mem_of_getElem? (i := 7) rfl) dX9_nodded_72 ?_
              exact q_iret C hQ dX9_nodded_74 h
          · replace h := h.2 c15
            refine q_ldc (v := (-1000000002 : Int32)) C (List.mem_of_getElem? (i := 5) rfl) dX9_nodded_62 ?_
            exact q_iret C hQ dX9_nodded_64 h
theorem c_X9_nodded (Y : CY)  (p1 : Int32) (p2 : Int32) (p3 : Int32) (p4 : Int32) (p5 : Int32) (p6 : Int32) (σ : St) (Post : Int32 → St → Prop) (h : w_X9_nodded p1 p2 p3 p4 p5 p6 σ Post) : Ki SM Y yX9_nodded wsX9_nodded rmX9_nodded [.ref (qa Y 0), .int p1, .int p2, .int p3, .int p4, .int p5, .int p6] σ Post :=
  Ki_of (cc := cX9_nodded) (nL := 10) (ret := (some .int)) (by decide +kernel) rfl (Nat.le_of_ble_eq_true rfl) (fun Z C hQ => b_X9_nodded C hQ  p1 p2 p3 p4 p5 p6 σ h)
abbrev rmX9_nods : Room := { frames := 1, cells := 0, slots := 0, locals := 25 }
theorem nkX9_nods : NmOk yX9_nods 2 := by decide +kernel
theorem rmOk_X9_nods__X9_in : RmOk rmX9_in rmX9_nods 6 := ⟨rfl, rfl, by decide, by decide⟩
def w_X9_nods_B34 (Post : Int32 → St → Prop) (K34 : Int32 → Int32 → Int64 → Int32 → St → Prop) (v1 : Int32) (v2 : Int32) (v3 : Int64) (v5 : Int32) (σ : St) : Prop := (v1 ≤ v5 → Post (v3.toInt32) σ) ∧ (¬ v1 ≤ v5 → ∀ x8 : Int64, x8 = ((v3 * ((100 : Int32) - v2).toInt64) / (100 : Int64)) → ∀ x9 : Int32, x9 = v5 + (1 : Int32) → K34 v1 v2 x8 x9 σ)
def w_X9_nods_L34 (Post : Int32 → St → Prop) : Nat → Int32 → Int32 → Int64 → Int32 → St → Prop
  | 0 => fun _ _ _ _ _ => False
  | n + 1 => w_X9_nods_B34   Post (w_X9_nods_L34   Post n)
def w_X9_nods (p1 : Int32) (p2 : Int32) (σ : St) (Post : Int32 → St → Prop) : Prop := w_X9_in (p1.toInt64) (0 : Int64) (99 : Int64) σ (fun x2 σ1 => (x2 = 0 → Post (-1000000002 : Int32) σ1) ∧ (¬ x2 = 0 → w_X9_in (p2.toInt64) (0 : Int64) (100 : Int64) σ1 (fun x5 σ4 => (¬ x5 = 0 → w_X9_nods_L34 Post FU p1 p2 (1000000000 : Int64) (0 : Int32) σ4) ∧ (x5 = 0 → Post (-1000000002 : Int32) σ4))))
set_option maxHeartbeats 4000000 in
set_option maxRecDepth 100000 in
theorem b_X9_nods_B34 {Y : CY} {Z : CZ} (C : cx SM 6 Y Z cX9_nods RX9 wsX9_nods (some .int) rmX9_nods) {Post : Int32 → St → Prop} (hQ : Qi SM Y Z Post)  {K34 : Int32 → Int32 → Int64 → Int32 → St → Prop} (hK34 : ∀ (v1 : Int32) (v2 : Int32) (v3 : Int64) (v5 : Int32) (σ : St), K34 v1 v2 v3 v5 σ → WW SM 6 Y Z σ 34 [(1, .int v1), (2, .int v2), (3, .long v3), (5, .int v5)] []) (v1 : Int32) (v2 : Int32) (v3 : Int64) (v5 : Int32) (σ : St) (h : w_X9_nods_B34  Post K34 v1 v2 v3 v5 σ) : WW SM 6 Y Z σ 34 [(1, .int v1), (2, .int v2), (3, .long v3), (5, .int v5)] [] := by
  unfold w_X9_nods_B34 at h
  refine q_iload C 3 dX9_nods_34 rfl ?_
  refine q_iload_n C 0 dX9_nods_36 rfl ?_
  refine q_icmp_ge C 58 dX9_nods_37 (by decide) (fun c7 => ?_) (fun c7 => ?_)
  · replace h := h.1 c7
    refine q_lload_n C 2 dX9_nods_58 rfl ?_
    refine q_l2i C dX9_nods_59 ?_
    exact q_iret C hQ dX9_nods_60 h
  · replace h := h.2 c7
    refine q_lload_n C 2 dX9_nods_40 rfl ?_
    refine q_bipush (v := (100 : Int32)) C dX9_nods_41 (by decide) ?_
    refine q_iload_n C 1 dX9_nods_43 rfl ?_
    refine q_isub C dX9_nods_44 ?_
    refine q_i2l C dX9_nods_45 ?_
    refine q_lmul C dX9_nods_46 ?_
    refine q_ldc2 (v := (100 : Int64)) C (List.mem_of_getElem? (i := 2) rfl) dX9_nods_47 ?_
    refine q_ldiv C dX9_nods_50 (by decide) ?_
    refine q_topl (fun x8 ex8 => ?_)
    replace h := h x8 ex8
    refine q_lstore_n C [(3, .long x8), (1, .int v1), (2, .int v2), (5, .int v5)] dX9_nods_51 (by decide) rfl ?_
    obtain ⟨x9, ex9⟩ : ∃ y : Int32, y = v5 + (1 : Int32) := ⟨_, rfl⟩
    replace h := h x9 ex9
    refine q_iinc C x9 3 [(5, .int x9), (3, .long x8), (1, .int v1), (2, .int v2)] dX9_nods_52 rfl (by rw [ex9]; rfl) (by decide) rfl ?_
    refine q_goto C 34 dX9_nods_55 (by decide) ?_
    refine q_sub (lv' := [(1, .int v1), (2, .int v2), (3, .long x8), (5, .int x9)]) [2, 3, 1, 0] rfl ?_
    exact hK34 v1 v2 x8 x9 σ h
theorem b_X9_nods_L34 {Y : CY} {Z : CZ} (C : cx SM 6 Y Z cX9_nods RX9 wsX9_nods (some .int) rmX9_nods) {Post : Int32 → St → Prop} (hQ : Qi SM Y Z Post)  : ∀ (n : Nat) (v1 : Int32) (v2 : Int32) (v3 : Int64) (v5 : Int32) (σ : St) (h : w_X9_nods_L34  Post n v1 v2 v3 v5 σ), WW SM 6 Y Z σ 34 [(1, .int v1), (2, .int v2), (3, .long v3), (5, .int v5)] [] := by
  intro n
  induction n with
  | zero => intro v1 v2 v3 v5 σ h; exact h.elim
  | succ n ih => intro v1 v2 v3 v5 σ h; exact b_X9_nods_B34 C hQ  ih v1 v2 v3 v5 σ h
set_option maxHeartbeats 4000000 in
set_option maxRecDepth 100000 in
theorem b_X9_nods {Y : CY} {Z : CZ} (C : cx SM 6 Y Z cX9_nods RX9 wsX9_nods (some .int) rmX9_nods) {Post : Int32 → St → Prop} (hQ : Qi SM Y Z Post)  (p1 : Int32) (p2 : Int32) (σ : St) (h : w_X9_nods p1 p2 σ Post) : WW SM 6 Y Z σ 0 [(0, .ref (qa Y 0)), (1, .int p1), (2, .int p2)] [] := by
  unfold w_X9_nods at h
  refine q_iload_n C 1 dX9_nods_0 rfl ?_
  refine q_i2l C dX9_nods_1 ?_
  refine q_lconst (v := (0 : Int64)) C dX9_nods_2 (by decide) ?_
  refine q_ldc2 (v := (99 : Int64)) C (List.mem_of_getElem? (i := 1) rfl) dX9_nods_3 ?_
  refine q_callSi (As := [.long p1.toInt64, .long (0 : Int64), .long (99 : Int64)]) (st := []) C (c_X9_in Y (p1.toInt64) (0 : Int64) (99 : Int64) σ _ h) gX9_nods_X9_in rfl nkX9_in rmOk_X9_nods__X9_in rfl (Nat.le_of_ble_eq_true rfl) dX9_nods_6 rfl (fun x2 σ1 h => ?_)
  refine q_if_eq C 24 dX9_nods_9 (by decide) (fun c3 => ?_) (fun c3 => ?_)
  · replace h := h.1 c3
    refine q_ldc (v := (-1000000002 : Int32)) C (List.mem_of_getElem? (i := 3) rfl) dX9_nods_24 ?_
    exact q_iret C hQ dX9_nods_26 h
  · replace h := h.2 c3
    refine q_iload_n C 2 dX9_nods_12 rfl ?_
    refine q_i2l C dX9_nods_13 ?_
    refine q_lconst (v := (0 : Int64)) C dX9_nods_14 (by decide) ?_
    refine q_ldc2 (v := (100 : Int64)) C (List.mem_of_getElem? (i := 2) rfl) dX9_nods_15 ?_
    refine q_callSi (As := [.long p2.toInt64, .long (0 : Int64), .long (100 : Int64)]) (st := []) C (c_X9_in Y (p2.toInt64) (0 : Int64) (100 : Int64) σ1 _ h) gX9_nods_X9_in rfl nkX9_in rmOk_X9_nods__X9_in rfl (Nat.le_of_ble_eq_true rfl) dX9_nods_18 rfl (fun x5 σ4 h => ?_)
    refine q_if_ne C 27 dX9_nods_21 (by decide) (fun c6 => ?_) (fun c6 => ?_)
    · replace h := h.1 c6
      refine q_ldc2 (v := (1000000000 : Int64)) C (List.mem_of_getElem? (i := 4) rfl) dX9_nods_27 ?_
      refine q_lstore_n C [(3, .long (1000000000 : Int64)), (0, .ref (qa Y 0)), (1, .int p1), (2, .int p2)] dX9_nods_30 (by decide) rfl ?_
      refine q_iconst (v := (0 : Int32)) C dX9_nods_31 (by decide) ?_
      refine q_istore C [(5, .int (0 : Int32)), (3, .long (1000000000 : Int64)), (0, .ref (qa Y 0)), (1, .int p1), (2, .int p2)] dX9_nods_32 (by decide) rfl ?_
      refine q_sub (lv' := [(1, .int p1), (2, .int p2), (3, .long (1000000000 : Int64)), (5, .int (0 : Int32))]) [3, 4, 1, 0] rfl ?_
      exact b_X9_nods_L34 C hQ FU p1 p2 (1000000000 : Int64) (0 : Int32) σ4 h
    · replace h := h.2 c6
      refine q_ldc (v := (-1000000002 : Int32)) C (List.mem_of_getElem? (i := 3) rfl) dX9_nods_24 ?_
      exact q_iret C hQ dX9_nods_26 h
theorem c_X9_nods (Y : CY)  (p1 : Int32) (p2 : Int32) (σ : St) (Post : Int32 → St → Prop) (h : w_X9_nods p1 p2 σ Post) : Ki SM Y yX9_nods wsX9_nods rmX9_nods [.ref (qa Y 0), .int p1, .int p2] σ Post :=
  Ki_of (cc := cX9_nods) (nL := 6) (ret := (some .int)) (by decide +kernel) rfl (Nat.le_of_ble_eq_true rfl) (fun Z C hQ => b_X9_nods C hQ  p1 p2 σ h)
abbrev rmX9_periods : Room := { frames := 2, cells := 0, slots := 0, locals := 46 }
theorem nkX9_periods : NmOk yX9_periods 0 := by decide +kernel
theorem rmOk_X9_periods__X9_doesFit : RmOk rmX9_doesFit rmX9_periods 6 := ⟨rfl, rfl, by decide, by decide⟩
def w_X9_periods_J57 (K4 : Int32 → Int32 → St → Prop) (K15 : Int32 → Int32 → Int32 → Int32 → St → Prop) (K28 : Int32 → Int32 → Int32 → Int32 → Int32 → Int32 → St → Prop) (Post : Int32 → St → Prop) (v1 : Int32) (v2 : Int32) (v3 : Int32) (v4 : Int32) (v6 : Int32) (s0 : Int32) (σ : St) : Prop := ∀ x14 : Int32, x14 = v6 + (1 : Int32) → K28 v1 v2 v3 v4 s0 x14 σ
def w_X9_periods_J52 (K4 : Int32 → Int32 → St → Prop) (K15 : Int32 → Int32 → Int32 → Int32 → St → Prop) (K28 : Int32 → Int32 → Int32 → Int32 → Int32 → Int32 → St → Prop) (Post : Int32 → St → Prop) (v1 : Int32) (v2 : Int32) (v3 : Int32) (v4 : Int32) (v6 : Int32) (σ : St) : Prop := w_X9_periods_J57 K4 K15 K28 Post v1 v2 v3 v4 v6 (1 : Int32) σ
def w_X9_periods_J79 (K4 : Int32 → Int32 → St → Prop) (K15 : Int32 → Int32 → Int32 → Int32 → St → Prop) (Post : Int32 → St → Prop) (v1 : Int32) (v2 : Int32) (v4 : Int32) (s0 : Int32) (σ : St) : Prop := ∀ x13 : Int32, x13 = v4 + (1 : Int32) → K15 v1 v2 s0 x13 σ
def w_X9_periods_J78 (K4 : Int32 → Int32 → St → Prop) (K15 : Int32 → Int32 → Int32 → Int32 → St → Prop) (Post : Int32 → St → Prop) (v1 : Int32) (v2 : Int32) (v4 : Int32) (σ : St) : Prop := w_X9_periods_J79 K4 K15 Post v1 v2 v4 (0 : Int32) σ
def w_X9_periods_B28 (K4 : Int32 → Int32 → St → Prop) (K15 : Int32 → Int32 → Int32 → Int32 → St → Prop) (Post : Int32 → St → Prop) (K28 : Int32 → Int32 → Int32 → Int32 → Int32 → Int32 → St → Prop) (v1 : Int32) (v2 : Int32) (v3 : Int32) (v4 : Int32) (v5 : Int32) (v6 : Int32) (σ : St) : Prop := ((10 : Int32) ≤ v6 → (v3 = 0 → w_X9_periods_J78 K4 K15 Post v1 v2 v4 σ) ∧ (¬ v3 = 0 → (v5 = 0 → w_X9_periods_J78 K4 K15 Post v1 v2 v4 σ) ∧ (¬ v5 = 0 → w_X9_periods_J79 K4 K15 Post v1 v2 v4 (1 : Int32) σ))) ∧ (¬ (10 : Int32) ≤ v6 → (¬ v5 = 0 → w_X9_periods_J52 K4 K15 K28 Post v1 v2 v3 v4 v6 σ) ∧ (v5 = 0 → w_X9_doesFit v4 v2 v6 σ (fun x11 σ10 => (x11 = 0 → w_X9_periods_J57 K4 K15 K28 Post v1 v2 v3 v4 v6 (0 : Int32) σ10) ∧ (¬ x11 = 0 → w_X9_periods_J52 K4 K15 K28 Post v1 v2 v3 v4 v6 σ10))))
def w_X9_periods_L28 (K4 : Int32 → Int32 → St → Prop) (K15 : Int32 → Int32 → Int32 → Int32 → St → Prop) (Post : Int32 → St → Prop) : Nat → Int32 → Int32 → Int32 → Int32 → Int32 → Int32 → St → Prop
  | 0 => fun _ _ _ _ _ _ _ => False
  | n + 1 => w_X9_periods_B28  K4 K15 Post (w_X9_periods_L28  K4 K15 Post n)
def w_X9_periods_J98 (K4 : Int32 → Int32 → St → Prop) (Post : Int32 → St → Prop) (v2 : Int32) (s0 : Int32) (s1 : Int32) (σ : St) : Prop := ∀ x4 : Int32, x4 = (s1 ||| s0) → ∀ x5 : Int32, x5 = v2 + (1 : Int32) → K4 x4 x5 σ
def w_X9_periods_B15 (K4 : Int32 → Int32 → St → Prop) (Post : Int32 → St → Prop) (K15 : Int32 → Int32 → Int32 → Int32 → St → Prop) (v1 : Int32) (v2 : Int32) (v3 : Int32) (v4 : Int32) (σ : St) : Prop := (v2 ≤ v4 → (v3 = 0 → w_X9_periods_J98 K4 Post v2 (0 : Int32) v1 σ) ∧ (¬ v3 = 0 → w_X9_periods_J98 K4 Post v2 (((1 : Int32) <<< (v2 &&& 31))) v1 σ)) ∧ (¬ v2 ≤ v4 → w_X9_periods_L28 K4 K15 Post FU v1 v2 v3 v4 (0 : Int32) (-9 : Int32) σ)
def w_X9_periods_L15 (K4 : Int32 → Int32 → St → Prop) (Post : Int32 → St → Prop) : Nat → Int32 → Int32 → Int32 → Int32 → St → Prop
  | 0 => fun _ _ _ _ _ => False
  | n + 1 => w_X9_periods_B15  K4 Post (w_X9_periods_L15  K4 Post n)
def w_X9_periods_B4 (Post : Int32 → St → Prop) (K4 : Int32 → Int32 → St → Prop) (v1 : Int32) (v2 : Int32) (σ : St) : Prop := ((10 : Int32) ≤ v2 → Post v1 σ) ∧ (¬ (10 : Int32) ≤ v2 → w_X9_periods_L15 K4 Post FU v1 v2 (1 : Int32) (0 : Int32) σ)
def w_X9_periods_L4 (Post : Int32 → St → Prop) : Nat → Int32 → Int32 → St → Prop
  | 0 => fun _ _ _ => False
  | n + 1 => w_X9_periods_B4   Post (w_X9_periods_L4   Post n)
def w_X9_periods (σ : St) (Post : Int32 → St → Prop) : Prop := w_X9_periods_L4 Post FU (0 : Int32) (1 : Int32) σ
set_option maxHeartbeats 4000000 in
set_option maxRecDepth 100000 in
theorem b_X9_periods_J57 {Y : CY} {Z : CZ} (C : cx SM 7 Y Z cX9_periods RX9 wsX9_periods (some .int) rmX9_periods) {Post : Int32 → St → Prop} (hQ : Qi SM Y Z Post)  {K4 : Int32 → Int32 → St → Prop} (hK4 : ∀ (v1 : Int32) (v2 : Int32) (σ : St), K4 v1 v2 σ → WW SM 7 Y Z σ 4 [(0, .ref (qa Y 0)), (1, .int v1), (2, .int v2)] []) {K15 : Int32 → Int32 → Int32 → Int32 → St → Prop} (hK15 : ∀ (v1 : Int32) (v2 : Int32) (v3 : Int32) (v4 : Int32) (σ : St), K15 v1 v2 v3 v4 σ → WW SM 7 Y Z σ 15 [(0, .ref (qa Y 0)), (1, .int v1), (2, .int v2), (3, .int v3), (4, .int v4)] []) {K28 : Int32 → Int32 → Int32 → Int32 → Int32 → Int32 → St → Prop} (hK28 : ∀ (v1 : Int32) (v2 : Int32) (v3 : Int32) (v4 : Int32) (v5 : Int32) (v6 : Int32) (σ : St), K28 v1 v2 v3 v4 v5 v6 σ → WW SM 7 Y Z σ 28 [(0, .ref (qa Y 0)), (1, .int v1), (2, .int v2), (3, .int v3), (4, .int v4), (5, .int v5), (6, .int v6)] []) (v1 : Int32) (v2 : Int32) (v3 : Int32) (v4 : Int32) (v6 : Int32) (s0 : Int32) (σ : St) (h : w_X9_periods_J57 K4 K15 K28 Post v1 v2 v3 v4 v6 s0 σ) : WW SM 7 Y Z σ 57 [(0, .ref (qa Y 0)), (1, .int v1), (2, .int v2), (3, .int v3), (4, .int v4), (6, .int v6)] [.int s0] := by
  unfold w_X9_periods_J57 at h
  refine q_istore C [(5, .int s0), (0, .ref (qa Y 0)), (1, .int v1), (2, .int v2), (3, .int v3), (4, .int v4), (6, .int v6)] dX9_periods_57 (by decide) rfl ?_
  obtain ⟨x14, ex14⟩ : ∃ y : Int32, y = v6 + (1 : Int32) := ⟨_, rfl⟩
  replace h := h x14 ex14
  refine q_iinc C x14 6 [(6, .int x14), (5, .int s0), (0, .ref (qa Y 0)), (1, .int v1), (2, .int v2), (3, .int v3), (4, .int v4)] dX9_periods_59 rfl (by rw [ex14]; rfl) (by decide) rfl ?_
  refine q_goto C 28 dX9_periods_62 (by decide) ?_
  refine q_sub (lv' := [(0, .ref (qa Y 0)), (1, .int v1), (2, .int v2), (3, .int v3), (4, .int v4), (5, .int s0), (6, .int x14)]) [2, 3, 4, 5, 6, 1, 0] rfl ?_
  exact hK28 v1 v2 v3 v4 s0 x14 σ h
set_option maxHeartbeats 4000000 in
set_option maxRecDepth 100000 in
theorem b_X9_periods_J52 {Y : CY} {Z : CZ} (C : cx SM 7 Y Z cX9_periods RX9 wsX9_periods (some .int) rmX9_periods) {Post : Int32 → St → Prop} (hQ : Qi SM Y Z Post)  {K4 : Int32 → Int32 → St → Prop} (hK4 : ∀ (v1 : Int32) (v2 : Int32) (σ : St), K4 v1 v2 σ → WW SM 7 Y Z σ 4 [(0, .ref (qa Y 0)), (1, .int v1), (2, .int v2)] []) {K15 : Int32 → Int32 → Int32 → Int32 → St → Prop} (hK15 : ∀ (v1 : Int32) (v2 : Int32) (v3 : Int32) (v4 : Int32) (σ : St), K15 v1 v2 v3 v4 σ → WW SM 7 Y Z σ 15 [(0, .ref (qa Y 0)), (1, .int v1), (2, .int v2), (3, .int v3), (4, .int v4)] []) {K28 : Int32 → Int32 → Int32 → Int32 → Int32 → Int32 → St → Prop} (hK28 : ∀ (v1 : Int32) (v2 : Int32) (v3 : Int32) (v4 : Int32) (v5 : Int32) (v6 : Int32) (σ : St), K28 v1 v2 v3 v4 v5 v6 σ → WW SM 7 Y Z σ 28 [(0, .ref (qa Y 0)), (1, .int v1), (2, .int v2), (3, .int v3), (4, .int v4), (5, .int v5), (6, .int v6)] []) (v1 : Int32) (v2 : Int32) (v3 : Int32) (v4 : Int32) (v6 : Int32) (σ : St) (h : w_X9_periods_J52 K4 K15 K28 Post v1 v2 v3 v4 v6 σ) : WW SM 7 Y Z σ 52 [(0, .ref (qa Y 0)), (1, .int v1), (2, .int v2), (3, .int v3), (4, .int v4), (6, .int v6)] [] := by
  unfold w_X9_periods_J52 at h
  refine q_iconst (v := (1 : Int32)) C dX9_periods_52 (by decide) ?_
  refine q_goto C 57 dX9_periods_53 (by decide) ?_
  exact b_X9_periods_J57 C hQ hK4 hK15 hK28 v1 v2 v3 v4 v6 (1 : Int32) σ h
set_option maxHeartbeats 4000000 in
set_option maxRecDepth 100000 in
theorem b_X9_periods_J79 {Y : CY} {Z : CZ} (C : cx SM 7 Y Z cX9_periods RX9 wsX9_periods (some .int) rmX9_periods) {Post : Int32 → St → Prop} (hQ : Qi SM Y Z Post)  {K4 : Int32 → Int32 → St → Prop} (hK4 : ∀ (v1 : Int32) (v2 : Int32) (σ : St), K4 v1 v2 σ → WW SM 7 Y Z σ 4 [(0, .ref (qa Y 0)), (1, .int v1), (2, .int v2)] []) {K15 : Int32 → Int32 → Int32 → Int32 → St → Prop} (hK15 : ∀ (v1 : Int32) (v2 : Int32) (v3 : Int32) (v4 : Int32) (σ : St), K15 v1 v2 v3 v4 σ → WW SM 7 Y Z σ 15 [(0, .ref (qa Y 0)), (1, .int v1), (2, .int v2), (3, .int v3), (4, .int v4)] []) (v1 : Int32) (v2 : Int32) (v4 : Int32) (s0 : Int32) (σ : St) (h : w_X9_periods_J79 K4 K15 Post v1 v2 v4 s0 σ) : WW SM 7 Y Z σ 79 [(0, .ref (qa Y 0)), (1, .int v1), (2, .int v2), (4, .int v4)] [.int s0] := by
  unfold w_X9_periods_J79 at h
  refine q_istore_n C [(3, .int s0), (0, .ref (qa Y 0)), (1, .int v1), (2, .int v2), (4, .int v4)] dX9_periods_79 (by decide) rfl ?_
  obtain ⟨x13, ex13⟩ : ∃ y : Int32, y = v4 + (1 : Int32) := ⟨_, rfl⟩
  replace h := h x13 ex13
  refine q_iinc C x13 4 [(4, .int x13), (3, .int s0), (0, .ref (qa Y 0)), (1, .int v1), (2, .int v2)] dX9_periods_80 rfl (by rw [ex13]; rfl) (by decide) rfl ?_
  refine q_goto C 15 dX9_periods_83 (by decide) ?_
  refine q_sub (lv' := [(0, .ref (qa Y 0)), (1, .int v1), (2, .int v2), (3, .int s0), (4, .int x13)]) [2, 3, 4, 1, 0] rfl ?_
  exact hK15 v1 v2 s0 x13 σ h
set_option maxHeartbeats 4000000 in
set_option maxRecDepth 100000 in
theorem b_X9_periods_J78 {Y : CY} {Z : CZ} (C : cx SM 7 Y Z cX9_periods RX9 wsX9_periods (some .int) rmX9_periods) {Post : Int32 → St → Prop} (hQ : Qi SM Y Z Post)  {K4 : Int32 → Int32 → St → Prop} (hK4 : ∀ (v1 : Int32) (v2 : Int32) (σ : St), K4 v1 v2 σ → WW SM 7 Y Z σ 4 [(0, .ref (qa Y 0)), (1, .int v1), (2, .int v2)] []) {K15 : Int32 → Int32 → Int32 → Int32 → St → Prop} (hK15 : ∀ (v1 : Int32) (v2 : Int32) (v3 : Int32) (v4 : Int32) (σ : St), K15 v1 v2 v3 v4 σ → WW SM 7 Y Z σ 15 [(0, .ref (qa Y 0)), (1, .int v1), (2, .int v2), (3, .int v3), (4, .int v4)] []) (v1 : Int32) (v2 : Int32) (v4 : Int32) (σ : St) (h : w_X9_periods_J78 K4 K15 Post v1 v2 v4 σ) : WW SM 7 Y Z σ 78 [(0, .ref (qa Y 0)), (1, .int v1), (2, .int v2), (4, .int v4)] [] := by
  unfold w_X9_periods_J78 at h
  refine q_iconst (v := (0 : Int32)) C dX9_periods_78 (by decide) ?_
  exact b_X9_periods_J79 C hQ hK4 hK15 v1 v2 v4 (0 : Int32) σ h
set_option maxHeartbeats 4000000 in
set_option maxRecDepth 100000 in
theorem b_X9_periods_B28 {Y : CY} {Z : CZ} (C : cx SM 7 Y Z cX9_periods RX9 wsX9_periods (some .int) rmX9_periods) {Post : Int32 → St → Prop} (hQ : Qi SM Y Z Post)  {K4 : Int32 → Int32 → St → Prop} (hK4 : ∀ (v1 : Int32) (v2 : Int32) (σ : St), K4 v1 v2 σ → WW SM 7 Y Z σ 4 [(0, .ref (qa Y 0)), (1, .int v1), (2, .int v2)] []) {K15 : Int32 → Int32 → Int32 → Int32 → St → Prop} (hK15 : ∀ (v1 : Int32) (v2 : Int32) (v3 : Int32) (v4 : Int32) (σ : St), K15 v1 v2 v3 v4 σ → WW SM 7 Y Z σ 15 [(0, .ref (qa Y 0)), (1, .int v1), (2, .int v2), (3, .int v3), (4, .int v4)] []) {K28 : Int32 → Int32 → Int32 → Int32 → Int32 → Int32 → St → Prop} (hK28 : ∀ (v1 : Int32) (v2 : Int32) (v3 : Int32) (v4 : Int32) (v5 : Int32) (v6 : Int32) (σ : St), K28 v1 v2 v3 v4 v5 v6 σ → WW SM 7 Y Z σ 28 [(0, .ref (qa Y 0)), (1, .int v1), (2, .int v2), (3, .int v3), (4, .int v4), (5, .int v5), (6, .int v6)] []) (v1 : Int32) (v2 : Int32) (v3 : Int32) (v4 : Int32) (v5 : Int32) (v6 : Int32) (σ : St) (h : w_X9_periods_B28 K4 K15 Post K28 v1 v2 v3 v4 v5 v6 σ) : WW SM 7 Y Z σ 28 [(0, .ref (qa Y 0)), (1, .int v1), (2, .int v2), (3, .int v3), (4, .int v4), (5, .int v5), (6, .int v6)] [] := by
  unfold w_X9_periods_B28 at h
  refine q_iload C 6 dX9_periods_28 rfl ?_
  refine q_bipush (v := (10 : Int32)) C dX9_periods_30 (by decide) ?_
  refine q_icmp_ge C 65 dX9_periods_32 (by decide) (fun c6 => ?_) (fun c6 => ?_)
  · replace h := h.1 c6
    refine q_iload_n C 3 dX9_periods_65 rfl ?_
    refine q_if_eq C 78 dX9_periods_66 (by decide) (fun c7 => ?_) (fun c7 => ?_)
    · replace h := h.1 c7
      refine q_sub (lv' := [(0, .ref (qa Y 0)), (1, .int v1), (2, .int v2), (4, .int v4)]) [0, 1, 2, 4] rfl ?_
      exact b_X9_periods_J78 C hQ hK4 hK15 v1 v2 v4 σ h
    · replace h := h.2 c7
      refine q_iload C 5 dX9_periods_69 rfl ?_
      refine q_if_eq C 78 dX9_periods_71 (by decide) (fun c8 => ?_) (fun c8 => ?_)
      · replace h := h.1 c8
        refine q_sub (lv' := [(0, .ref (qa Y 0)), (1, .int v1), (2, .int v2), (4, .int v4)]) [0, 1, 2, 4] rfl ?_
        exact b_X9_periods_J78 C hQ hK4 hK15 v1 v2 v4 σ h
      · replace h := h.2 c8
        refine q_iconst (v := (1 : Int32)) C dX9_periods_74 (by decide) ?_
        refine q_goto C 79 dX9_periods_75 (by decide) ?_
        refine q_sub (lv' := [(0, .ref (qa Y 0)), (1, .int v1), (2, .int v2), (4, .int v4)]) [0, 1, 2, 4] rfl ?_
        exact b_X9_periods_J79 C hQ hK4 hK15 v1 v2 v4 (1 : Int32) σ h
  · replace h := h.2 c6
    refine q_iload C 5 dX9_periods_35 rfl ?_
    refine q_if_ne C 52 dX9_periods_37 (by decide) (fun c9 => ?_) (fun c9 => ?_)
    · replace h := h.1 c9
      refine q_sub (lv' := [(0, .ref (qa Y 0)), (1, .int v1), (2, .int v2), (3, .int v3), (4, .int v4), (6, .int v6)]) [0, 1, 2, 3, 4, 6] rfl ?_
      exact b_X9_periods_J52 C hQ hK4 hK15 hK28 v1 v2 v3 v4 v6 σ h
    · replace h := h.2 c9
      refine q_aload_n C 0 dX9_periods_40 rfl ?_
      refine q_iload C 4 dX9_periods_41 rfl ?_
      refine q_iload_n C 2 dX9_periods_43 rfl ?_
      refine q_iload C 6 dX9_periods_44 rfl ?_
      refine q_callVi (As := [.int v4, .int v2, .int v6]) (st := []) C (c_X9_doesFit Y v4 v2 v6 σ _ h) gX9_periods_X9_doesFit rfl ⟨rfl, nkX9_doesFit⟩ rmOk_X9_periods__X9_doesFit kM0 iM0 rfl rfl (Nat.le_of_ble_eq_true rfl) dX9_periods_46 rfl (fun x11 σ10 h => ?_)
      refine q_if_eq C 56 dX9_periods_49 (by decide) (fun c12 => ?_) (fun c12 => ?_)
      · replace h := h.1 c12
        refine q_iconst (v := (0 : Int32)) C dX9_periods_56 (by decide) ?_
        refine q_sub (lv' := [(0, .ref (qa Y 0)), (1, .int v1), (2, .int v2), (3, .int v3), (4, .int v4), (6, .int v6)]) [0, 1, 2, 3, 4, 6] rfl ?_
        exact b_X9_periods_J57 C hQ hK4 hK15 hK28 v1 v2 v3 v4 v6 (0 : Int32) σ10 h
      · replace h := h.2 c12
        refine q_sub (lv' := [(0, .ref (qa Y 0)), (1, .int v1), (2, .int v2), (3, .int v3), (4, .int v4), (6, .int v6)]) [0, 1, 2, 3, 4, 6] rfl ?_
        exact b_X9_periods_J52 C hQ hK4 hK15 hK28 v1 v2 v3 v4 v6 σ10 h
theorem b_X9_periods_L28 {Y : CY} {Z : CZ} (C : cx SM 7 Y Z cX9_periods RX9 wsX9_periods (some .int) rmX9_periods) {Post : Int32 → St → Prop} (hQ : Qi SM Y Z Post)  {K4 : Int32 → Int32 → St → Prop} (hK4 : ∀ (v1 : Int32) (v2 : Int32) (σ : St), K4 v1 v2 σ → WW SM 7 Y Z σ 4 [(0, .ref (qa Y 0)), (1, .int v1), (2, .int v2)] []) {K15 : Int32 → Int32 → Int32 → Int32 → St → Prop} (hK15 : ∀ (v1 : Int32) (v2 : Int32) (v3 : Int32) (v4 : Int32) (σ : St), K15 v1 v2 v3 v4 σ → WW SM 7 Y Z σ 15 [(0, .ref (qa Y 0)), (1, .int v1), (2, .int v2), (3, .int v3), (4, .int v4)] []) : ∀ (n : Nat) (v1 : Int32) (v2 : Int32) (v3 : Int32) (v4 : Int32) (v5 : Int32) (v6 : Int32) (σ : St) (h : w_X9_periods_L28 K4 K15 Post n v1 v2 v3 v4 v5 v6 σ), WW SM 7 Y Z σ 28 [(0, .ref (qa Y 0)), (1, .int v1), (2, .int v2), (3, .int v3), (4, .int v4), (5, .int v5), (6, .int v6)] [] := by
  intro n
  induction n with
  | zero => intro v1 v2 v3 v4 v5 v6 σ h; exact h.elim
  | succ n ih => intro v1 v2 v3 v4 v5 v6 σ h; exact b_X9_periods_B28 C hQ  hK4 hK15 ih v1 v2 v3 v4 v5 v6 σ h
set_option maxHeartbeats 4000000 in
set_option maxRecDepth 100000 in
theorem b_X9_periods_J98 {Y : CY} {Z : CZ} (C : cx SM 7 Y Z cX9_periods RX9 wsX9_periods (some .int) rmX9_periods) {Post : Int32 → St → Prop} (hQ : Qi SM Y Z Post)  {K4 : Int32 → Int32 → St → Prop} (hK4 : ∀ (v1 : Int32) (v2 : Int32) (σ : St), K4 v1 v2 σ → WW SM 7 Y Z σ 4 [(0, .ref (qa Y 0)), (1, .int v1), (2, .int v2)] []) (v2 : Int32) (s0 : Int32) (s1 : Int32) (σ : St) (h : w_X9_periods_J98 K4 Post v2 s0 s1 σ) : WW SM 7 Y Z σ 98 [(0, .ref (qa Y 0)), (2, .int v2)] [.int s0, .int s1] := by
  unfold w_X9_periods_J98 at h
  refine q_ior C dX9_periods_98 ?_
  refine q_topi (fun x4 ex4 => ?_)
  replace h := h x4 ex4
  refine q_istore_n C [(1, .int x4), (0, .ref (qa Y 0)), (2, .int v2)] dX9_periods_99 (by decide) rfl ?_
  obtain ⟨x5, ex5⟩ : ∃ y : Int32, y = v2 + (1 : Int32) := ⟨_, rfl⟩
  replace h := h x5 ex5
  refine q_iinc C x5 2 [(2, .int x5), (1, .int x4), (0, .ref (qa Y 0))] dX9_periods_100 rfl (by rw [ex5]; rfl) (by decide) rfl ?_
  refine q_goto C 4 dX9_periods_103 (by decide) ?_
  refine q_sub (lv' := [(0, .ref (qa Y 0)), (1, .int x4), (2, .int x5)]) [2, 1, 0] rfl ?_
  exact hK4 x4 x5 σ h
set_option maxHeartbeats 4000000 in
set_option maxRecDepth 100000 in
theorem b_X9_periods_B15 {Y : CY} {Z : CZ} (C : cx SM 7 Y Z cX9_periods RX9 wsX9_periods (some .int) rmX9_periods) {Post : Int32 → St → Prop} (hQ : Qi SM Y Z Post)  {K4 : Int32 → Int32 → St → Prop} (hK4 : ∀ (v1 : Int32) (v2 : Int32) (σ : St), K4 v1 v2 σ → WW SM 7 Y Z σ 4 [(0, .ref (qa Y 0)), (1, .int v1), (2, .int v2)] []) {K15 : Int32 → Int32 → Int32 → Int32 → St → Prop} (hK15 : ∀ (v1 : Int32) (v2 : Int32) (v3 : Int32) (v4 : Int32) (σ : St), K15 v1 v2 v3 v4 σ → WW SM 7 Y Z σ 15 [(0, .ref (qa Y 0)), (1, .int v1), (2, .int v2), (3, .int v3), (4, .int v4)] []) (v1 : Int32) (v2 : Int32) (v3 : Int32) (v4 : Int32) (σ : St) (h : w_X9_periods_B15 K4 Post K15 v1 v2 v3 v4 σ) : WW SM 7 Y Z σ 15 [(0, .ref (qa Y 0)), (1, .int v1), (2, .int v2), (3, .int v3), (4, .int v4)] [] := by
  unfold w_X9_periods_B15 at h
  refine q_iload C 4 dX9_periods_15 rfl ?_
  refine q_iload_n C 2 dX9_periods_17 rfl ?_
  refine q_icmp_ge C 86 dX9_periods_18 (by decide) (fun c2 => ?_) (fun c2 => ?_)
  · replace h := h.1 c2
    refine q_iload_n C 1 dX9_periods_86 rfl ?_
    refine q_iload_n C 3 dX9_periods_87 rfl ?_
    refine q_if_eq C 97 dX9_periods_88 (by decide) (fun c3 => ?_) (fun c3 => ?_)
    · replace h := h.1 c3
      refine q_iconst (v := (0 : Int32)) C dX9_periods_97 (by decide) ?_
      refine q_sub (lv' := [(0, .ref (qa Y 0)), (2, .int v2)]) [0, 2] rfl ?_
      exact b_X9_periods_J98 C hQ hK4 v2 (0 : Int32) v1 σ h
    · replace h := h.2 c3
      refine q_iconst (v := (1 : Int32)) C dX9_periods_91 (by decide) ?_
      refine q_iload_n C 2 dX9_periods_92 rfl ?_
      refine q_ishl C dX9_periods_93 ?_
      refine q_goto C 98 dX9_periods_94 (by decide) ?_
      refine q_sub (lv' := [(0, .ref (qa Y 0)), (2, .int v2)]) [0, 2] rfl ?_
      exact b_X9_periods_J98 C hQ hK4 v2 (((1 : Int32) <<< (v2 &&& 31))) v1 σ h
  · replace h := h.2 c2
    refine q_iconst (v := (0 : Int32)) C dX9_periods_21 (by decide) ?_
    refine q_istore C [(5, .int (0 : Int32)), (0, .ref (qa Y 0)), (1, .int v1), (2, .int v2), (3, .int v3), (4, .int v4)] dX9_periods_22 (by decide) rfl ?_
    refine q_bipush (v := (-9 : Int32)) C dX9_periods_24 (by decide) ?_
    refine q_istore C [(6, .int (-9 : Int32)), (5, .int (0 : Int32)), (0, .ref (qa Y 0)), (1, .int v1), (2, .int v2), (3, .int v3), (4, .int v4)] dX9_periods_26 (by decide) rfl ?_
    refine q_sub (lv' := [(0, .ref (qa Y 0)), (1, .int v1), (2, .int v2), (3, .int v3), (4, .int v4), (5, .int (0 : Int32)), (6, .int (-9 : Int32))]) [2, 3, 4, 5, 6, 1, 0] rfl ?_
    exact b_X9_periods_L28 C hQ hK4 hK15 FU v1 v2 v3 v4 (0 : Int32) (-9 : Int32) σ h
theorem b_X9_periods_L15 {Y : CY} {Z : CZ} (C : cx SM 7 Y Z cX9_periods RX9 wsX9_periods (some .int) rmX9_periods) {Post : Int32 → St → Prop} (hQ : Qi SM Y Z Post)  {K4 : Int32 → Int32 → St → Prop} (hK4 : ∀ (v1 : Int32) (v2 : Int32) (σ : St), K4 v1 v2 σ → WW SM 7 Y Z σ 4 [(0, .ref (qa Y 0)), (1, .int v1), (2, .int v2)] []) : ∀ (n : Nat) (v1 : Int32) (v2 : Int32) (v3 : Int32) (v4 : Int32) (σ : St) (h : w_X9_periods_L15 K4 Post n v1 v2 v3 v4 σ), WW SM 7 Y Z σ 15 [(0, .ref (qa Y 0)), (1, .int v1), (2, .int v2), (3, .int v3), (4, .int v4)] [] := by
  intro n
  induction n with
  | zero => intro v1 v2 v3 v4 σ h; exact h.elim
  | succ n ih => intro v1 v2 v3 v4 σ h; exact b_X9_periods_B15 C hQ  hK4 ih v1 v2 v3 v4 σ h
set_option maxHeartbeats 4000000 in
set_option maxRecDepth 100000 in
theorem b_X9_periods_B4 {Y : CY} {Z : CZ} (C : cx SM 7 Y Z cX9_periods RX9 wsX9_periods (some .int) rmX9_periods) {Post : Int32 → St → Prop} (hQ : Qi SM Y Z Post)  {K4 : Int32 → Int32 → St → Prop} (hK4 : ∀ (v1 : Int32) (v2 : Int32) (σ : St), K4 v1 v2 σ → WW SM 7 Y Z σ 4 [(0, .ref (qa Y 0)), (1, .int v1), (2, .int v2)] []) (v1 : Int32) (v2 : Int32) (σ : St) (h : w_X9_periods_B4  Post K4 v1 v2 σ) : WW SM 7 Y Z σ 4 [(0, .ref (qa Y 0)), (1, .int v1), (2, .int v2)] [] := by
  unfold w_X9_periods_B4 at h
  refine q_iload_n C 2 dX9_periods_4 rfl ?_
  refine q_bipush (v := (10 : Int32)) C dX9_periods_5 (by decide) ?_
  refine q_icmp_ge C 106 dX9_periods_7 (by decide) (fun c1 => ?_) (fun c1 => ?_)
  · replace h := h.1 c1
    refine q_iload_n C 1 dX9_periods_106 rfl ?_
    exact q_iret C hQ dX9_periods_107 h
  · replace h := h.2 c1
    refine q_iconst (v := (1 : Int32)) C dX9_periods_10 (by decide) ?_
    refine q_istore_n C [(3, .int (1 : Int32)), (0, .ref (qa Y 0)), (1, .int v1), (2, .int v2)] dX9_periods_11 (by decide) rfl ?_
    refine q_iconst (v := (0 : Int32)) C dX9_periods_12 (by decide) ?_
    refine q_istore C [(4, .int (0 : Int32)), (3, .int (1 : Int32)), (0, .ref (qa Y 0)), (1, .int v1), (2, .int v2)] dX9_periods_13 (by decide) rfl ?_
    refine q_sub (lv' := [(0, .ref (qa Y 0)), (1, .int v1), (2, .int v2), (3, .int (1 : Int32)), (4, .int (0 : Int32))]) [2, 3, 4, 1, 0] rfl ?_
    exact b_X9_periods_L15 C hQ hK4 FU v1 v2 (1 : Int32) (0 : Int32) σ h
theorem b_X9_periods_L4 {Y : CY} {Z : CZ} (C : cx SM 7 Y Z cX9_periods RX9 wsX9_periods (some .int) rmX9_periods) {Post : Int32 → St → Prop} (hQ : Qi SM Y Z Post)  : ∀ (n : Nat) (v1 : Int32) (v2 : Int32) (σ : St) (h : w_X9_periods_L4  Post n v1 v2 σ), WW SM 7 Y Z σ 4 [(0, .ref (qa Y 0)), (1, .int v1), (2, .int v2)] [] := by
  intro n
  induction n with
  | zero => intro v1 v2 σ h; exact h.elim
  | succ n ih => intro v1 v2 σ h; exact b_X9_periods_B4 C hQ  ih v1 v2 σ h
set_option maxHeartbeats 4000000 in
set_option maxRecDepth 100000 in
theorem b_X9_periods {Y : CY} {Z : CZ} (C : cx SM 7 Y Z cX9_periods RX9 wsX9_periods (some .int) rmX9_periods) {Post : Int32 → St → Prop} (hQ : Qi SM Y Z Post)  (σ : St) (h : w_X9_periods  σ Post) : WW SM 7 Y Z σ 0 [(0, .ref (qa Y 0))] [] := by
  unfold w_X9_periods at h
  refine q_iconst (v := (0 : Int32)) C dX9_periods_0 (by decide) ?_
  refine q_istore_n C [(1, .int (0 : Int32)), (0, .ref (qa Y 0))] dX9_periods_1 (by decide) rfl ?_
  refine q_iconst (v := (1 : Int32)) C dX9_periods_2 (by decide) ?_
  refine q_istore_n C [(2, .int (1 : Int32)), (1, .int (0 : Int32)), (0, .ref (qa Y 0))] dX9_periods_3 (by decide) rfl ?_
  refine q_sub (lv' := [(0, .ref (qa Y 0)), (1, .int (0 : Int32)), (2, .int (1 : Int32))]) [2, 1, 0] rfl ?_
  exact b_X9_periods_L4 C hQ FU (0 : Int32) (1 : Int32) σ h
theorem c_X9_periods (Y : CY)  (σ : St) (Post : Int32 → St → Prop) (h : w_X9_periods  σ Post) : Ki SM Y yX9_periods wsX9_periods rmX9_periods [.ref (qa Y 0)] σ Post :=
  Ki_of (cc := cX9_periods) (nL := 7) (ret := (some .int)) (by decide +kernel) rfl (Nat.le_of_ble_eq_true rfl) (fun Z C hQ => b_X9_periods C hQ  σ h)
abbrev rmX9_plate : Room := { frames := 1, cells := 0, slots := 0, locals := 22 }
theorem nkX9_plate : NmOk yX9_plate 0 := by decide +kernel
theorem rmOk_X9_plate__X9_newPlate : RmOk rmX9_newPlate rmX9_plate 2 := ⟨rfl, rfl, by decide, by decide⟩
theorem rmOk_X9_plate__X9_remember : RmOk rmX9_remember rmX9_plate 2 := ⟨rfl, rfl, by decide, by decide⟩
theorem rmOk_X9_plate__X9_tailNow : RmOk rmX9_tailNow rmX9_plate 3 := ⟨rfl, rfl, by decide, by decide⟩
theorem inX9_plate_X9 : ∀ w ∈ u_ws RX9 TX9 47, w ∈ wsX9_plate := fun _ h => List.mem_cons_of_mem _ (List.mem_append_right _ h)
def w_X9_plate (σ : St) (Post : Int32 → St → Prop) : Prop := (¬ (σ 0 0) = 0 → w_X9_remember σ (fun σ2 => w_X9_tailNow σ2 (fun x4 σ3 => w_X9_newPlate σ3 (fun σ5 => Post x4 σ5)))) ∧ ((σ 0 0) = 0 → Post (-1000000003 : Int32) σ)
set_option maxHeartbeats 4000000 in
set_option maxRecDepth 100000 in
theorem b_X9_plate {Y : CY} {Z : CZ} (C : cx SM 2 Y Z cX9_plate RX9 wsX9_plate (some .int) rmX9_plate) {Post : Int32 → St → Prop} (hQ : Qi SM Y Z Post)  (σ : St) (h : w_X9_plate  σ Post) : WW SM 2 Y Z σ 0 [(0, .ref (qa Y 0))] [] := by
  unfold w_X9_plate at h
  refine q_aload_n C 0 dX9_plate_0 rfl ?_
  refine q_geti (T := TX9) C kM0 iM0 inX9_plate_X9 rfl 0 (by decide) (List.mem_of_getElem? (i := 1) rfl) (fun _ h9 => h9) rfl dX9_plate_1 ?_
  refine q_if_ne C 10 dX9_plate_4 (by decide) (fun c1 => ?_) (fun c1 => ?_)
  · replace h := h.1 c1
    refine q_aload_n C 0 dX9_plate_10 rfl ?_
    refine q_callVv (As := []) (st := []) C (c_X9_remember Y σ _ h) gX9_plate_X9_remember rfl ⟨rfl, nkX9_remember⟩ rmOk_X9_plate__X9_remember kM0 iM0 rfl rfl (Nat.le_of_ble_eq_true rfl) dX9_plate_11 rfl (fun σ2 h => ?_)
    refine q_aload_n C 0 dX9_plate_14 rfl ?_
    refine q_callVi (As := []) (st := []) C (c_X9_tailNow Y σ2 _ h) gX9_plate_X9_tailNow rfl ⟨rfl, nkX9_tailNow⟩ rmOk_X9_plate__X9_tailNow kM0 iM0 rfl rfl (Nat.le_of_ble_eq_true rfl) dX9_plate_15 rfl (fun x4 σ3 h => ?_)
    refine q_istore_n C [(1, .int x4), (0, .ref (qa Y 0))] dX9_plate_18 (by decide) rfl ?_
    refine q_aload_n C 1 dX9_plate_19 rfl ?_
    refine q_callVv (As := []) (st := []) C (c_X9_newPlate Y σ3 _ h) gX9_plate_X9_newPlate rfl ⟨rfl, nkX9_newPlate⟩ rmOk_X9_plate__X9_newPlate kM0 iM0 rfl rfl (Nat.le_of_ble_eq_true rfl) dX9_plate_20 rfl (fun σ5 h => ?_)
    refine q_iload_n C 0 dX9_plate_23 rfl ?_
    exact q_iret C hQ dX9_plate_24 h
  · replace h := h.2 c1
    refine q_ldc (v := (-1000000003 : Int32)) C (List.mem_of_getElem? (i := 2) rfl) dX9_plate_7 ?_
    exact q_iret C hQ dX9_plate_9 h
theorem c_X9_plate (Y : CY)  (σ : St) (Post : Int32 → St → Prop) (h : w_X9_plate  σ Post) : Ki SM Y yX9_plate wsX9_plate rmX9_plate [.ref (qa Y 0)] σ Post :=
  Ki_of (cc := cX9_plate) (nL := 2) (ret := (some .int)) (by decide +kernel) rfl (Nat.le_of_ble_eq_true rfl) (fun Z C hQ => b_X9_plate C hQ  σ h)
abbrev rmX9_press : Room := { frames := 1, cells := 0, slots := 0, locals := 25 }
theorem nkX9_press : NmOk yX9_press 2 := by decide +kernel
theorem rmOk_X9_press__X9_in : RmOk rmX9_in rmX9_press 6 := ⟨rfl, rfl, by decide, by decide⟩
theorem rmOk_X9_press__X9_isReady : RmOk rmX9_isReady rmX9_press 1 := ⟨rfl, rfl, by decide, by decide⟩
theorem rmOk_X9_press__X9_remember : RmOk rmX9_remember rmX9_press 2 := ⟨rfl, rfl, by decide, by decide⟩
theorem inX9_press_X9 : ∀ w ∈ u_ws RX9 TX9 47, w ∈ wsX9_press := fun _ h => List.mem_cons_of_mem _ (List.mem_append_right _ h)
def w_X9_press (p1 : Int32) (p2 : Int32) (σ : St) (Post : Int32 → St → Prop) : Prop := w_X9_in (p1.toInt64) (-99 : Int64) (99 : Int64) σ (fun x2 σ1 => (x2 = 0 → Post (-1000000002 : Int32) σ1) ∧ (¬ x2 = 0 → w_X9_in (p2.toInt64) (-99 : Int64) (99 : Int64) σ1 (fun x5 σ4 => (¬ x5 = 0 → w_X9_isReady σ4 (fun x8 σ7 => (¬ x8 = 0 → w_X9_remember σ7 (fun σ10 => ∀ σ11 : St, σ11 = up σ10 4 3 p1 → ∀ σ12 : St, σ12 = up σ11 4 4 p2 → Post (1 : Int32) σ12)) ∧ (x8 = 0 → Post (-1000000003 : Int32) σ7))) ∧ (x5 = 0 → Post (-1000000002 : Int32) σ4))))
set_option maxHeartbeats 4000000 in
set_option maxRecDepth 100000 in
theorem b_X9_press {Y : CY} {Z : CZ} (C : cx SM 3 Y Z cX9_press RX9 wsX9_press (some .int) rmX9_press) {Post : Int32 → St → Prop} (hQ : Qi SM Y Z Post)  (p1 : Int32) (p2 : Int32) (σ : St) (h : w_X9_press p1 p2 σ Post) : WW SM 3 Y Z σ 0 [(0, .ref (qa Y 0)), (1, .int p1), (2, .int p2)] [] := by
  unfold w_X9_press at h
  refine q_iload_n C 1 dX9_press_0 rfl ?_
  refine q_i2l C dX9_press_1 ?_
  refine q_ldc2 (v := (-99 : Int64)) C (List.mem_of_getElem? (i := 1) rfl) dX9_press_2 ?_
  refine q_ldc2 (v := (99 : Int64)) C (List.mem_of_getElem? (i := 2) rfl) dX9_press_5 ?_
  refine q_callSi (As := [.long p1.toInt64, .long (-99 : Int64), .long (99 : Int64)]) (st := []) C (c_X9_in Y (p1.toInt64) (-99 : Int64) (99 : Int64) σ _ h) gX9_press_X9_in rfl nkX9_in rmOk_X9_press__X9_in rfl (Nat.le_of_ble_eq_true rfl) dX9_press_8 rfl (fun x2 σ1 h => ?_)
  refine q_if_eq C 28 dX9_press_11 (by decide) (fun c3 => ?_) (fun c3 => ?_)
  · replace h := h.1 c3
    refine q_ldc (v := (-1000000002 : Int32)) C (List.mem_of_getElem? (i := 3) rfl) dX9_press_28 ?_
    exact q_iret C hQ dX9_press_30 h
  · replace h := h.2 c3
    refine q_iload_n C 2 dX9_press_14 rfl ?_
    refine q_i2l C dX9_press_15 ?_
    refine q_ldc2 (v := (-99 : Int64)) C (List.mem_of_getElem? (i := 1) rfl) dX9_press_16 ?_
    refine q_ldc2 (v := (99 : Int64)) C (List.mem_of_getElem? (i := 2) rfl) dX9_press_19 ?_
    refine q_callSi (As := [.long p2.toInt64, .long (-99 : Int64), .long (99 : Int64)]) (st := []) C (c_X9_in Y (p2.toInt64) (-99 : Int64) (99 : Int64) σ1 _ h) gX9_press_X9_in rfl nkX9_in rmOk_X9_press__X9_in rfl (Nat.le_of_ble_eq_true rfl) dX9_press_22 rfl (fun x5 σ4 h => ?_)
    refine q_if_ne C 31 dX9_press_25 (by decide) (fun c6 => ?_) (fun c6 => ?_)
    · replace h := h.1 c6
      refine q_aload_n C 0 dX9_press_31 rfl ?_
      refine q_callVi (As := []) (st := []) C (c_X9_isReady Y σ4 _ h) gX9_press_X9_isReady rfl ⟨rfl, nkX9_isReady⟩ rmOk_X9_press__X9_isReady kM0 iM0 rfl rfl (Nat.le_of_ble_eq_true rfl) dX9_press_32 rfl (fun x8 σ7 h => ?_)
      refine q_if_ne C 41 dX9_press_35 (by decide) (fun c9 => ?_) (fun c9 => ?_)
      · replace h := h.1 c9
        refine q_aload_n C 0 dX9_press_41 rfl ?_
        refine q_callVv (As := []) (st := []) C (c_X9_remember Y σ7 _ h) gX9_press_X9_remember rfl ⟨rfl, nkX9_remember⟩ rmOk_X9_press__X9_remember kM0 iM0 rfl rfl (Nat.le_of_ble_eq_true rfl) dX9_press_42 rfl (fun σ10 h => ?_)
        refine q_aload_n C 0 dX9_press_45 rfl ?_
        refine q_getr (T := TX9) C kM0 iM0 inX9_press_X9 rfl 12 (by decide) (List.mem_of_getElem? (i := 5) rfl) (fun _ h9 => h9) rfl dX9_press_46 ?_
        refine q_iconst (v := (3 : Int32)) C dX9_press_49 (by decide) ?_
        refine q_iload_n C 1 dX9_press_50 rfl ?_
        refine q_iastk C 3 (by decide) (by decide) (by decide) kM4 iM4 dX9_press_51 ?_
        refine q_nmS (fun σ11 eσ11 => ?_)
        replace h := h σ11 eσ11
        refine q_aload_n C 0 dX9_press_52 rfl ?_
        refine q_getr (T := TX9) C kM0 iM0 inX9_press_X9 rfl 12 (by decide) (List.mem_of_getElem? (i := 5) rfl) (fun _ h9 => h9) rfl dX9_press_53 ?_
        refine q_iconst (v := (4 : Int32)) C dX9_press_56 (by decide) ?_
        refine q_iload_n C 2 dX9_press_57 rfl ?_
        refine q_iastk C 4 (by decide) (by decide) (by decide) kM4 iM4 dX9_press_58 ?_
        refine q_nmS (fun σ12 eσ12 => ?_)
        replace h := h σ12 eσ12
        refine q_iconst (v := (1 : Int32)) C dX9_press_59 (by decide) ?_
        exact q_iret C hQ dX9_press_60 h
      · replace h := h.2 c9
        refine q_ldc (v := (-1000000003 : Int32)) C (List.mem_of_getElem? (i := 4) rfl) dX9_press_38 ?_
        exact q_iret C hQ dX9_press_40 h
    · replace h := h.2 c6
      refine q_ldc (v := (-1000000002 : Int32)) C (List.mem_of_getElem? (i := 3) rfl) dX9_press_28 ?_
      exact q_iret C hQ dX9_press_30 h
theorem c_X9_press (Y : CY)  (p1 : Int32) (p2 : Int32) (σ : St) (Post : Int32 → St → Prop) (h : w_X9_press p1 p2 σ Post) : Ki SM Y yX9_press wsX9_press rmX9_press [.ref (qa Y 0), .int p1, .int p2] σ Post :=
  Ki_of (cc := cX9_press) (nL := 3) (ret := (some .int)) (by decide +kernel) rfl (Nat.le_of_ble_eq_true rfl) (fun Z C hQ => b_X9_press C hQ  p1 p2 σ h)
abbrev rmX9_rule : Room := { frames := 3, cells := 0, slots := 0, locals := 66 }
theorem nkX9_rule : NmOk yX9_rule 3 := by decide +kernel
theorem rmOk_X9_rule__X9_in : RmOk rmX9_in rmX9_rule 6 := ⟨rfl, rfl, by decide, by decide⟩
theorem rmOk_X9_rule__X9_minutesRefused : RmOk rmX9_minutesRefused rmX9_rule 2 := ⟨rfl, rfl, by decide, by decide⟩
theorem rmOk_X9_rule__X9_remember : RmOk rmX9_remember rmX9_rule 2 := ⟨rfl, rfl, by decide, by decide⟩
theorem rmOk_X9_rule__X9_ruled : RmOk rmX9_ruled rmX9_rule 4 := ⟨rfl, rfl, by decide, by decide⟩
theorem inX9_rule_X9 : ∀ w ∈ u_ws RX9 TX9 47, w ∈ wsX9_rule := fun _ h => List.mem_cons_of_mem _ (List.mem_append_right _ h)
def w_X9_rule_J83 (K52 : Int32 → Int32 → Int32 → Int32 → Int32 → St → Prop) (Post : Int32 → St → Prop) (v1 : Int32) (v2 : Int32) (v3 : Int32) (v6 : Int32) (s0 : Int32) (s1 : Int32) (σ : St) : Prop := ∀ x16 : Int32, x16 = (s1 + s0) → ∀ x17 : Int32, x17 = v6 + (1 : Int32) → K52 v1 v2 v3 x16 x17 σ
def w_X9_rule_B52 (Post : Int32 → St → Prop) (K52 : Int32 → Int32 → Int32 → Int32 → Int32 → St → Prop) (v1 : Int32) (v2 : Int32) (v3 : Int32) (v5 : Int32) (v6 : Int32) (σ : St) : Prop := (v3 ≤ v6 → Post v5 σ) ∧ (¬ v3 ≤ v6 → (¬ (σ 4 5) = 0 → Post v5 σ) ∧ ((σ 4 5) = 0 → w_X9_ruled v1 v2 σ (fun x14 σ13 => (x14 = 0 → w_X9_rule_J83 K52 Post v1 v2 v3 v6 (0 : Int32) v5 σ13) ∧ (¬ x14 = 0 → w_X9_rule_J83 K52 Post v1 v2 v3 v6 (1 : Int32) v5 σ13))))
def w_X9_rule_L52 (Post : Int32 → St → Prop) : Nat → Int32 → Int32 → Int32 → Int32 → Int32 → St → Prop
  | 0 => fun _ _ _ _ _ _ => False
  | n + 1 => w_X9_rule_B52   Post (w_X9_rule_L52   Post n)
def w_X9_rule (p1 : Int32) (p2 : Int32) (p3 : Int32) (σ : St) (Post : Int32 → St → Prop) : Prop := w_X9_in (p1.toInt64) (0 : Int64) (99 : Int64) σ (fun x2 σ1 => (x2 = 0 → Post (-1000000002 : Int32) σ1) ∧ (¬ x2 = 0 → w_X9_in (p2.toInt64) (0 : Int64) (20 : Int64) σ1 (fun x5 σ4 => (¬ x5 = 0 → w_X9_minutesRefused p3 σ4 (fun x8 σ7 => (x8 = 0 → w_X9_remember σ7 (fun σ10 => w_X9_rule_L52 Post FU p1 p2 p3 (0 : Int32) (0 : Int32) σ10)) ∧ (¬ x8 = 0 → Post x8 σ7))) ∧ (x5 = 0 → Post (-1000000002 : Int32) σ4))))
set_option maxHeartbeats 4000000 in
set_option maxRecDepth 100000 in
theorem b_X9_rule_J83 {Y : CY} {Z : CZ} (C : cx SM 7 Y Z cX9_rule RX9 wsX9_rule (some .int) rmX9_rule) {Post : Int32 → St → Prop} (hQ : Qi SM Y Z Post)  {K52 : Int32 → Int32 → Int32 → Int32 → Int32 → St → Prop} (hK52 : ∀ (v1 : Int32) (v2 : Int32) (v3 : Int32) (v5 : Int32) (v6 : Int32) (σ : St), K52 v1 v2 v3 v5 v6 σ → WW SM 7 Y Z σ 52 [(0, .ref (qa Y 0)), (1, .int v1), (2, .int v2), (3, .int v3), (5, .int v5), (6, .int v6)] []) (v1 : Int32) (v2 : Int32) (v3 : Int32) (v6 : Int32) (s0 : Int32) (s1 : Int32) (σ : St) (h : w_X9_rule_J83 K52 Post v1 v2 v3 v6 s0 s1 σ) : WW SM 7 Y Z σ 83 [(0, .ref (qa Y 0)), (1, .int v1), (2, .int v2), (3, .int v3), (6, .int v6)] [.int s0, .int s1] := by
  unfold w_X9_rule_J83 at h
  refine q_iadd C dX9_rule_83 ?_
  refine q_topi (fun x16 ex16 => ?_)
  replace h := h x16 ex16
  refine q_istore C [(5, .int x16), (0, .ref (qa Y 0)), (1, .int v1), (2, .int v2), (3, .int v3), (6, .int v6)] dX9_rule_84 (by decide) rfl ?_
  obtain ⟨x17, ex17⟩ : ∃ y : Int32, y = v6 + (1 : Int32) := ⟨_, rfl⟩
  replace h := h x17 ex17
  refine q_iinc C x17 5 [(6, .int x17), (5, .int x16), (0, .ref (qa Y 0)), (1, .int v1), (2, .int v2), (3, .int v3)] dX9_rule_86 rfl (by rw [ex17]; rfl) (by decide) rfl ?_
  refine q_goto C 52 dX9_rule_89 (by decide) ?_
  refine q_sub (lv' := [(0, .ref (qa Y 0)), (1, .int v1), (2, .int v2), (3, .int v3), (5, .int x16), (6, .int x17)]) [2, 3, 4, 5, 1, 0] rfl ?_
  exact hK52 v1 v2 v3 x16 x17 σ h
set_option maxHeartbeats 4000000 in
set_option maxRecDepth 100000 in
theorem b_X9_rule_B52 {Y : CY} {Z : CZ} (C : cx SM 7 Y Z cX9_rule RX9 wsX9_rule (some .int) rmX9_rule) {Post : Int32 → St → Prop} (hQ : Qi SM Y Z Post)  {K52 : Int32 → Int32 → Int32 → Int32 → Int32 → St → Prop} (hK52 : ∀ (v1 : Int32) (v2 : Int32) (v3 : Int32) (v5 : Int32) (v6 : Int32) (σ : St), K52 v1 v2 v3 v5 v6 σ → WW SM 7 Y Z σ 52 [(0, .ref (qa Y 0)), (1, .int v1), (2, .int v2), (3, .int v3), (5, .int v5), (6, .int v6)] []) (v1 : Int32) (v2 : Int32) (v3 : Int32) (v5 : Int32) (v6 : Int32) (σ : St) (h : w_X9_rule_B52  Post K52 v1 v2 v3 v5 v6 σ) : WW SM 7 Y Z σ 52 [(0, .ref (qa Y 0)), (1, .int v1), (2, .int v2), (3, .int v3), (5, .int v5), (6, .int v6)] [] := by
  unfold w_X9_rule_B52 at h
  refine q_iload C 5 dX9_rule_52 rfl ?_
  refine q_iload_n C 3 dX9_rule_54 rfl ?_
  refine q_icmp_ge C 92 dX9_rule_55 (by decide) (fun c11 => ?_) (fun c11 => ?_)
  · replace h := h.1 c11
    refine q_iload C 4 dX9_rule_92 rfl ?_
    exact q_iret C hQ dX9_rule_94 h
  · replace h := h.2 c11
    refine q_aload_n C 0 dX9_rule_58 rfl ?_
    refine q_getr (T := TX9) C kM0 iM0 inX9_rule_X9 rfl 12 (by decide) (List.mem_of_getElem? (i := 4) rfl) (fun _ h9 => h9) rfl dX9_rule_59 ?_
    refine q_iconst (v := (5 : Int32)) C dX9_rule_62 (by decide) ?_
    refine q_ialdk C 5 (by decide) (by decide) (by decide) kM4 iM4 dX9_rule_63 ?_
    refine q_if_ne C 92 dX9_rule_64 (by decide) (fun c12 => ?_) (fun c12 => ?_)
    · replace h := h.1 c12
      refine q_iload C 4 dX9_rule_92 rfl ?_
      exact q_iret C hQ dX9_rule_94 h
    · replace h := h.2 c12
      refine q_iload C 4 dX9_rule_67 rfl ?_
      refine q_aload_n C 0 dX9_rule_69 rfl ?_
      refine q_iload_n C 1 dX9_rule_70 rfl ?_
      refine q_iload_n C 2 dX9_rule_71 rfl ?_
      refine q_callVi (As := [.int v1, .int v2]) (st := [.int v5]) C (c_X9_ruled Y v1 v2 σ _ h) gX9_rule_X9_ruled rfl ⟨rfl, nkX9_ruled⟩ rmOk_X9_rule__X9_ruled kM0 iM0 rfl rfl (Nat.le_of_ble_eq_true rfl) dX9_rule_72 rfl (fun x14 σ13 h => ?_)
      refine q_if_eq C 82 dX9_rule_75 (by decide) (fun c15 => ?_) (fun c15 => ?_)
      · replace h := h.1 c15
        refine q_iconst (v := (0 : Int32)) C dX9_rule_82 (by decide) ?_
        refine q_sub (lv' := [(0, .ref (qa Y 0)), (1, .int v1), (2, .int v2), (3, .int v3), (6, .int v6)]) [0, 1, 2, 3, 5] rfl ?_
        exact b_X9_rule_J83 C hQ hK52 v1 v2 v3 v6 (0 : Int32) v5 σ13 h
      · replace h := h.2 c15
        refine q_iconst (v := (1 : Int32)) C dX9_rule_78 (by decide) ?_
        refine q_goto C 83 dX9_rule_79 (by decide) ?_
        refine q_sub (lv' := [(0, .ref (qa Y 0)), (1, .int v1), (2, .int v2), (3, .int v3), (6, .int v6)]) [0, 1, 2, 3, 5] rfl ?_
        exact b_X9_rule_J83 C hQ hK52 v1 v2 v3 v6 (1 : Int32) v5 σ13 h
theorem b_X9_rule_L52 {Y : CY} {Z : CZ} (C : cx SM 7 Y Z cX9_rule RX9 wsX9_rule (some .int) rmX9_rule) {Post : Int32 → St → Prop} (hQ : Qi SM Y Z Post)  : ∀ (n : Nat) (v1 : Int32) (v2 : Int32) (v3 : Int32) (v5 : Int32) (v6 : Int32) (σ : St) (h : w_X9_rule_L52  Post n v1 v2 v3 v5 v6 σ), WW SM 7 Y Z σ 52 [(0, .ref (qa Y 0)), (1, .int v1), (2, .int v2), (3, .int v3), (5, .int v5), (6, .int v6)] [] := by
  intro n
  induction n with
  | zero => intro v1 v2 v3 v5 v6 σ h; exact h.elim
  | succ n ih => intro v1 v2 v3 v5 v6 σ h; exact b_X9_rule_B52 C hQ  ih v1 v2 v3 v5 v6 σ h
set_option maxHeartbeats 4000000 in
set_option maxRecDepth 100000 in
theorem b_X9_rule {Y : CY} {Z : CZ} (C : cx SM 7 Y Z cX9_rule RX9 wsX9_rule (some .int) rmX9_rule) {Post : Int32 → St → Prop} (hQ : Qi SM Y Z Post)  (p1 : Int32) (p2 : Int32) (p3 : Int32) (σ : St) (h : w_X9_rule p1 p2 p3 σ Post) : WW SM 7 Y Z σ 0 [(0, .ref (qa Y 0)), (1, .int p1), (2, .int p2), (3, .int p3)] [] := by
  unfold w_X9_rule at h
  refine q_iload_n C 1 dX9_rule_0 rfl ?_
  refine q_i2l C dX9_rule_1 ?_
  refine q_lconst (v := (0 : Int64)) C dX9_rule_2 (by decide) ?_
  refine q_ldc2 (v := (99 : Int64)) C (List.mem_of_getElem? (i := 1) rfl) dX9_rule_3 ?_
  refine q_callSi (As := [.long p1.toInt64, .long (0 : Int64), .long (99 : Int64)]) (st := []) C (c_X9_in Y (p1.toInt64) (0 : Int64) (99 : Int64) σ _ h) gX9_rule_X9_in rfl nkX9_in rmOk_X9_rule__X9_in rfl (Nat.le_of_ble_eq_true rfl) dX9_rule_6 rfl (fun x2 σ1 h => ?_)
  refine q_if_eq C 24 dX9_rule_9 (by decide) (fun c3 => ?_) (fun c3 => ?_)
  · replace h := h.1 c3
    refine q_ldc (v := (-1000000002 : Int32)) C (List.mem_of_getElem? (i := 3) rfl) dX9_rule_24 ?_
    exact q_iret C hQ dX9_rule_26 h
  · replace h := h.2 c3
    refine q_iload_n C 2 dX9_rule_12 rfl ?_
    refine q_i2l C dX9_rule_13 ?_
    refine q_lconst (v := (0 : Int64)) C dX9_rule_14 (by decide) ?_
    refine q_ldc2 (v := (20 : Int64)) C (List.mem_of_getElem? (i := 2) rfl) dX9_rule_15 ?_
    refine q_callSi (As := [.long p2.toInt64, .long (0 : Int64), .long (20 : Int64)]) (st := []) C (c_X9_in Y (p2.toInt64) (0 : Int64) (20 : Int64) σ1 _ h) gX9_rule_X9_in rfl nkX9_in rmOk_X9_rule__X9_in rfl (Nat.le_of_ble_eq_true rfl) dX9_rule_18 rfl (fun x5 σ4 h => ?_)
    refine q_if_ne C 27 dX9_rule_21 (by decide) (fun c6 => ?_) (fun c6 => ?_)
    · replace h := h.1 c6
      refine q_aload_n C 0 dX9_rule_27 rfl ?_
      refine q_iload_n C 3 dX9_rule_28 rfl ?_
      refine q_callVi (As := [.int p3]) (st := []) C (c_X9_minutesRefused Y p3 σ4 _ h) gX9_rule_X9_minutesRefused rfl ⟨rfl, nkX9_minutesRefused⟩ rmOk_X9_rule__X9_minutesRefused kM0 iM0 rfl rfl (Nat.le_of_ble_eq_true rfl) dX9_rule_29 rfl (fun x8 σ7 h => ?_)
      refine q_istore C [(4, .int x8), (0, .ref (qa Y 0)), (1, .int p1), (2, .int p2), (3, .int p3)] dX9_rule_32 (by decide) rfl ?_
      refine q_iload C 0 dX9_rule_34 rfl ?_
      refine q_if_eq C 42 dX9_rule_36 (by decide) (fun c9 => ?_) (fun c9 => ?_)
      · replace h := h.1 c9
        refine q_aload_n C 1 dX9_rule_42 rfl ?_
        refine q_callVv (As := []) (st := []) C (c_X9_remember Y σ7 _ h) gX9_rule_X9_remember rfl ⟨rfl, nkX9_remember⟩ rmOk_X9_rule__X9_remember kM0 iM0 rfl rfl (Nat.le_of_ble_eq_true rfl) dX9_rule_43 rfl (fun σ10 h => ?_)
        refine q_iconst (v := (0 : Int32)) C dX9_rule_46 (by decide) ?_
        refine q_istore C [(5, .int (0 : Int32)), (4, .int x8), (0, .ref (qa Y 0)), (1, .int p1), (2, .int p2), (3, .int p3)] dX9_rule_47 (by decide) rfl ?_
        refine q_iconst (v := (0 : Int32)) C dX9_rule_49 (by decide) ?_
        refine q_istore C [(6, .int (0 : Int32)), (5, .int (0 : Int32)), (4, .int x8), (0, .ref (qa Y 0)), (1, .int p1), (2, .int p2), (3, .int p3)] dX9_rule_50 (by decide) rfl ?_
        refine q_sub (lv' := [(0, .ref (qa Y 0)), (1, .int p1), (2, .int p2), (3, .int p3), (5, .int (0 : Int32)), (6, .int (0 : Int32))]) [3, 4, 5, 6, 1, 0] rfl ?_
        exact b_X9_rule_L52 C hQ FU p1 p2 p3 (0 : Int32) (0 : Int32) σ10 h
      · replace h := h.2 c9
        refine q_iload C 0 dX9_rule_39 rfl ?_
        exact q_iret C hQ dX9_rule_41 h
    · replace h := h.2 c6
      refine q_ldc (v := (-1000000002 : Int32)) C (List.mem_of_getElem? (i := 3) rfl) dX9_rule_24 ?_
      exact q_iret C hQ dX9_rule_26 h
theorem c_X9_rule (Y : CY)  (p1 : Int32) (p2 : Int32) (p3 : Int32) (σ : St) (Post : Int32 → St → Prop) (h : w_X9_rule p1 p2 p3 σ Post) : Ki SM Y yX9_rule wsX9_rule rmX9_rule [.ref (qa Y 0), .int p1, .int p2, .int p3] σ Post :=
  Ki_of (cc := cX9_rule) (nL := 7) (ret := (some .int)) (by decide +kernel) rfl (Nat.le_of_ble_eq_true rfl) (fun Z C hQ => b_X9_rule C hQ  p1 p2 p3 σ h)
abbrev rmX9_see : Room := { frames := 1, cells := 0, slots := 0, locals := 25 }
theorem nkX9_see : NmOk yX9_see 2 := by decide +kernel
theorem rmOk_X9_see__X9_in : RmOk rmX9_in rmX9_see 6 := ⟨rfl, rfl, by decide, by decide⟩
theorem inX9_see_X9 : ∀ w ∈ u_ws RX9 TX9 47, w ∈ wsX9_see := fun _ h => List.mem_cons_of_mem _ (List.mem_append_right _ h)
def w_X9_see (p1 : Int32) (p2 : Int32) (σ : St) (Post : Int32 → St → Prop) : Prop := w_X9_in (p1.toInt64) (0 : Int64) (999 : Int64) σ (fun x2 σ1 => (x2 = 0 → Post (-1000000002 : Int32) σ1) ∧ (¬ x2 = 0 → w_X9_in (p2.toInt64) (-150 : Int64) (150 : Int64) σ1 (fun x5 σ4 => (¬ x5 = 0 → (¬ (σ4 0 35) = (10 : Int32) → (vp_in (σ4 0 35) 10) ∧ (∀ σ8 : St, σ8 = up σ4 14 (σ4 0 35).toNatClampNeg p1 → (vp_in (σ8 0 35) 10) ∧ (∀ σ9 : St, σ9 = up σ8 15 (σ8 0 35).toNatClampNeg p2 → ∀ σ10 : St, σ10 = up σ9 0 35 (((σ9 0 35) + (1 : Int32))) → Post ((σ10 0 35)) σ10))) ∧ ((σ4 0 35) = (10 : Int32) → Post (-1000000004 : Int32) σ4)) ∧ (x5 = 0 → Post (-1000000002 : Int32) σ4))))
set_option maxHeartbeats 4000000 in
set_option maxRecDepth 100000 in
theorem b_X9_see {Y : CY} {Z : CZ} (C : cx SM 3 Y Z cX9_see RX9 wsX9_see (some .int) rmX9_see) {Post : Int32 → St → Prop} (hQ : Qi SM Y Z Post)  (p1 : Int32) (p2 : Int32) (σ : St) (h : w_X9_see p1 p2 σ Post) : WW SM 3 Y Z σ 0 [(0, .ref (qa Y 0)), (1, .int p1), (2, .int p2)] [] := by
  unfold w_X9_see at h
  refine q_iload_n C 1 dX9_see_0 rfl ?_
  refine q_i2l C dX9_see_1 ?_
  refine q_lconst (v := (0 : Int64)) C dX9_see_2 (by decide) ?_
  refine q_ldc2 (v := (999 : Int64)) C (List.mem_of_getElem? (i := 1) rfl) dX9_see_3 ?_
  refine q_callSi (As := [.long p1.toInt64, .long (0 : Int64), .long (999 : Int64)]) (st := []) C (c_X9_in Y (p1.toInt64) (0 : Int64) (999 : Int64) σ _ h) gX9_see_X9_in rfl nkX9_in rmOk_X9_see__X9_in rfl (Nat.le_of_ble_eq_true rfl) dX9_see_6 rfl (fun x2 σ1 h => ?_)
  refine q_if_eq C 26 dX9_see_9 (by decide) (fun c3 => ?_) (fun c3 => ?_)
  · replace h := h.1 c3
    refine q_ldc (v := (-1000000002 : Int32)) C (List.mem_of_getElem? (i := 4) rfl) dX9_see_26 ?_
    exact q_iret C hQ dX9_see_28 h
  · replace h := h.2 c3
    refine q_iload_n C 2 dX9_see_12 rfl ?_
    refine q_i2l C dX9_see_13 ?_
    refine q_ldc2 (v := (-150 : Int64)) C (List.mem_of_getElem? (i := 2) rfl) dX9_see_14 ?_
    refine q_ldc2 (v := (150 : Int64)) C (List.mem_of_getElem? (i := 3) rfl) dX9_see_17 ?_
    refine q_callSi (As := [.long p2.toInt64, .long (-150 : Int64), .long (150 : Int64)]) (st := []) C (c_X9_in Y (p2.toInt64) (-150 : Int64) (150 : Int64) σ1 _ h) gX9_see_X9_in rfl nkX9_in rmOk_X9_see__X9_in rfl (Nat.le_of_ble_eq_true rfl) dX9_see_20 rfl (fun x5 σ4 h => ?_)
    refine q_if_ne C 29 dX9_see_23 (by decide) (fun c6 => ?_) (fun c6 => ?_)
    · replace h := h.1 c6
      refine q_aload_n C 0 dX9_see_29 rfl ?_
      refine q_geti (T := TX9) C kM0 iM0 inX9_see_X9 rfl 35 (by decide) (List.mem_of_getElem? (i := 5) rfl) (fun _ h9 => h9) rfl dX9_see_30 ?_
      refine q_bipush (v := (10 : Int32)) C dX9_see_33 (by decide) ?_
      refine q_icmp_ne C 41 dX9_see_35 (by decide) (fun c7 => ?_) (fun c7 => ?_)
      · replace h := h.1 c7
        refine q_aload_n C 0 dX9_see_41 rfl ?_
        refine q_getr (T := TX9) C kM0 iM0 inX9_see_X9 rfl 36 (by decide) (List.mem_of_getElem? (i := 7) rfl) (fun _ h9 => h9) rfl dX9_see_42 ?_
        refine q_aload_n C 0 dX9_see_45 rfl ?_
        refine q_geti (T := TX9) C kM0 iM0 inX9_see_X9 rfl 35 (by decide) (List.mem_of_getElem? (i := 5) rfl) (fun _ h9 => h9) rfl dX9_see_46 ?_
        refine q_iload_n C 1 dX9_see_49 rfl ?_
        obtain ⟨g12, h⟩ := h
        refine q_iast C kM14 iM14 g12 dX9_see_50 ?_
        refine q_nmS (fun σ8 eσ8 => ?_)
        replace h := h σ8 eσ8
        refine q_aload_n C 0 dX9_see_51 rfl ?_
        refine q_getr (T := TX9) C kM0 iM0 inX9_see_X9 rfl 37 (by decide) (List.mem_of_getElem? (i := 8) rfl) (fun _ h9 => h9) rfl dX9_see_52 ?_
        refine q_aload_n C 0 dX9_see_55 rfl ?_
        refine q_geti (T := TX9) C kM0 iM0 inX9_see_X9 rfl 35 (by decide) (List.mem_of_getElem? (i := 5) rfl) (fun _ h9 => h9) rfl dX9_see_56 ?_
        refine q_iload_n C 2 dX9_see_59 rfl ?_
        obtain ⟨g11, h⟩ := h
        refine q_iast C kM15 iM15 g11 dX9_see_60 ?_
        refine q_nmS (fun σ9 eσ9 => ?_)
        replace h := h σ9 eσ9
        refine q_aload_n C 0 dX9_see_61 rfl ?_
        refine q_dup C dX9_see_62 rfl ?_
        refine q_geti (T := TX9) C kM0 iM0 inX9_see_X9 rfl 35 (by decide) (List.mem_of_getElem? (i := 5) rfl) (fun _ h9 => h9) rfl dX9_see_63 ?_
        refine q_iconst (v := (1 : Int32)) C dX9_see_66 (by decide) ?_
        refine q_iadd C dX9_see_67 ?_
        refine q_puti (T := TX9) C kM0 iM0 inX9_see_X9 rfl tyX9 tyX9_ok nmX9 35 (by decide) (List.mem_of_getElem? (i := 5) rfl) (fun _ h9 => h9) rfl dgM0 rfl (ni_n _) (ni_f _) dX9_see_68 ?_
        refine q_nmS (fun σ10 eσ10 => ?_)
        replace h := h σ10 eσ10
        refine q_aload_n C 0 dX9_see_71 rfl ?_
        refine q_geti (T := TX9) C kM0 iM0 inX9_see_X9 rfl 35 (by decide) (List.mem_of_getElem? (i := 5) rfl) (fun _ h9 => h9) rfl dX9_see_72 ?_
        exact q_iret C hQ dX9_see_75 h
      · replace h := h.2 c7
        refine q_ldc (v := (-1000000004 : Int32)) C (List.mem_of_getElem? (i := 6) rfl) dX9_see_38 ?_
        exact q_iret C hQ dX9_see_40 h
    · replace h := h.2 c6
      refine q_ldc (v := (-1000000002 : Int32)) C (List.mem_of_getElem? (i := 4) rfl) dX9_see_26 ?_
      exact q_iret C hQ dX9_see_28 h
theorem c_X9_see (Y : CY)  (p1 : Int32) (p2 : Int32) (σ : St) (Post : Int32 → St → Prop) (h : w_X9_see p1 p2 σ Post) : Ki SM Y yX9_see wsX9_see rmX9_see [.ref (qa Y 0), .int p1, .int p2] σ Post :=
  Ki_of (cc := cX9_see) (nL := 3) (ret := (some .int)) (by decide +kernel) rfl (Nat.le_of_ble_eq_true rfl) (fun Z C hQ => b_X9_see C hQ  p1 p2 σ h)
abbrev rmX9_seed : Room := { frames := 0, cells := 0, slots := 0, locals := 0 }
theorem nkX9_seed : NmOk yX9_seed 1 := by decide +kernel
theorem inX9_seed_X9 : ∀ w ∈ u_ws RX9 TX9 47, w ∈ wsX9_seed := fun _ h => List.mem_cons_of_mem _ (List.mem_append_right _ h)
def w_X9_seed (p1 : Int32) (σ : St) (Post : Int32 → St → Prop) : Prop := (0 ≤ p1 → ∀ x2 : Int32, x2 = (σ 0 13) → ∀ σ3 : St, σ3 = up σ 0 13 p1 → Post x2 σ3) ∧ (¬ 0 ≤ p1 → Post (-1000000002 : Int32) σ)
set_option maxHeartbeats 4000000 in
set_option maxRecDepth 100000 in
theorem b_X9_seed {Y : CY} {Z : CZ} (C : cx SM 3 Y Z cX9_seed RX9 wsX9_seed (some .int) rmX9_seed) {Post : Int32 → St → Prop} (hQ : Qi SM Y Z Post)  (p1 : Int32) (σ : St) (h : w_X9_seed p1 σ Post) : WW SM 3 Y Z σ 0 [(0, .ref (qa Y 0)), (1, .int p1)] [] := by
  unfold w_X9_seed at h
  refine q_iload_n C 1 dX9_seed_0 rfl ?_
  refine q_if_ge C 7 dX9_seed_1 (by decide) (fun c1 => ?_) (fun c1 => ?_)
  · replace h := h.1 c1
    refine q_aload_n C 0 dX9_seed_7 rfl ?_
    refine q_geti (T := TX9) C kM0 iM0 inX9_seed_X9 rfl 13 (by decide) (List.mem_of_getElem? (i := 2) rfl) (fun _ h9 => h9) rfl dX9_seed_8 ?_
    refine q_topi (fun x2 ex2 => ?_)
    replace h := h x2 ex2
    refine q_istore_n C [(2, .int x2), (0, .ref (qa Y 0)), (1, .int p1)] dX9_seed_11 (by decide) rfl ?_
    refine q_aload_n C 1 dX9_seed_12 rfl ?_
    refine q_iload_n C 2 dX9_seed_13 rfl ?_
    refine q_puti (T := TX9) C kM0 iM0 inX9_seed_X9 rfl tyX9 tyX9_ok nmX9 13 (by decide) (List.mem_of_getElem? (i := 2) rfl) (fun _ h9 => h9) rfl dgM0 rfl (ni_n _) (ni_f _) dX9_seed_14 ?_
    refine q_nmS (fun σ3 eσ3 => ?_)
    replace h := h σ3 eσ3
    refine q_iload_n C 0 dX9_seed_17 rfl ?_
    exact q_iret C hQ dX9_seed_18 h
  · replace h := h.2 c1
    refine q_ldc (v := (-1000000002 : Int32)) C (List.mem_of_getElem? (i := 1) rfl) dX9_seed_4 ?_
    exact q_iret C hQ dX9_seed_6 h
theorem c_X9_seed (Y : CY)  (p1 : Int32) (σ : St) (Post : Int32 → St → Prop) (h : w_X9_seed p1 σ Post) : Ki SM Y yX9_seed wsX9_seed rmX9_seed [.ref (qa Y 0), .int p1] σ Post :=
  Ki_of (cc := cX9_seed) (nL := 3) (ret := (some .int)) (by decide +kernel) rfl (Nat.le_of_ble_eq_true rfl) (fun Z C hQ => b_X9_seed C hQ  p1 σ h)
abbrev rmX9_shut : Room := { frames := 1, cells := 0, slots := 0, locals := 21 }
theorem nkX9_shut : NmOk yX9_shut 1 := by decide +kernel
theorem rmOk_X9_shut__X9_remember : RmOk rmX9_remember rmX9_shut 2 := ⟨rfl, rfl, by decide, by decide⟩
theorem inX9_shut_X9 : ∀ w ∈ u_ws RX9 TX9 47, w ∈ wsX9_shut := fun _ h => List.mem_cons_of_mem _ (List.mem_append_right _ h)
def w_X9_shut_J37 (Post : Int32 → St → Prop) (v2 : Int32) (s0 : Int32) (s1 : Int32) (σ : St) : Prop := (vp_in s1 12) ∧ (∀ σ5 : St, σ5 = up σ 4 s1.toNatClampNeg s0 → Post v2 σ5)
def w_X9_shut (p1 : Int32) (σ : St) (Post : Int32 → St → Prop) : Prop := (¬ (σ 0 0) = 0 → w_X9_remember σ (fun σ2 => ∀ x3 : Int32, x3 = (σ2 4 6) → (p1 = 0 → w_X9_shut_J37 Post x3 (0 : Int32) (6 : Int32) σ2) ∧ (¬ p1 = 0 → w_X9_shut_J37 Post x3 (1 : Int32) (6 : Int32) σ2))) ∧ ((σ 0 0) = 0 → Post (-1000000003 : Int32) σ)
set_option maxHeartbeats 4000000 in
set_option maxRecDepth 100000 in
theorem b_X9_shut_J37 {Y : CY} {Z : CZ} (C : cx SM 3 Y Z cX9_shut RX9 wsX9_shut (some .int) rmX9_shut) {Post : Int32 → St → Prop} (hQ : Qi SM Y Z Post)  (v2 : Int32) (s0 : Int32) (s1 : Int32) (σ : St) (h : w_X9_shut_J37  Post v2 s0 s1 σ) : WW SM 3 Y Z σ 37 [(2, .int v2)] [.int s0, .int s1, .ref (qa Y 4)] := by
  unfold w_X9_shut_J37 at h
  obtain ⟨g6, h⟩ := h
  refine q_iast C kM4 iM4 g6 dX9_shut_37 ?_
  refine q_nmS (fun σ5 eσ5 => ?_)
  replace h := h σ5 eσ5
  refine q_iload_n C 0 dX9_shut_38 rfl ?_
  exact q_iret C hQ dX9_shut_39 h
set_option maxHeartbeats 4000000 in
set_option maxRecDepth 100000 in
theorem b_X9_shut {Y : CY} {Z : CZ} (C : cx SM 3 Y Z cX9_shut RX9 wsX9_shut (some .int) rmX9_shut) {Post : Int32 → St → Prop} (hQ : Qi SM Y Z Post)  (p1 : Int32) (σ : St) (h : w_X9_shut p1 σ Post) : WW SM 3 Y Z σ 0 [(0, .ref (qa Y 0)), (1, .int p1)] [] := by
  unfold w_X9_shut at h
  refine q_aload_n C 0 dX9_shut_0 rfl ?_
  refine q_geti (T := TX9) C kM0 iM0 inX9_shut_X9 rfl 0 (by decide) (List.mem_of_getElem? (i := 1) rfl) (fun _ h9 => h9) rfl dX9_shut_1 ?_
  refine q_if_ne C 10 dX9_shut_4 (by decide) (fun c1 => ?_) (fun c1 => ?_)
  · replace h := h.1 c1
    refine q_aload_n C 0 dX9_shut_10 rfl ?_
    refine q_callVv (As := []) (st := []) C (c_X9_remember Y σ _ h) gX9_shut_X9_remember rfl ⟨rfl, nkX9_remember⟩ rmOk_X9_shut__X9_remember kM0 iM0 rfl rfl (Nat.le_of_ble_eq_true rfl) dX9_shut_11 rfl (fun σ2 h => ?_)
    refine q_aload_n C 0 dX9_shut_14 rfl ?_
    refine q_getr (T := TX9) C kM0 iM0 inX9_shut_X9 rfl 12 (by decide) (List.mem_of_getElem? (i := 3) rfl) (fun _ h9 => h9) rfl dX9_shut_15 ?_
    refine q_bipush (v := (6 : Int32)) C dX9_shut_18 (by decide) ?_
    refine q_ialdk C 6 (by decide) (by decide) (by decide) kM4 iM4 dX9_shut_20 ?_
    refine q_topi (fun x3 ex3 => ?_)
    replace h := h x3 ex3
    refine q_istore_n C [(2, .int x3), (0, .ref (qa Y 0)), (1, .int p1)] dX9_shut_21 (by decide) rfl ?_
    refine q_aload_n C 1 dX9_shut_22 rfl ?_
    refine q_getr (T := TX9) C kM0 iM0 inX9_shut_X9 rfl 12 (by decide) (List.mem_of_getElem? (i := 3) rfl) (fun _ h9 => h9) rfl dX9_shut_23 ?_
    refine q_bipush (v := (6 : Int32)) C dX9_shut_26 (by decide) ?_
    refine q_iload_n C 2 dX9_shut_28 rfl ?_
    refine q_if_eq C 36 dX9_shut_29 (by decide) (fun c4 => ?_) (fun c4 => ?_)
    · replace h := h.1 c4
      refine q_iconst (v := (0 : Int32)) C dX9_shut_36 (by decide) ?_
      refine q_sub (lv' := [(2, .int x3)]) [0] rfl ?_
      exact b_X9_shut_J37 C hQ x3 (0 : Int32) (6 : Int32) σ2 h
    · replace h := h.2 c4
      refine q_iconst (v := (1 : Int32)) C dX9_shut_32 (by decide) ?_
      refine q_goto C 37 dX9_shut_33 (by decide) ?_
      refine q_sub (lv' := [(2, .int x3)]) [0] rfl ?_
      exact b_X9_shut_J37 C hQ x3 (1 : Int32) (6 : Int32) σ2 h
  · replace h := h.2 c1
    refine q_ldc (v := (-1000000003 : Int32)) C (List.mem_of_getElem? (i := 2) rfl) dX9_shut_7 ?_
    exact q_iret C hQ dX9_shut_9 h
theorem c_X9_shut (Y : CY)  (p1 : Int32) (σ : St) (Post : Int32 → St → Prop) (h : w_X9_shut p1 σ Post) : Ki SM Y yX9_shut wsX9_shut rmX9_shut [.ref (qa Y 0), .int p1] σ Post :=
  Ki_of (cc := cX9_shut) (nL := 3) (ret := (some .int)) (by decide +kernel) rfl (Nat.le_of_ble_eq_true rfl) (fun Z C hQ => b_X9_shut C hQ  p1 σ h)
abbrev rmX9_star : Room := { frames := 1, cells := 0, slots := 0, locals := 25 }
theorem nkX9_star : NmOk yX9_star 2 := by decide +kernel
theorem rmOk_X9_star__X9_in : RmOk rmX9_in rmX9_star 6 := ⟨rfl, rfl, by decide, by decide⟩
theorem inX9_star_X9 : ∀ w ∈ u_ws RX9 TX9 47, w ∈ wsX9_star := fun _ h => List.mem_cons_of_mem _ (List.mem_append_right _ h)
def w_X9_star (p1 : Int32) (p2 : Int32) (σ : St) (Post : Int32 → St → Prop) : Prop := w_X9_in (p1.toInt64) (0 : Int64) (((σ 0 9) - (1 : Int32)).toInt64) σ (fun x2 σ1 => (¬ x2 = 0 → (¬ p2 = 0 → (¬ p2 = (1 : Int32) → Post (-1000000002 : Int32) σ1) ∧ (p2 = (1 : Int32) → (vp_in p1 6) ∧ (Post ((σ1 3 p1.toNatClampNeg)) σ1))) ∧ (p2 = 0 → (vp_in p1 6) ∧ (Post ((σ1 2 p1.toNatClampNeg)) σ1))) ∧ (x2 = 0 → Post (-1000000001 : Int32) σ1))
set_option maxHeartbeats 4000000 in
set_option maxRecDepth 100000 in
theorem b_X9_star {Y : CY} {Z : CZ} (C : cx SM 3 Y Z cX9_star RX9 wsX9_star (some .int) rmX9_star) {Post : Int32 → St → Prop} (hQ : Qi SM Y Z Post)  (p1 : Int32) (p2 : Int32) (σ : St) (h : w_X9_star p1 p2 σ Post) : WW SM 3 Y Z σ 0 [(0, .ref (qa Y 0)), (1, .int p1), (2, .int p2)] [] := by
  unfold w_X9_star at h
  refine q_iload_n C 1 dX9_star_0 rfl ?_
  refine q_i2l C dX9_star_1 ?_
  refine q_lconst (v := (0 : Int64)) C dX9_star_2 (by decide) ?_
  refine q_aload_n C 0 dX9_star_3 rfl ?_
  refine q_geti (T := TX9) C kM0 iM0 inX9_star_X9 rfl 9 (by decide) (List.mem_of_getElem? (i := 1) rfl) (fun _ h9 => h9) rfl dX9_star_4 ?_
  refine q_iconst (v := (1 : Int32)) C dX9_star_7 (by decide) ?_
  refine q_isub C dX9_star_8 ?_
  refine q_i2l C dX9_star_9 ?_
  refine q_callSi (As := [.long p1.toInt64, .long (0 : Int64), .long ((σ 0 9) - (1 : Int32)).toInt64]) (st := []) C (c_X9_in Y (p1.toInt64) (0 : Int64) (((σ 0 9) - (1 : Int32)).toInt64) σ _ h) gX9_star_X9_in rfl nkX9_in rmOk_X9_star__X9_in rfl (Nat.le_of_ble_eq_true rfl) dX9_star_10 rfl (fun x2 σ1 h => ?_)
  refine q_if_ne C 19 dX9_star_13 (by decide) (fun c3 => ?_) (fun c3 => ?_)
  · replace h := h.1 c3
    refine q_iload_n C 2 dX9_star_19 rfl ?_
    refine q_if_ne C 32 dX9_star_20 (by decide) (fun c4 => ?_) (fun c4 => ?_)
    · replace h := h.1 c4
      refine q_iload_n C 2 dX9_star_32 rfl ?_
      refine q_iconst (v := (1 : Int32)) C dX9_star_33 (by decide) ?_
      refine q_icmp_ne C 46 dX9_star_34 (by decide) (fun c5 => ?_) (fun c5 => ?_)
      · replace h := h.1 c5
        refine q_ldc (v := (-1000000002 : Int32)) C (List.mem_of_getElem? (i := 5) rfl) dX9_star_46 ?_
        exact q_iret C hQ dX9_star_48 h
      · replace h := h.2 c5
        refine q_aload_n C 0 dX9_star_37 rfl ?_
        refine q_getr (T := TX9) C kM0 iM0 inX9_star_X9 rfl 11 (by decide) (List.mem_of_getElem? (i := 4) rfl) (fun _ h9 => h9) rfl dX9_star_38 ?_
        refine q_iload_n C 1 dX9_star_41 rfl ?_
        obtain ⟨g6, h⟩ := h
        refine q_iald C kM3 iM3 g6 dX9_star_42 ?_
        refine q_goto C 48 dX9_star_43 (by decide) ?_
        exact q_iret C hQ dX9_star_48 h
    · replace h := h.2 c4
      refine q_aload_n C 0 dX9_star_23 rfl ?_
      refine q_getr (T := TX9) C kM0 iM0 inX9_star_X9 rfl 10 (by decide) (List.mem_of_getElem? (i := 3) rfl) (fun _ h9 => h9) rfl dX9_star_24 ?_
      refine q_iload_n C 1 dX9_star_27 rfl ?_
      obtain ⟨g7, h⟩ := h
      refine q_iald C kM2 iM2 g7 dX9_star_28 ?_
      refine q_goto C 48 dX9_star_29 (by decide) ?_
      exact q_iret C hQ dX9_star_48 h
  · replace h := h.2 c3
    refine q_ldc (v := (-1000000001 : Int32)) C (List.mem_of_getElem? (i := 2) rfl) dX9_star_16 ?_
    exact q_iret C hQ dX9_star_18 h
theorem c_X9_star (Y : CY)  (p1 : Int32) (p2 : Int32) (σ : St) (Post : Int32 → St → Prop) (h : w_X9_star p1 p2 σ Post) : Ki SM Y yX9_star wsX9_star rmX9_star [.ref (qa Y 0), .int p1, .int p2] σ Post :=
  Ki_of (cc := cX9_star) (nL := 3) (ret := (some .int)) (by decide +kernel) rfl (Nat.le_of_ble_eq_true rfl) (fun Z C hQ => b_X9_star C hQ  p1 p2 σ h)
abbrev rmX9_stop : Room := { frames := 2, cells := 0, slots := 0, locals := 42 }
theorem nkX9_stop : NmOk yX9_stop 1 := by decide +kernel
theorem rmOk_X9_stop__X9_in : RmOk rmX9_in rmX9_stop 6 := ⟨rfl, rfl, by decide, by decide⟩
theorem rmOk_X9_stop__X9_isReady : RmOk rmX9_isReady rmX9_stop 1 := ⟨rfl, rfl, by decide, by decide⟩
theorem rmOk_X9_stop__X9_pass : RmOk rmX9_pass rmX9_stop 2 := ⟨rfl, rfl, by decide, by decide⟩
theorem rmOk_X9_stop__X9_putBack : RmOk rmX9_putBack rmX9_stop 2 := ⟨rfl, rfl, by decide, by decide⟩
theorem rmOk_X9_stop__X9_save : RmOk rmX9_save rmX9_stop 2 := ⟨rfl, rfl, by decide, by decide⟩
theorem inX9_stop_X9 : ∀ w ∈ u_ws RX9 TX9 47, w ∈ wsX9_stop := fun _ h => List.mem_cons_of_mem _ (List.mem_append_right _ h)
def w_X9_stop_J84 (Post : Int32 → St → Prop) (v2 : Int32) (s0 : Int32) (σ : St) : Prop := w_X9_putBack σ (fun σ14 => (s0 = 0 → Post v2 σ14) ∧ (¬ s0 = 0 → Post (-1 : Int32) σ14))
def w_X9_stop_J69 (Post : Int32 → St → Prop) (v2 : Int32) (σ : St) : Prop := (¬ (σ 4 5) = (1 : Int32) → w_X9_stop_J84 Post v2 (0 : Int32) σ) ∧ ((σ 4 5) = (1 : Int32) → w_X9_stop_J84 Post v2 (1 : Int32) σ)
def w_X9_stop_B39 (Post : Int32 → St → Prop) (K39 : Int32 → Int32 → St → Prop) (v1 : Int32) (v2 : Int32) (σ : St) : Prop := (v1 ≤ (σ 4 7) → w_X9_stop_J69 Post v2 σ) ∧ (¬ v1 ≤ (σ 4 7) → (¬ (σ 4 5) = 0 → w_X9_stop_J69 Post v2 σ) ∧ ((σ 4 5) = 0 → w_X9_pass σ (fun σ11 => ∀ x12 : Int32, x12 = v2 + (1 : Int32) → K39 v1 x12 σ11)))
def w_X9_stop_L39 (Post : Int32 → St → Prop) : Nat → Int32 → Int32 → St → Prop
  | 0 => fun _ _ _ => False
  | n + 1 => w_X9_stop_B39   Post (w_X9_stop_L39   Post n)
def w_X9_stop (p1 : Int32) (σ : St) (Post : Int32 → St → Prop) : Prop := w_X9_in (p1.toInt64) (0 : Int64) (999 : Int64) σ (fun x2 σ1 => (¬ x2 = 0 → w_X9_isReady σ1 (fun x5 σ4 => (¬ x5 = 0 → w_X9_save σ4 (fun σ7 => ∀ σ8 : St, σ8 = up σ7 4 6 (0 : Int32) → w_X9_stop_L39 Post FU p1 (0 : Int32) σ8)) ∧ (x5 = 0 → Post (-1000000003 : Int32) σ4))) ∧ (x2 = 0 → Post (-1000000002 : Int32) σ1))
set_option maxHeartbeats 4000000 in
set_option maxRecDepth 100000 in
theorem b_X9_stop_J84 {Y : CY} {Z : CZ} (C : cx SM 4 Y Z cX9_stop RX9 wsX9_stop (some .int) rmX9_stop) {Post : Int32 → St → Prop} (hQ : Qi SM Y Z Post)  (v2 : Int32) (s0 : Int32) (σ : St) (h : w_X9_stop_J84  Post v2 s0 σ) : WW SM 4 Y Z σ 84 [(0, .ref (qa Y 0)), (2, .int v2)] [.int s0] := by
  unfold w_X9_stop_J84 at h
  refine q_istore_n C [(3, .int s0), (0, .ref (qa Y 0)), (2, .int v2)] dX9_stop_84 (by decide) rfl ?_
  refine q_aload_n C 1 dX9_stop_85 rfl ?_
  refine q_callVv (As := []) (st := []) C (c_X9_putBack Y σ _ h) gX9_stop_X9_putBack rfl ⟨rfl, nkX9_putBack⟩ rmOk_X9_stop__X9_putBack kM0 iM0 rfl rfl (Nat.le_of_ble_eq_true rfl) dX9_stop_86 rfl (fun σ14 h => ?_)
  refine q_iload_n C 0 dX9_stop_89 rfl ?_
  refine q_if_eq C 97 dX9_stop_90 (by decide) (fun c15 => ?_) (fun c15 => ?_)
  · replace h := h.1 c15
    refine q_iload_n C 2 dX9_stop_97 rfl ?_
    exact q_iret C hQ dX9_stop_98 h
  · replace h := h.2 c15
    refine q_iconst (v := (-1 : Int32)) C dX9_stop_93 (by decide) ?_
    refine q_goto C 98 dX9_stop_94 (by decide) ?_
    exact q_iret C hQ dX9_stop_98 h
set_option maxHeartbeats 4000000 in
set_option maxRecDepth 100000 in
theorem b_X9_stop_J69 {Y : CY} {Z : CZ} (C : cx SM 4 Y Z cX9_stop RX9 wsX9_stop (some .int) rmX9_stop) {Post : Int32 → St → Prop} (hQ : Qi SM Y Z Post)  (v2 : Int32) (σ : St) (h : w_X9_stop_J69  Post v2 σ) : WW SM 4 Y Z σ 69 [(0, .ref (qa Y 0)), (2, .int v2)] [] := by
  unfold w_X9_stop_J69 at h
  refine q_aload_n C 0 dX9_stop_69 rfl ?_
  refine q_getr (T := TX9) C kM0 iM0 inX9_stop_X9 rfl 12 (by decide) (List.mem_of_getElem? (i := 4) rfl) (fun _ h9 => h9) rfl dX9_stop_70 ?_
  refine q_iconst (v := (5 : Int32)) C dX9_stop_73 (by decide) ?_
  refine q_ialdk C 5 (by decide) (by decide) (by decide) kM4 iM4 dX9_stop_74 ?_
  refine q_iconst (v := (1 : Int32)) C dX9_stop_75 (by decide) ?_
  refine q_icmp_ne C 83 dX9_stop_76 (by decide) (fun c13 => ?_) (fun c13 => ?_)
  · replace h := h.1 c13
    refine q_iconst (v := (0 : Int32)) C dX9_stop_83 (by decide) ?_
    exact b_X9_stop_J84 C hQ v2 (0 : Int32) σ h
  · replace h := h.2 c13
    refine q_iconst (v := (1 : Int32)) C dX9_stop_79 (by decide) ?_
    refine q_goto C 84 dX9_stop_80 (by decide) ?_
    exact b_X9_stop_J84 C hQ v2 (1 : Int32) σ h
set_option maxHeartbeats 4000000 in
set_option maxRecDepth 100000 in
theorem b_X9_stop_B39 {Y : CY} {Z : CZ} (C : cx SM 4 Y Z cX9_stop RX9 wsX9_stop (some .int) rmX9_stop) {Post : Int32 → St → Prop} (hQ : Qi SM Y Z Post)  {K39 : Int32 → Int32 → St → Prop} (hK39 : ∀ (v1 : Int32) (v2 : Int32) (σ : St), K39 v1 v2 σ → WW SM 4 Y Z σ 39 [(0, .ref (qa Y 0)), (1, .int v1), (2, .int v2)] []) (v1 : Int32) (v2 : Int32) (σ : St) (h : w_X9_stop_B39  Post K39 v1 v2 σ) : WW SM 4 Y Z σ 39 [(0, .ref (qa Y 0)), (1, .int v1), (2, .int v2)] [] := by
  unfold w_X9_stop_B39 at h
  refine q_aload_n C 0 dX9_stop_39 rfl ?_
  refine q_getr (T := TX9) C kM0 iM0 inX9_stop_X9 rfl 12 (by decide) (List.mem_of_getElem? (i := 4) rfl) (fun _ h9 => h9) rfl dX9_stop_40 ?_
  refine q_bipush (v := (7 : Int32)) C dX9_stop_43 (by decide) ?_
  refine q_ialdk C 7 (by decide) (by decide) (by decide) kM4 iM4 dX9_stop_45 ?_
  refine q_iload_n C 1 dX9_stop_46 rfl ?_
  refine q_icmp_ge C 69 dX9_stop_47 (by decide) (fun c9 => ?_) (fun c9 => ?_)
  · replace h := h.1 c9
    refine q_sub (lv' := [(0, .ref (qa Y 0)), (2, .int v2)]) [0, 2] rfl ?_
    exact b_X9_stop_J69 C hQ v2 σ h
  · replace h := h.2 c9
    refine q_aload_n C 0 dX9_stop_50 rfl ?_
    refine q_getr (T := TX9) C kM0 iM0 inX9_stop_X9 rfl 12 (by decide) (List.mem_of_getElem? (i := 4) rfl) (fun _ h9 => h9) rfl dX9_stop_51 ?_
    refine q_iconst (v := (5 : Int32)) C dX9_stop_54 (by decide) ?_
    refine q_ialdk C 5 (by decide) (by decide) (by decide) kM4 iM4 dX9_stop_55 ?_
    refine q_if_ne C 69 dX9_stop_56 (by decide) (fun c10 => ?_) (fun c10 => ?_)
    · replace h := h.1 c10
      refine q_sub (lv' := [(0, .ref (qa Y 0)), (2, .int v2)]) [0, 2] rfl ?_
      exact b_X9_stop_J69 C hQ v2 σ h
    · replace h := h.2 c10
      refine q_aload_n C 0 dX9_stop_59 rfl ?_
      refine q_callVv (As := []) (st := []) C (c_X9_pass Y σ _ h) gX9_stop_X9_pass rfl ⟨rfl, nkX9_pass⟩ rmOk_X9_stop__X9_pass kM0 iM0 rfl rfl (Nat.le_of_ble_eq_true rfl) dX9_stop_60 rfl (fun σ11 h => ?_)
      obtain ⟨x12, ex12⟩ : ∃ y : Int32, y = v2 + (1 : Int32) := ⟨_, rfl⟩
      replace h := h x12 ex12
      refine q_iinc C x12 2 [(2, .int x12), (0, .ref (qa Y 0)), (1, .int v1)] dX9_stop_63 rfl (by rw [ex12]; rfl) (by decide) rfl ?_
      refine q_goto C 39 dX9_stop_66 (by decide) ?_
      refine q_sub (lv' := [(0, .ref (qa Y 0)), (1, .int v1), (2, .int x12)]) [1, 2, 0] rfl ?_
      exact hK39 v1 x12 σ11 h
theorem b_X9_stop_L39 {Y : CY} {Z : CZ} (C : cx SM 4 Y Z cX9_stop RX9 wsX9_stop (some .int) rmX9_stop) {Post : Int32 → St → Prop} (hQ : Qi SM Y Z Post)  : ∀ (n : Nat) (v1 : Int32) (v2 : Int32) (σ : St) (h : w_X9_stop_L39  Post n v1 v2 σ), WW SM 4 Y Z σ 39 [(0, .ref (qa Y 0)), (1, .int v1), (2, .int v2)] [] := by
  intro n
  induction n with
  | zero => intro v1 v2 σ h; exact h.elim
  | succ n ih => intro v1 v2 σ h; exact b_X9_stop_B39 C hQ  ih v1 v2 σ h
set_option maxHeartbeats 4000000 in
set_option maxRecDepth 100000 in
theorem b_X9_stop {Y : CY} {Z : CZ} (C : cx SM 4 Y Z cX9_stop RX9 wsX9_stop (some .int) rmX9_stop) {Post : Int32 → St → Prop} (hQ : Qi SM Y Z Post)  (p1 : Int32) (σ : St) (h : w_X9_stop p1 σ Post) : WW SM 4 Y Z σ 0 [(0, .ref (qa Y 0)), (1, .int p1)] [] := by
  unfold w_X9_stop at h
  refine q_iload_n C 1 dX9_stop_0 rfl ?_
  refine q_i2l C dX9_stop_1 ?_
  refine q_lconst (v := (0 : Int64)) C dX9_stop_2 (by decide) ?_
  refine q_ldc2 (v := (999 : Int64)) C (List.mem_of_getElem? (i := 1) rfl) dX9_stop_3 ?_
  refine q_callSi (As := [.long p1.toInt64, .long (0 : Int64), .long (999 : Int64)]) (st := []) C (c_X9_in Y (p1.toInt64) (0 : Int64) (999 : Int64) σ _ h) gX9_stop_X9_in rfl nkX9_in rmOk_X9_stop__X9_in rfl (Nat.le_of_ble_eq_true rfl) dX9_stop_6 rfl (fun x2 σ1 h => ?_)
  refine q_if_ne C 15 dX9_stop_9 (by decide) (fun c3 => ?_) (fun c3 => ?_)
  · replace h := h.1 c3
    refine q_aload_n C 0 dX9_stop_15 rfl ?_
    refine q_callVi (As := []) (st := []) C (c_X9_isReady Y σ1 _ h) gX9_stop_X9_isReady rfl ⟨rfl, nkX9_isReady⟩ rmOk_X9_stop__X9_isReady kM0 iM0 rfl rfl (Nat.le_of_ble_eq_true rfl) dX9_stop_16 rfl (fun x5 σ4 h => ?_)
    refine q_if_ne C 25 dX9_stop_19 (by decide) (fun c6 => ?_) (fun c6 => ?_)
    · replace h := h.1 c6
      refine q_aload_n C 0 dX9_stop_25 rfl ?_
      refine q_callVv (As := []) (st := []) C (c_X9_save Y σ4 _ h) gX9_stop_X9_save rfl ⟨rfl, nkX9_save⟩ rmOk_X9_stop__X9_save kM0 iM0 rfl rfl (Nat.le_of_ble_eq_true rfl) dX9_stop_26 rfl (fun σ7 h => ?_)
      refine q_aload_n C 0 dX9_stop_29 rfl ?_
      refine q_getr (T := TX9) C kM0 iM0 inX9_stop_X9 rfl 12 (by decide) (List.mem_of_getElem? (i := 4) rfl) (fun _ h9 => h9) rfl dX9_stop_30 ?_
      refine q_bipush (v := (6 : Int32)) C dX9_stop_33 (by decide) ?_
      refine q_iconst (v := (0 : Int32)) C dX9_stop_35 (by decide) ?_
      refine q_iastk C 6 (by decide) (by decide) (by decide) kM4 iM4 dX9_stop_36 ?_
      refine q_nmS (fun σ8 eσ8 => ?_)
      replace h := h σ8 eσ8
      refine q_iconst (v := (0 : Int32)) C dX9_stop_37 (by decide) ?_
      refine q_istore_n C [(2, .int (0 : Int32)), (0, .ref (qa Y 0)), (1, .int p1)] dX9_stop_38 (by decide) rfl ?_
      refine q_sub (lv' := [(0, .ref (qa Y 0)), (1, .int p1), (2, .int (0 : Int32))]) [1, 2, 0] rfl ?_
      exact b_X9_stop_L39 C hQ FU p1 (0 : Int32) σ8 h
    · replace h := h.2 c6
      refine q_ldc (v := (-1000000003 : Int32)) C (List.mem_of_getElem? (i := 3) rfl) dX9_stop_22 ?_
      exact q_iret C hQ dX9_stop_24 h
  · replace h := h.2 c3
    refine q_ldc (v := (-1000000002 : Int32)) C (List.mem_of_getElem? (i := 2) rfl) dX9_stop_12 ?_
    exact q_iret C hQ dX9_stop_14 h
theorem c_X9_stop (Y : CY)  (p1 : Int32) (σ : St) (Post : Int32 → St → Prop) (h : w_X9_stop p1 σ Post) : Ki SM Y yX9_stop wsX9_stop rmX9_stop [.ref (qa Y 0), .int p1] σ Post :=
  Ki_of (cc := cX9_stop) (nL := 4) (ret := (some .int)) (by decide +kernel) rfl (Nat.le_of_ble_eq_true rfl) (fun Z C hQ => b_X9_stop C hQ  p1 σ h)
abbrev rmX9_stretch : Room := { frames := 2, cells := 0, slots := 0, locals := 42 }
theorem nkX9_stretch : NmOk yX9_stretch 1 := by decide +kernel
theorem rmOk_X9_stretch__X9_in : RmOk rmX9_in rmX9_stretch 6 := ⟨rfl, rfl, by decide, by decide⟩
theorem rmOk_X9_stretch__X9_newPlate : RmOk rmX9_newPlate rmX9_stretch 2 := ⟨rfl, rfl, by decide, by decide⟩
theorem rmOk_X9_stretch__X9_pass : RmOk rmX9_pass rmX9_stretch 2 := ⟨rfl, rfl, by decide, by decide⟩
theorem rmOk_X9_stretch__X9_putBack : RmOk rmX9_putBack rmX9_stretch 2 := ⟨rfl, rfl, by decide, by decide⟩
theorem rmOk_X9_stretch__X9_save : RmOk rmX9_save rmX9_stretch 2 := ⟨rfl, rfl, by decide, by decide⟩
theorem rmOk_X9_stretch__X9_tailNow : RmOk rmX9_tailNow rmX9_stretch 3 := ⟨rfl, rfl, by decide, by decide⟩
theorem inX9_stretch_X9 : ∀ w ∈ u_ws RX9 TX9 47, w ∈ wsX9_stretch := fun _ h => List.mem_cons_of_mem _ (List.mem_append_right _ h)
def w_X9_stretch_J85 (K37 : Int32 → Int32 → Int32 → St → Prop) (Post : Int32 → St → Prop) (v1 : Int32) (v3 : Int32) (s0 : Int32) (s1 : Int32) (σ : St) : Prop := ∀ x16 : Int32, x16 = (s1 + s0) → K37 v1 x16 v3 σ
def w_X9_stretch_J74 (K37 : Int32 → Int32 → Int32 → St → Prop) (Post : Int32 → St → Prop) (v1 : Int32) (v2 : Int32) (s0 : Int32) (σ : St) : Prop := (s0 = 0 → w_X9_stretch_J85 K37 Post v1 s0 (0 : Int32) v2 σ) ∧ (¬ s0 = 0 → w_X9_stretch_J85 K37 Post v1 s0 (1 : Int32) v2 σ)
def w_X9_stretch_J73 (K37 : Int32 → Int32 → Int32 → St → Prop) (Post : Int32 → St → Prop) (v1 : Int32) (v2 : Int32) (σ : St) : Prop := w_X9_stretch_J74 K37 Post v1 v2 (0 : Int32) σ
def w_X9_stretch_J90 (Post : Int32 → St → Prop) (v2 : Int32) (σ : St) : Prop := w_X9_putBack σ (fun σ14 => Post v2 σ14)
def w_X9_stretch_B37 (Post : Int32 → St → Prop) (K37 : Int32 → Int32 → Int32 → St → Prop) (v1 : Int32) (v2 : Int32) (v3 : Int32) (σ : St) : Prop := (v3 = 0 → w_X9_stretch_J90 Post v2 σ) ∧ (¬ v3 = 0 → ((999 : Int32) ≤ v2 → w_X9_stretch_J90 Post v2 σ) ∧ (¬ (999 : Int32) ≤ v2 → w_X9_pass σ (fun σ9 => (¬ (σ9 4 5) = 0 → w_X9_stretch_J73 K37 Post v1 v2 σ9) ∧ ((σ9 4 5) = 0 → w_X9_tailNow σ9 (fun x12 σ11 => (v1 < x12 → w_X9_stretch_J73 K37 Post v1 v2 σ11) ∧ (¬ v1 < x12 → w_X9_stretch_J74 K37 Post v1 v2 (1 : Int32) σ11))))))
def w_X9_stretch_L37 (Post : Int32 → St → Prop) : Nat → Int32 → Int32 → Int32 → St → Prop
  | 0 => fun _ _ _ _ => False
  | n + 1 => w_X9_stretch_B37   Post (w_X9_stretch_L37   Post n)
def w_X9_stretch (p1 : Int32) (σ : St) (Post : Int32 → St → Prop) : Prop := w_X9_in (p1.toInt64) (0 : Int64) (999 : Int64) σ (fun x2 σ1 => (¬ x2 = 0 → (¬ (σ1 0 0) = 0 → w_X9_save σ1 (fun σ5 => w_X9_newPlate σ5 (fun σ6 => w_X9_stretch_L37 Post FU p1 (0 : Int32) (1 : Int32) σ6))) ∧ ((σ1 0 0) = 0 → Post (-1000000003 : Int32) σ1)) ∧ (x2 = 0 → Post (-1000000002 : Int32) σ1))
set_option maxHeartbeats 4000000 in
set_option maxRecDepth 100000 in
theorem b_X9_stretch_J85 {Y : CY} {Z : CZ} (C : cx SM 4 Y Z cX9_stretch RX9 wsX9_stretch (some .int) rmX9_stretch) {Post : Int32 → St → Prop} (hQ : Qi SM Y Z Post)  {K37 : Int32 → Int32 → Int32 → St → Prop} (hK37 : ∀ (v1 : Int32) (v2 : Int32) (v3 : Int32) (σ : St), K37 v1 v2 v3 σ → WW SM 4 Y Z σ 37 [(0, .ref (qa Y 0)), (1, .int v1), (2, .int v2), (3, .int v3)] []) (v1 : Int32) (v3 : Int32) (s0 : Int32) (s1 : Int32) (σ : St) (h : w_X9_stretch_J85 K37 Post v1 v3 s0 s1 σ) : WW SM 4 Y Z σ 85 [(0, .ref (qa Y 0)), (1, .int v1), (3, .int v3)] [.int s0, .int s1] := by
  unfold w_X9_stretch_J85 at h
  refine q_iadd C dX9_stretch_85 ?_
  refine q_topi (fun x16 ex16 => ?_)
  replace h := h x16 ex16
  refine q_istore_n C [(2, .int x16), (0, .ref (qa Y 0)), (1, .int v1), (3, .int v3)] dX9_stretch_86 (by decide) rfl ?_
  refine q_goto C 37 dX9_stretch_87 (by decide) ?_
  refine q_sub (lv' := [(0, .ref (qa Y 0)), (1, .int v1), (2, .int x16), (3, .int v3)]) [1, 2, 0, 3] rfl ?_
  exact hK37 v1 x16 v3 σ h
set_option maxHeartbeats 4000000 in
set_option maxRecDepth 100000 in
theorem b_X9_stretch_J74 {Y : CY} {Z : CZ} (C : cx SM 4 Y Z cX9_stretch RX9 wsX9_stretch (some .int) rmX9_stretch) {Post : Int32 → St → Prop} (hQ : Qi SM Y Z Post)  {K37 : Int32 → Int32 → Int32 → St → Prop} (hK37 : ∀ (v1 : Int32) (v2 : Int32) (v3 : Int32) (σ : St), K37 v1 v2 v3 σ → WW SM 4 Y Z σ 37 [(0, .ref (qa Y 0)), (1, .int v1), (2, .int v2), (3, .int v3)] []) (v1 : Int32) (v2 : Int32) (s0 : Int32) (σ : St) (h : w_X9_stretch_J74 K37 Post v1 v2 s0 σ) : WW SM 4 Y Z σ 74 [(0, .ref (qa Y 0)), (1, .int v1), (2, .int v2)] [.int s0] := by
  unfold w_X9_stretch_J74 at h
  refine q_istore_n C [(3, .int s0), (0, .ref (qa Y 0)), (1, .int v1), (2, .int v2)] dX9_stretch_74 (by decide) rfl ?_
  refine q_iload_n C 3 dX9_stretch_75 rfl ?_
  refine q_iload_n C 0 dX9_stretch_76 rfl ?_
  refine q_if_eq C 84 dX9_stretch_77 (by decide) (fun c15 => ?_) (fun c15 => ?_)
  · replace h := h.1 c15
    refine q_iconst (v := (0 : Int32)) C dX9_stretch_84 (by decide) ?_
    refine q_sub (lv' := [(0, .ref (qa Y 0)), (1, .int v1), (3, .int s0)]) [1, 2, 0] rfl ?_
    exact b_X9_stretch_J85 C hQ hK37 v1 s0 (0 : Int32) v2 σ h
  · replace h := h.2 c15
    refine q_iconst (v := (1 : Int32)) C dX9_stretch_80 (by decide) ?_
    refine q_goto C 85 dX9_stretch_81 (by decide) ?_
    refine q_sub (lv' := [(0, .ref (qa Y 0)), (1, .int v1), (3, .int s0)]) [1, 2, 0] rfl ?_
    exact b_X9_stretch_J85 C hQ hK37 v1 s0 (1 : Int32) v2 σ h
set_option maxHeartbeats 4000000 in
set_option maxRecDepth 100000 in
theorem b_X9_stretch_J73 {Y : CY} {Z : CZ} (C : cx SM 4 Y Z cX9_stretch RX9 wsX9_stretch (some .int) rmX9_stretch) {Post : Int32 → St → Prop} (hQ : Qi SM Y Z Post)  {K37 : Int32 → Int32 → Int32 → St → Prop} (hK37 : ∀ (v1 : Int32) (v2 : Int32) (v3 : Int32) (σ : St), K37 v1 v2 v3 σ → WW SM 4 Y Z σ 37 [(0, .ref (qa Y 0)), (1, .int v1), (2, .int v2), (3, .int v3)] []) (v1 : Int32) (v2 : Int32) (σ : St) (h : w_X9_stretch_J73 K37 Post v1 v2 σ) : WW SM 4 Y Z σ 73 [(0, .ref (qa Y 0)), (1, .int v1), (2, .int v2)] [] := by
  unfold w_X9_stretch_J73 at h
  refine q_iconst (v := (0 : Int32)) C dX9_stretch_73 (by decide) ?_
  exact b_X9_stretch_J74 C hQ hK37 v1 v2 (0 : Int32) σ h
set_option maxHeartbeats 4000000 in
set_option maxRecDepth 100000 in
theorem b_X9_stretch_J90 {Y : CY} {Z : CZ} (C : cx SM 4 Y Z cX9_stretch RX9 wsX9_stretch (some .int) rmX9_stretch) {Post : Int32 → St → Prop} (hQ : Qi SM Y Z Post)  (v2 : Int32) (σ : St) (h : w_X9_stretch_J90  Post v2 σ) : WW SM 4 Y Z σ 90 [(0, .ref (qa Y 0)), (2, .int v2)] [] := by
  unfold w_X9_stretch_J90 at h
  refine q_aload_n C 0 dX9_stretch_90 rfl ?_
  refine q_callVv (As := []) (st := []) C (c_X9_putBack Y σ _ h) gX9_stretch_X9_putBack rfl ⟨rfl, nkX9_putBack⟩ rmOk_X9_stretch__X9_putBack kM0 iM0 rfl rfl (Nat.le_of_ble_eq_true rfl) dX9_stretch_91 rfl (fun σ14 h => ?_)
  refine q_iload_n C 1 dX9_stretch_94 rfl ?_
  exact q_iret C hQ dX9_stretch_95 h
set_option maxHeartbeats 4000000 in
set_option maxRecDepth 100000 in
theorem b_X9_stretch_B37 {Y : CY} {Z : CZ} (C : cx SM 4 Y Z cX9_stretch RX9 wsX9_stretch (some .int) rmX9_stretch) {Post : Int32 → St → Prop} (hQ : Qi SM Y Z Post)  {K37 : Int32 → Int32 → Int32 → St → Prop} (hK37 : ∀ (v1 : Int32) (v2 : Int32) (v3 : Int32) (σ : St), K37 v1 v2 v3 σ → WW SM 4 Y Z σ 37 [(0, .ref (qa Y 0)), (1, .int v1), (2, .int v2), (3, .int v3)] []) (v1 : Int32) (v2 : Int32) (v3 : Int32) (σ : St) (h : w_X9_stretch_B37  Post K37 v1 v2 v3 σ) : WW SM 4 Y Z σ 37 [(0, .ref (qa Y 0)), (1, .int v1), (2, .int v2), (3, .int v3)] [] := by
  unfold w_X9_stretch_B37 at h
  refine q_iload_n C 3 dX9_stretch_37 rfl ?_
  refine q_if_eq C 90 dX9_stretch_38 (by decide) (fun c7 => ?_) (fun c7 => ?_)
  · replace h := h.1 c7
    refine q_sub (lv' := [(0, .ref (qa Y 0)), (2, .int v2)]) [0, 2] rfl ?_
    exact b_X9_stretch_J90 C hQ v2 σ h
  · replace h := h.2 c7
    refine q_iload_n C 2 dX9_stretch_41 rfl ?_
    refine q_sipush (v := (999 : Int32)) C dX9_stretch_42 (by decide) ?_
    refine q_icmp_ge C 90 dX9_stretch_45 (by decide) (fun c8 => ?_) (fun c8 => ?_)
    · replace h := h.1 c8
      refine q_sub (lv' := [(0, .ref (qa Y 0)), (2, .int v2)]) [0, 2] rfl ?_
      exact b_X9_stretch_J90 C hQ v2 σ h
    · replace h := h.2 c8
      refine q_aload_n C 0 dX9_stretch_48 rfl ?_
      refine q_callVv (As := []) (st := []) C (c_X9_pass Y σ _ h) gX9_stretch_X9_pass rfl ⟨rfl, nkX9_pass⟩ rmOk_X9_stretch__X9_pass kM0 iM0 rfl rfl (Nat.le_of_ble_eq_true rfl) dX9_stretch_49 rfl (fun σ9 h => ?_)
      refine q_aload_n C 0 dX9_stretch_52 rfl ?_
      refine q_getr (T := TX9) C kM0 iM0 inX9_stretch_X9 rfl 12 (by decide) (List.mem_of_getElem? (i := 5) rfl) (fun _ h9 => h9) rfl dX9_stretch_53 ?_
      refine q_iconst (v := (5 : Int32)) C dX9_stretch_56 (by decide) ?_
      refine q_ialdk C 5 (by decide) (by decide) (by decide) kM4 iM4 dX9_stretch_57 ?_
      refine q_if_ne C 73 dX9_stretch_58 (by decide) (fun c10 => ?_) (fun c10 => ?_)
      · replace h := h.1 c10
        refine q_sub (lv' := [(0, .ref (qa Y 0)), (1, .int v1), (2, .int v2)]) [0, 1, 2] rfl ?_
        exact b_X9_stretch_J73 C hQ hK37 v1 v2 σ9 h
      · replace h := h.2 c10
        refine q_aload_n C 0 dX9_stretch_61 rfl ?_
        refine q_callVi (As := []) (st := []) C (c_X9_tailNow Y σ9 _ h) gX9_stretch_X9_tailNow rfl ⟨rfl, nkX9_tailNow⟩ rmOk_X9_stretch__X9_tailNow kM0 iM0 rfl rfl (Nat.le_of_ble_eq_true rfl) dX9_stretch_62 rfl (fun x12 σ11 h => ?_)
        refine q_iload_n C 1 dX9_stretch_65 rfl ?_
        refine q_icmp_gt C 73 dX9_stretch_66 (by decide) (fun c13 => ?_) (fun c13 => ?_)
        · replace h := h.1 c13
          refine q_sub (lv' := [(0, .ref (qa Y 0)), (1, .int v1), (2, .int v2)]) [0, 1, 2] rfl ?_
          exact b_X9_stretch_J73 C hQ hK37 v1 v2 σ11 h
        · replace h := h.2 c13
          refine q_iconst (v := (1 : Int32)) C dX9_stretch_69 (by decide) ?_
          refine q_goto C 74 dX9_stretch_70 (by decide) ?_
          refine q_sub (lv' := [(0, .ref (qa Y 0)), (1, .int v1), (2, .int v2)]) [0, 1, 2] rfl ?_
          exact b_X9_stretch_J74 C hQ hK37 v1 v2 (1 : Int32) σ11 h
theorem b_X9_stretch_L37 {Y : CY} {Z : CZ} (C : cx SM 4 Y Z cX9_stretch RX9 wsX9_stretch (some .int) rmX9_stretch) {Post : Int32 → St → Prop} (hQ : Qi SM Y Z Post)  : ∀ (n : Nat) (v1 : Int32) (v2 : Int32) (v3 : Int32) (σ : St) (h : w_X9_stretch_L37  Post n v1 v2 v3 σ), WW SM 4 Y Z σ 37 [(0, .ref (qa Y 0)), (1, .int v1), (2, .int v2), (3, .int v3)] [] := by
  intro n
  induction n with
  | zero => intro v1 v2 v3 σ h; exact h.elim
  | succ n ih => intro v1 v2 v3 σ h; exact b_X9_stretch_B37 C hQ  ih v1 v2 v3 σ h
set_option maxHeartbeats 4000000 in
set_option maxRecDepth 100000 in
theorem b_X9_stretch {Y : CY} {Z : CZ} (C : cx SM 4 Y Z cX9_stretch RX9 wsX9_stretch (some .int) rmX9_stretch) {Post : Int32 → St → Prop} (hQ : Qi SM Y Z Post)  (p1 : Int32) (σ : St) (h : w_X9_stretch p1 σ Post) : WW SM 4 Y Z σ 0 [(0, .ref (qa Y 0)), (1, .int p1)] [] := by
  unfold w_X9_stretch at h
  refine q_iload_n C 1 dX9_stretch_0 rfl ?_
  refine q_i2l C dX9_stretch_1 ?_
  refine q_lconst (v := (0 : Int64)) C dX9_stretch_2 (by decide) ?_
  refine q_ldc2 (v := (999 : Int64)) C (List.mem_of_getElem? (i := 1) rfl) dX9_stretch_3 ?_
  refine q_callSi (As := [.long p1.toInt64, .long (0 : Int64), .long (999 : Int64)]) (st := []) C (c_X9_in Y (p1.toInt64) (0 : Int64) (999 : Int64) σ _ h) gX9_stretch_X9_in rfl nkX9_in rmOk_X9_stretch__X9_in rfl (Nat.le_of_ble_eq_true rfl) dX9_stretch_6 rfl (fun x2 σ1 h => ?_)
  refine q_if_ne C 15 dX9_stretch_9 (by decide) (fun c3 => ?_) (fun c3 => ?_)
  · replace h := h.1 c3
    refine q_aload_n C 0 dX9_stretch_15 rfl ?_
    refine q_geti (T := TX9) C kM0 iM0 inX9_stretch_X9 rfl 0 (by decide) (List.mem_of_getElem? (i := 3) rfl) (fun _ h9 => h9) rfl dX9_stretch_16 ?_
    refine q_if_ne C 25 dX9_stretch_19 (by decide) (fun c4 => ?_) (fun c4 => ?_)
    · replace h := h.1 c4
      refine q_aload_n C 0 dX9_stretch_25 rfl ?_
      refine q_callVv (As := []) (st := []) C (c_X9_save Y σ1 _ h) gX9_stretch_X9_save rfl ⟨rfl, nkX9_save⟩ rmOk_X9_stretch__X9_save kM0 iM0 rfl rfl (Nat.le_of_ble_eq_true rfl) dX9_stretch_26 rfl (fun σ5 h => ?_)
      refine q_aload_n C 0 dX9_stretch_29 rfl ?_
      refine q_callVv (As := []) (st := []) C (c_X9_newPlate Y σ5 _ h) gX9_stretch_X9_newPlate rfl ⟨rfl, nkX9_newPlate⟩ rmOk_X9_stretch__X9_newPlate kM0 iM0 rfl rfl (Nat.le_of_ble_eq_true rfl) dX9_stretch_30 rfl (fun σ6 h => ?_)
      refine q_iconst (v := (0 : Int32)) C dX9_stretch_33 (by decide) ?_
      refine q_istore_n C [(2, .int (0 : Int32)), (0, .ref (qa Y 0)), (1, .int p1)] dX9_stretch_34 (by decide) rfl ?_
      refine q_iconst (v := (1 : Int32)) C dX9_stretch_35 (by decide) ?_
      refine q_istore_n C [(3, .int (1 : Int32)), (2, .int (0 : Int32)), (0, .ref (qa Y 0)), (1, .int p1)] dX9_stretch_36 (by decide) rfl ?_
      refine q_sub (lv' := [(0, .ref (qa Y 0)), (1, .int p1), (2, .int (0 : Int32)), (3, .int (1 : Int32))]) [2, 3, 1, 0] rfl ?_
      exact b_X9_stretch_L37 C hQ FU p1 (0 : Int32) (1 : Int32) σ6 h
    · replace h := h.2 c4
      refine q_ldc (v := (-1000000003 : Int32)) C (List.mem_of_getElem? (i := 4) rfl) dX9_stretch_22 ?_
      exact q_iret C hQ dX9_stretch_24 h
  · replace h := h.2 c3
    refine q_ldc (v := (-1000000002 : Int32)) C (List.mem_of_getElem? (i := 2) rfl) dX9_stretch_12 ?_
    exact q_iret C hQ dX9_stretch_14 h
theorem c_X9_stretch (Y : CY)  (p1 : Int32) (σ : St) (Post : Int32 → St → Prop) (h : w_X9_stretch p1 σ Post) : Ki SM Y yX9_stretch wsX9_stretch rmX9_stretch [.ref (qa Y 0), .int p1] σ Post :=
  Ki_of (cc := cX9_stretch) (nL := 4) (ret := (some .int)) (by decide +kernel) rfl (Nat.le_of_ble_eq_true rfl) (fun Z C hQ => b_X9_stretch C hQ  p1 σ h)
abbrev rmX9_tail : Room := { frames := 1, cells := 0, slots := 0, locals := 25 }
theorem nkX9_tail : NmOk yX9_tail 3 := by decide +kernel
theorem rmOk_X9_tail__X9_in : RmOk rmX9_in rmX9_tail 6 := ⟨rfl, rfl, by decide, by decide⟩
theorem inX9_tail_X9 : ∀ w ∈ u_ws RX9 TX9 47, w ∈ wsX9_tail := fun _ h => List.mem_cons_of_mem _ (List.mem_append_right _ h)
def w_X9_tail (p1 : Int32) (p2 : Int32) (p3 : Int32) (σ : St) (Post : Int32 → St → Prop) : Prop := w_X9_in (p1.toInt64) (0 : Int64) (999 : Int64) σ (fun x2 σ1 => (x2 = 0 → Post (-1000000002 : Int32) σ1) ∧ (¬ x2 = 0 → w_X9_in (p2.toInt64) ((p1.toInt64 + (1 : Int64))) (999 : Int64) σ1 (fun x5 σ4 => (x5 = 0 → Post (-1000000002 : Int32) σ4) ∧ (¬ x5 = 0 → w_X9_in (p3.toInt64) (-9000 : Int64) (9000 : Int64) σ4 (fun x8 σ7 => (¬ x8 = 0 → (¬ (σ7 0 38) = (6 : Int32) → (vp_in (σ7 0 38) 6) ∧ (∀ σ11 : St, σ11 = up σ7 16 (σ7 0 38).toNatClampNeg p1 → (vp_in (σ11 0 38) 6) ∧ (∀ σ12 : St, σ12 = up σ11 17 (σ11 0 38).toNatClampNeg p2 → (vp_in (σ12 0 38) 6) ∧ (∀ σ13 : St, σ13 = up σ12 18 (σ12 0 38).toNatClampNeg p3 → ∀ σ14 : St, σ14 = up σ13 0 38 (((σ13 0 38) + (1 : Int32))) → Post ((σ14 0 38)) σ14)))) ∧ ((σ7 0 38) = (6 : Int32) → Post (-1000000004 : Int32) σ7)) ∧ (x8 = 0 → Post (-1000000002 : Int32) σ7))))))
set_option maxHeartbeats 4000000 in
set_option maxRecDepth 100000 in
theorem b_X9_tail {Y : CY} {Z : CZ} (C : cx SM 4 Y Z cX9_tail RX9 wsX9_tail (some .int) rmX9_tail) {Post : Int32 → St → Prop} (hQ : Qi SM Y Z Post)  (p1 : Int32) (p2 : Int32) (p3 : Int32) (σ : St) (h : w_X9_tail p1 p2 p3 σ Post) : WW SM 4 Y Z σ 0 [(0, .ref (qa Y 0)), (1, .int p1), (2, .int p2), (3, .int p3)] [] := by
  unfold w_X9_tail at h
  refine q_iload_n C 1 dX9_tail_0 rfl ?_
  refine q_i2l C dX9_tail_1 ?_
  refine q_lconst (v := (0 : Int64)) C dX9_tail_2 (by decide) ?_
  refine q_ldc2 (v := (999 : Int64)) C (List.mem_of_getElem? (i := 1) rfl) dX9_tail_3 ?_
  refine q_callSi (As := [.long p1.toInt64, .long (0 : Int64), .long (999 : Int64)]) (st := []) C (c_X9_in Y (p1.toInt64) (0 : Int64) (999 : Int64) σ _ h) gX9_tail_X9_in rfl nkX9_in rmOk_X9_tail__X9_in rfl (Nat.le_of_ble_eq_true rfl) dX9_tail_6 rfl (fun x2 σ1 h => ?_)
  refine q_if_eq C 41 dX9_tail_9 (by decide) (fun c3 => ?_) (fun c3 => ?_)
  · replace h := h.1 c3
    refine q_ldc (v := (-1000000002 : Int32)) C (List.mem_of_getElem? (i := 4) rfl) dX9_tail_41 ?_
    exact q_iret C hQ dX9_tail_43 h
  · replace h := h.2 c3
    refine q_iload_n C 2 dX9_tail_12 rfl ?_
    refine q_i2l C dX9_tail_13 ?_
    refine q_iload_n C 1 dX9_tail_14 rfl ?_
    refine q_i2l C dX9_tail_15 ?_
    refine q_lconst (v := (1 : Int64)) C dX9_tail_16 (by decide) ?_
    refine q_ladd C dX9_tail_17 ?_
    refine q_ldc2 (v := (999 : Int64)) C (List.mem_of_getElem? (i := 1) rfl) dX9_tail_18 ?_
    refine q_callSi (As := [.long p2.toInt64, .long (p1.toInt64 + (1 : Int64)), .long (999 : Int64)]) (st := []) C (c_X9_in Y (p2.toInt64) ((p1.toInt64 + (1 : Int64))) (999 : Int64) σ1 _ h) gX9_tail_X9_in rfl nkX9_in rmOk_X9_tail__X9_in rfl (Nat.le_of_ble_eq_true rfl) dX9_tail_21 rfl (fun x5 σ4 h => ?_)
    refine q_if_eq C 41 dX9_tail_24 (by decide) (fun c6 => ?_) (fun c6 => ?_)
    · replace h := h.1 c6
      refine q_ldc (v := (-1000000002 : Int32)) C (List.mem_of_getElem? (i := 4) rfl) dX9_tail_41 ?_
      exact q_iret C hQ dX9_tail_43 h
    · replace h := h.2 c6
      refine q_iload_n C 3 dX9_tail_27 rfl ?_
      refine q_i2l C dX9_tail_28 ?_
      refine q_ldc2 (v := (-9000 : Int64)) C (List.mem_of_getElem? (i := 2) rfl) dX9_tail_29 ?_
      refine q_ldc2 (v := (9000 : Int64)) C (List.mem_of_getElem? (i := 3) rfl) dX9_tail_32 ?_
      refine q_callSi (As := [.long p3.toInt64, .long (-9000 : Int64), .long (9000 : Int64)]) (st := []) C (c_X9_in Y (p3.toInt64) (-9000 : Int64) (9000 : Int64) σ4 _ h) gX9_tail_X9_in rfl nkX9_in rmOk_X9_tail__X9_in rfl (Nat.le_of_ble_eq_true rfl) dX9_tail_35 rfl (fun x8 σ7 h => ?_)
      refine q_if_ne C 44 dX9_tail_38 (by decide) (fun c9 => ?_) (fun c9 => ?_)
      · replace h := h.1 c9
        refine q_aload_n C 0 dX9_tail_44 rfl ?_
        refine q_geti (T := TX9) C kM0 iM0 inX9_tail_X9 rfl 38 (by decide) (List.mem_of_getElem? (i := 5) rfl) (fun _ h9 => h9) rfl dX9_tail_45 ?_
        refine q_bipush (v := (6 : Int32)) C dX9_tail_48 (by decide) ?_
        refine q_icmp_ne C 56 dX9_tail_50 (by decide) (fun c10 => ?_) (fun c10 => ?_)
        · replace h := h.1 c10
          refine q_aload_n C 0 dX9_tail_56 rfl ?_
          refine q_getr (T := TX9) C kM0 iM0 inX9_tail_X9 rfl 39 (by decide) (List.mem_of_getElem? (i := 7) rfl) (fun _ h9 => h9) rfl dX9_tail_57 ?_
          refine q_aload_n C 0 dX9_tail_60 rfl ?_
          refine q_geti (T := TX9) C kM0 iM0 inX9_tail_X9 rfl 38 (by decide) (List.mem_of_getElem? (i := 5) rfl) (fun _ h9 => h9) rfl dX9_tail_61 ?_
          refine q_iload_n C 1 dX9_tail_64 rfl ?_
          obtain ⟨g17, h⟩ := h
          refine q_iast C kM16 iM16 g17 dX9_tail_65 ?_
          refine q_nmS (fun σ11 eσ11 => ?_)
          replace h := h σ11 eσ11
          refine q_aload_n C 0 dX9_tail_66 rfl ?_
          refine q_getr (T := TX9) C kM0 iM0 inX9_tail_X9 rfl 40 (by decide) (List.mem_of_getElem? (i := 8) rfl) (fun _ h9 => h9) rfl dX9_tail_67 ?_
          refine q_aload_n C 0 dX9_tail_70 rfl ?_
          refine q_geti (T := TX9) C kM0 iM0 inX9_tail_X9 rfl 38 (by decide) (List.mem_of_getElem? (i := 5) rfl) (fun _ h9 => h9) rfl dX9_tail_71 ?_
          refine q_iload_n C 2 dX9_tail_74 rfl ?_
          obtain ⟨g16, h⟩ := h
          refine q_iast C kM17 iM17 g16 dX9_tail_75 ?_
          refine q_nmS (fun σ12 eσ12 => ?_)
          replace h := h σ12 eσ12
          refine q_aload_n C 0 dX9_tail_76 rfl ?_
          refine q_getr (T := TX9) C kM0 iM0 inX9_tail_X9 rfl 41 (by decide) (List.mem_of_getElem? (i := 9) rfl) (fun _ h9 => h9) rfl dX9_tail_77 ?_
          refine q_aload_n C 0 dX9_tail_80 rfl ?_
          refine q_geti (T := TX9) C kM0 iM0 inX9_tail_X9 rfl 38 (by decide) (List.mem_of_getElem? (i := 5) rfl) (fun _ h9 => h9) rfl dX9_tail_81 ?_
          refine q_iload_n C 3 dX9_tail_84 rfl ?_
          obtain ⟨g15, h⟩ := h
          refine q_iast C kM18 iM18 g15 dX9_tail_85 ?_
          refine q_nmS (fun σ13 eσ13 => ?_)
          replace h := h σ13 eσ13
          refine q_aload_n C 0 dX9_tail_86 rfl ?_
          refine q_dup C dX9_tail_87 rfl ?_
          refine q_geti (T := TX9) C kM0 iM0 inX9_tail_X9 rfl 38 (by decide) (List.mem_of_getElem? (i := 5) rfl) (fun _ h9 => h9) rfl dX9_tail_88 ?_
          refine q_iconst (v := (1 : Int32)) C dX9_tail_91 (by decide) ?_
          refine q_iadd C dX9_tail_92 ?_
          refine q_puti (T := TX9) C kM0 iM0 inX9_tail_X9 rfl tyX9 tyX9_ok nmX9 38 (by decide) (List.mem_of_getElem? (i := 5) rfl) (fun _ h9 => h9) rfl dgM0 rfl (ni_n _) (ni_f _) dX9_tail_93 ?_
          refine q_nmS (fun σ14 eσ14 => ?_)
          replace h := h σ14 eσ14
          refine q_aload_n C 0 dX9_tail_96 rfl ?_
          refine q_geti (T := TX9) C kM0 iM0 inX9_tail_X9 rfl 38 (by decide) (List.mem_of_getElem? (i := 5) rfl) (fun _ h9 => h9) rfl dX9_tail_97 ?_
          exact q_iret C hQ dX9_tail_100 h
        · replace h := h.2 c10
          refine q_ldc (v := (-1000000004 : Int32)) C (List.mem_of_getElem? (i := 6) rfl) dX9_tail_53 ?_
          exact q_iret C hQ dX9_tail_55 h
      · replace h := h.2 c9
        refine q_ldc (v := (-1000000002 : Int32)) C (List.mem_of_getElem? (i := 4) rfl) dX9_tail_41 ?_
        exact q_iret C hQ dX9_tail_43 h
theorem c_X9_tail (Y : CY)  (p1 : Int32) (p2 : Int32) (p3 : Int32) (σ : St) (Post : Int32 → St → Prop) (h : w_X9_tail p1 p2 p3 σ Post) : Ki SM Y yX9_tail wsX9_tail rmX9_tail [.ref (qa Y 0), .int p1, .int p2, .int p3] σ Post :=
  Ki_of (cc := cX9_tail) (nL := 4) (ret := (some .int)) (by decide +kernel) rfl (Nat.le_of_ble_eq_true rfl) (fun Z C hQ => b_X9_tail C hQ  p1 p2 p3 σ h)
abbrev rmX9_tear : Room := { frames := 0, cells := 0, slots := 0, locals := 0 }
theorem nkX9_tear : NmOk yX9_tear 0 := by decide +kernel
theorem inX9_tear_X9 : ∀ w ∈ u_ws RX9 TX9 47, w ∈ wsX9_tear := fun _ h => List.mem_cons_of_mem _ (List.mem_append_right _ h)
def w_X9_tear (σ : St) (Post : Int32 → St → Prop) : Prop := ∀ x1 : Int32, x1 = (((σ 0 35) + (σ 0 38)) + (σ 0 42)) → ∀ σ2 : St, σ2 = up σ 0 35 (0 : Int32) → ∀ σ3 : St, σ3 = up σ2 0 38 (0 : Int32) → ∀ σ4 : St, σ4 = up σ3 0 42 (0 : Int32) → Post x1 σ4
set_option maxHeartbeats 4000000 in
set_option maxRecDepth 100000 in
theorem b_X9_tear {Y : CY} {Z : CZ} (C : cx SM 2 Y Z cX9_tear RX9 wsX9_tear (some .int) rmX9_tear) {Post : Int32 → St → Prop} (hQ : Qi SM Y Z Post)  (σ : St) (h : w_X9_tear  σ Post) : WW SM 2 Y Z σ 0 [(0, .ref (qa Y 0))] [] := by
  unfold w_X9_tear at h
  refine q_aload_n C 0 dX9_tear_0 rfl ?_
  refine q_geti (T := TX9) C kM0 iM0 inX9_tear_X9 rfl 35 (by decide) (List.mem_of_getElem? (i := 1) rfl) (fun _ h9 => h9) rfl dX9_tear_1 ?_
  refine q_aload_n C 0 dX9_tear_4 rfl ?_
  refine q_geti (T := TX9) C kM0 iM0 inX9_tear_X9 rfl 38 (by decide) (List.mem_of_getElem? (i := 2) rfl) (fun _ h9 => h9) rfl dX9_tear_5 ?_
  refine q_iadd C dX9_tear_8 ?_
  refine q_aload_n C 0 dX9_tear_9 rfl ?_
  refine q_geti (T := TX9) C kM0 iM0 inX9_tear_X9 rfl 42 (by decide) (List.mem_of_getElem? (i := 3) rfl) (fun _ h9 => h9) rfl dX9_tear_10 ?_
  refine q_iadd C dX9_tear_13 ?_
  refine q_topi (fun x1 ex1 => ?_)
  replace h := h x1 ex1
  refine q_istore_n C [(1, .int x1), (0, .ref (qa Y 0))] dX9_tear_14 (by decide) rfl ?_
  refine q_aload_n C 1 dX9_tear_15 rfl ?_
  refine q_iconst (v := (0 : Int32)) C dX9_tear_16 (by decide) ?_
  refine q_puti (T := TX9) C kM0 iM0 inX9_tear_X9 rfl tyX9 tyX9_ok nmX9 35 (by decide) (List.mem_of_getElem? (i := 1) rfl) (fun _ h9 => h9) rfl dgM0 rfl (ni_n _) (ni_f _) dX9_tear_17 ?_
  refine q_nmS (fun σ2 eσ2 => ?_)
  replace h := h σ2 eσ2
  refine q_aload_n C 1 dX9_tear_20 rfl ?_
  refine q_iconst (v := (0 : Int32)) C dX9_tear_21 (by decide) ?_
  refine q_puti (T := TX9) C kM0 iM0 inX9_tear_X9 rfl tyX9 tyX9_ok nmX9 38 (by decide) (List.mem_of_getElem? (i := 2) rfl) (fun _ h9 => h9) rfl dgM0 rfl (ni_n _) (ni_f _) dX9_tear_22 ?_
  refine q_nmS (fun σ3 eσ3 => ?_)
  replace h := h σ3 eσ3
  refine q_aload_n C 1 dX9_tear_25 rfl ?_
  refine q_iconst (v := (0 : Int32)) C dX9_tear_26 (by decide) ?_
  refine q_puti (T := TX9) C kM0 iM0 inX9_tear_X9 rfl tyX9 tyX9_ok nmX9 42 (by decide) (List.mem_of_getElem? (i := 3) rfl) (fun _ h9 => h9) rfl dgM0 rfl (ni_n _) (ni_f _) dX9_tear_27 ?_
  refine q_nmS (fun σ4 eσ4 => ?_)
  replace h := h σ4 eσ4
  refine q_iload_n C 0 dX9_tear_30 rfl ?_
  exact q_iret C hQ dX9_tear_31 h
theorem c_X9_tear (Y : CY)  (σ : St) (Post : Int32 → St → Prop) (h : w_X9_tear  σ Post) : Ki SM Y yX9_tear wsX9_tear rmX9_tear [.ref (qa Y 0)] σ Post :=
  Ki_of (cc := cX9_tear) (nL := 2) (ret := (some .int)) (by decide +kernel) rfl (Nat.le_of_ble_eq_true rfl) (fun Z C hQ => b_X9_tear C hQ  σ h)
abbrev rmX9_told : Room := { frames := 1, cells := 0, slots := 0, locals := 22 }
theorem nkX9_told : NmOk yX9_told 1 := by decide +kernel
theorem rmOk_X9_told__X9_tailNow : RmOk rmX9_tailNow rmX9_told 3 := ⟨rfl, rfl, by decide, by decide⟩
theorem inX9_told_X9 : ∀ w ∈ u_ws RX9 TX9 47, w ∈ wsX9_told := fun _ h => List.mem_cons_of_mem _ (List.mem_append_right _ h)
def w_X9_told (p1 : Int32) (σ : St) (Post : Int32 → St → Prop) : Prop := (p1 = (0 : Int32) → ((σ 0 0) = 0 → Post (0 : Int32) σ) ∧ (¬ (σ 0 0) = 0 → Post (1 : Int32) σ)) ∧ (¬ p1 = (0 : Int32) → (p1 = (1 : Int32) → Post (((σ 0 1) + (9 : Int32))) σ) ∧ (¬ p1 = (1 : Int32) → (p1 = (2 : Int32) → Post (((σ 0 2) + (9 : Int32))) σ) ∧ (¬ p1 = (2 : Int32) → (p1 = (3 : Int32) → Post ((σ 0 3)) σ) ∧ (¬ p1 = (3 : Int32) → (p1 = (4 : Int32) → Post ((σ 0 4)) σ) ∧ (¬ p1 = (4 : Int32) → (p1 = (5 : Int32) → Post ((σ 0 6)) σ) ∧ (¬ p1 = (5 : Int32) → (p1 = (6 : Int32) → Post (((σ 0 7) + (99 : Int32))) σ) ∧ (¬ p1 = (6 : Int32) → (p1 = (7 : Int32) → Post ((σ 0 8)) σ) ∧ (¬ p1 = (7 : Int32) → (p1 = (8 : Int32) → Post ((σ 0 9)) σ) ∧ (¬ p1 = (8 : Int32) → (p1 = (9 : Int32) → Post ((σ 0 15)) σ) ∧ (¬ p1 = (9 : Int32) → (p1 = (10 : Int32) → Post ((σ 4 0)) σ) ∧ (¬ p1 = (10 : Int32) → (p1 = (11 : Int32) → Post (((σ 4 1) + (10000 : Int32))) σ) ∧ (¬ p1 = (11 : Int32) → (p1 = (12 : Int32) → Post (((σ 4 2) + (10000 : Int32))) σ) ∧ (¬ p1 = (12 : Int32) → (p1 = (13 : Int32) → Post ((σ 4 5)) σ) ∧ (¬ p1 = (13 : Int32) → (p1 = (14 : Int32) → Post ((σ 4 6)) σ) ∧ (¬ p1 = (14 : Int32) → (p1 = (15 : Int32) → Post ((σ 4 7)) σ) ∧ (¬ p1 = (15 : Int32) → (p1 = (16 : Int32) → w_X9_tailNow σ (fun x20 σ19 => Post x20 σ19)) ∧ (¬ p1 = (16 : Int32) → (p1 = (17 : Int32) → Post ((σ 0 35)) σ) ∧ (¬ p1 = (17 : Int32) → (p1 = (18 : Int32) → Post ((σ 0 38)) σ) ∧ (¬ p1 = (18 : Int32) → (p1 = (19 : Int32) → Post ((σ 0 42)) σ) ∧ (¬ p1 = (19 : Int32) → (p1 = (20 : Int32) → Post ((σ 0 31)) σ) ∧ (¬ p1 = (20 : Int32) → Post (-1000000002 : Int32) σ)))))))))))))))))))))
set_option maxHeartbeats 4000000 in
set_option maxRecDepth 100000 in
theorem b_X9_told {Y : CY} {Z : CZ} (C : cx SM 2 Y Z cX9_told RX9 wsX9_told (some .int) rmX9_told) {Post : Int32 → St → Prop} (hQ : Qi SM Y Z Post)  (p1 : Int32) (σ : St) (h : w_X9_told p1 σ Post) : WW SM 2 Y Z σ 0 [(0, .ref (qa Y 0)), (1, .int p1)] [] := by
  unfold w_X9_told at h
  refine q_iload_n C 1 dX9_told_0 rfl ?_
  by_cases c1 : p1 = (0 : Int32)
  · replace h := h.1 c1
    refine q_tableIn C 100 dX9_told_1 (by rw [c1]; decide) (by rw [c1]; decide) (by rw [c1]; rfl) (by decide) ?_
    refine q_aload_n C 0 dX9_told_100 rfl ?_
    refine q_geti (T := TX9) C kM0 iM0 inX9_told_X9 rfl 0 (by decide) (List.mem_of_getElem? (i := 1) rfl) (fun _ h9 => h9) rfl dX9_told_101 ?_
    refine q_if_eq C 111 dX9_told_104 (by decide) (fun c2 => ?_) (fun c2 => ?_)
    · replace h := h.1 c2
      refine q_iconst (v := (0 : Int32)) C dX9_told_111 (by decide) ?_
      exact q_iret C hQ dX9_told_112 h
    · replace h := h.2 c2
      refine q_iconst (v := (1 : Int32)) C dX9_told_107 (by decide) ?_
      refine q_goto C 112 dX9_told_108 (by decide) ?_
      exact q_iret C hQ dX9_told_112 h
  · replace h := h.2 c1
    by_cases c3 : p1 = (1 : Int32)
    · replace h := h.1 c3
      refine q_tableIn C 113 dX9_told_1 (by rw [c3]; decide) (by rw [c3]; decide) (by rw [c3]; rfl) (by decide) ?_
      refine q_aload_n C 0 dX9_told_113 rfl ?_
      refine q_geti (T := TX9) C kM0 iM0 inX9_told_X9 rfl 1 (by decide) (List.mem_of_getElem? (i := 2) rfl) (fun _ h9 => h9) rfl dX9_told_114 ?_
      refine q_bipush (v := (9 : Int32)) C dX9_told_117 (by decide) ?_
      refine q_iadd C dX9_told_119 ?_
      exact q_iret C hQ dX9_told_120 h
    · replace h := h.2 c3
      by_cases c4 : p1 = (2 : Int32)
      · replace h := h.1 c4
        refine q_tableIn C 121 dX9_told_1 (by rw [c4]; decide) (by rw [c4]; decide) (by rw [c4]; rfl) (by decide) ?_
        refine q_aload_n C 0 dX9_told_121 rfl ?_
        refine q_geti (T := TX9) C kM0 iM0 inX9_told_X9 rfl 2 (by decide) (List.mem_of_getElem? (i := 3) rfl) (fun _ h9 => h9) rfl dX9_told_122 ?_
        refine q_bipush (v := (9 : Int32)) C dX9_told_125 (by decide) ?_
        refine q_iadd C dX9_told_127 ?_
        exact q_iret C hQ dX9_told_128 h
      · replace h := h.2 c4
        by_cases c5 : p1 = (3 : Int32)
        · replace h := h.1 c5
          refine q_tableIn C 129 dX9_told_1 (by rw [c5]; decide) (by rw [c5]; decide) (by rw [c5]; rfl) (by decide) ?_
          refine q_aload_n C 0 dX9_told_129 rfl ?_
          refine q_geti (T := TX9) C kM0 iM0 inX9_told_X9 rfl 3 (by decide) (List.mem_of_getElem? (i := 4) rfl) (fun _ h9 => h9) rfl dX9_told_130 ?_
          exact q_iret C hQ dX9_told_133 h
        · replace h := h.2 c5
          by_cases c6 : p1 = (4 : Int32)
          · replace h := h.1 c6
            refine q_tableIn C 134 dX9_told_1 (by rw [c6]; decide) (by rw [c6]; decide) (by rw [c6]; rfl) (by decide) ?_
            refine q_aload_n C 0 dX9_told_134 rfl ?_
            refine q_geti (T := TX9) C kM0 iM0 inX9_told_X9 rfl 4 (by decide) (List.mem_of_getElem? (i := 5) rfl) (fun _ h9 => h9) rfl dX9_told_135 ?_
            exact q_iret C hQ dX9_told_138 h
          · replace h := h.2 c6
            by_cases c7 : p1 = (5 : Int32)
            · replace h := h.1 c7
              refine q_tableIn C 139 dX9_told_1 (by rw [c7]; decide) (by rw [c7]; decide) (by rw [c7]; rfl) (by decide) ?_
              refine q_aload_n C 0 dX9_told_139 rfl ?_
              refine q_geti (T := TX9) C kM0 iM0 inX9_told_X9 rfl 6 (by decide) (List.mem_of_getElem? (i := 6) rfl) (fun _ h9 => h9) rfl dX9_told_140 ?_
              exact q_iret C hQ dX9_told_143 h
            · replace h := h.2 c7
              by_cases c8 : p1 = (6 : Int32)
              · replace h := h.1 c8
                refine q_tableIn C 144 dX9_told_1 (by rw [c8]; decide) (by rw [c8]; decide) (by rw [c8]; rfl) (by decide) ?_
                refine q_aload_n C 0 dX9_told_144 rfl ?_
                refine q_geti (T := TX9) C kM0 iM0 inX9_told_X9 rfl 7 (by decide) (List.mem_of_getElem? (i := 7) rfl) (fun _ h9 => h9) rfl dX9_told_145 ?_
                refine q_bipush (v := (99 : Int32)) C dX9_told_148 (by decide) ?_
                refine q_iadd C dX9_told_150 ?_
                exact q_iret C hQ dX9_told_151 h
              · replace h := h.2 c8
                by_cases c9 : p1 = (7 : Int32)
                · replace h := h.1 c9
                  refine q_tableIn C 152 dX9_told_1 (by rw [c9]; decide) (by rw [c9]; decide) (by rw [c9]; rfl) (by decide) ?_
                  refine q_aload_n C 0 dX9_told_152 rfl ?_
                  refine q_geti (T := TX9) C kM0 iM0 inX9_told_X9 rfl 8 (by decide) (List.mem_of_getElem? (i := 8) rfl) (fun _ h9 => h9) rfl dX9_told_153 ?_
                  exact q_iret C hQ dX9_told_156 h
                · replace h := h.2 c9
                  by_cases c10 : p1 = (8 : Int32)
                  · replace h := h.1 c10
                    refine q_tableIn C 157 dX9_told_1 (by rw [c10]; decide) (by rw [c10]; decide) (by rw [c10]; rfl) (by decide) ?_
                    refine q_aload_n C 0 dX9_told_157 rfl ?_
                    refine q_geti (T := TX9) C kM0 iM0 inX9_told_X9 rfl 9 (by decide) (List.mem_of_getElem? (i := 9) rfl) (fun _ h9 => h9) rfl dX9_told_158 ?_
                    exact q_iret C hQ dX9_told_161 h
                  · replace h := h.2 c10
                    by_cases c11 : p1 = (9 : Int32)
                    · replace h := h.1 c11
                      refine q_tableIn C 162 dX9_told_1 (by rw [c11]; decide) (by rw [c11]; decide) (by rw [c11]; rfl) (by decide) ?_
                      refine q_aload_n C 0 dX9_told_162 rfl ?_
                      refine q_geti (T := TX9) C kM0 iM0 inX9_told_X9 rfl 15 (by decide) (List.mem_of_getElem? (i := 10) rfl) (fun _ h9 => h9) rfl dX9_told_163 ?_
                      exact q_iret C hQ dX9_told_166 h
                    · replace h := h.2 c11
                      by_cases c12 : p1 = (10 : Int32)
                      · replace h := h.1 c12
                        refine q_tableIn C 167 dX9_told_1 (by rw [c12]; decide) (by rw [c12]; decide) (by rw [c12]; rfl) (by decide) ?_
                        refine q_aload_n C 0 dX9_told_167 rfl ?_
                        refine q_getr (T := TX9) C kM0 iM0 inX9_told_X9 rfl 12 (by decide) (List.mem_of_getElem? (i := 11) rfl) (fun _ h9 => h9) rfl dX9_told_168 ?_
                        refine q_iconst (v := (0 : Int32)) C dX9_told_171 (by decide) ?_
                        refine q_ialdk C 0 (by decide) (by decide) (by decide) kM4 iM4 dX9_told_172 ?_
                        exact q_iret C hQ dX9_told_173 h
                      · replace h := h.2 c12
                        by_cases c13 : p1 = (11 : Int32)
                        · replace h := h.1 c13
                          refine q_tableIn C 174 dX9_told_1 (by rw [c13]; decide) (by rw [c13]; decide) (by rw [c13]; rfl) (by decide) ?_
                          refine q_aload_n C 0 dX9_told_174 rfl ?_
                          refine q_getr (T := TX9) C kM0 iM0 inX9_told_X9 rfl 12 (by decide) (List.mem_of_getElem? (i := 11) rfl) (fun _ h9 => h9) rfl dX9_told_175 ?_
                          refine q_iconst (v := (1 : Int32)) C dX9_told_178 (by decide) ?_
                          refine q_ialdk C 1 (by decide) (by decide) (by decide) kM4 iM4 dX9_told_179 ?_
                          refine q_sipush (v := (10000 : Int32)) C dX9_told_180 (by decide) ?_
                          refine q_iadd C dX9_told_183 ?_
                          exact q_iret C hQ dX9_told_184 h
                        · replace h := h.2 c13
                          by_cases c14 : p1 = (12 : Int32)
                          · replace h := h.1 c14
                            refine q_tableIn C 185 dX9_told_1 (by rw [c14]; decide) (by rw [c14]; decide) (by rw [c14]; rfl) (by decide) ?_
                            refine q_aload_n C 0 dX9_told_185 rfl ?_
                            refine q_getr (T := TX9) C kM0 iM0 inX9_told_X9 rfl 12 (by decide) (List.mem_of_getElem? (i := 11) rfl) (fun _ h9 => h9) rfl dX9_told_186 ?_
                            refine q_iconst (v := (2 : Int32)) C dX9_told_189 (by decide) ?_
                            refine q_ialdk C 2 (by decide) (by decide) (by decide) kM4 iM4 dX9_told_190 ?_
                            refine q_sipush (v := (10000 : Int32)) C dX9_told_191 (by decide) ?_
                            refine q_iadd C dX9_told_194 ?_
                            exact q_iret C hQ dX9_told_195 h
                          · replace h := h.2 c14
                            by_cases c15 : p1 = (13 : Int32)
                            · replace h := h.1 c15
                              refine q_tableIn C 196 dX9_told_1 (by rw [c15]; decide) (by rw [c15]; decide) (by rw [c15]; rfl) (by decide) ?_
                              refine q_aload_n C 0 dX9_told_196 rfl ?_
                              refine q_getr (T := TX9) C kM0 iM0 inX9_told_X9 rfl 12 (by decide) (List.mem_of_getElem? (i := 11) rfl) (fun _ h9 => h9) rfl dX9_told_197 ?_
                              refine q_iconst (v := (5 : Int32)) C dX9_told_200 (by decide) ?_
                              refine q_ialdk C 5 (by decide) (by decide) (by decide) kM4 iM4 dX9_told_201 ?_
                              exact q_iret C hQ dX9_told_202 h
                            · replace h := h.2 c15
                              by_cases c16 : p1 = (14 : Int32)
                              · replace h := h.1 c16
                                refine q_tableIn C 203 dX9_told_1 (by rw [c16]; decide) (by rw [c16]; decide) (by rw [c16]; rfl) (by decide) ?_
                                refine q_aload_n C 0 dX9_told_203 rfl ?_
                                refine q_getr (T := TX9) C kM0 iM0 inX9_told_X9 rfl 12 (by decide) (List.mem_of_getElem? (i := 11) rfl) (fun _ h9 => h9) rfl dX9_told_204 ?_
                                refine q_bipush (v := (6 : Int32)) C dX9_told_207 (by decide) ?_
                                refine q_ialdk C 6 (by decide) (by decide) (by decide) kM4 iM4 dX9_told_209 ?_
                                exact q_iret C hQ dX9_told_210 h
                              · replace h := h.2 c16
                                by_cases c17 : p1 = (15 : Int32)
                                · replace h := h.1 c17
                                  refine q_tableIn C 211 dX9_told_1 (by rw [c17]; decide) (by rw [c17]; decide) (by rw [c17]; rfl) (by decide) ?_
                                  refine q_aload_n C 0 dX9_told_211 rfl ?_
                                  refine q_getr (T := TX9) C kM0 iM0 inX9_told_X9 rfl 12 (by decide) (List.mem_of_getElem? (i := 11) rfl) (fun _ h9 => h9) rfl dX9_told_212 ?_
                                  refine q_bipush (v := (7 : Int32)) C dX9_told_215 (by decide) ?_
                                  refine q_ialdk C 7 (by decide) (by decide) (by decide) kM4 iM4 dX9_told_217 ?_
                                  exact q_iret C hQ dX9_told_218 h
                                · replace h := h.2 c17
                                  by_cases c18 : p1 = (16 : Int32)
                                  · replace h := h.1 c18
                                    refine q_tableIn C 219 dX9_told_1 (by rw [c18]; decide) (by rw [c18]; decide) (by rw [c18]; rfl) (by decide) ?_
                                    refine q_aload_n C 0 dX9_told_219 rfl ?_
                                    refine q_callVi (As := []) (st := []) C (c_X9_tailNow Y σ _ h) gX9_told_X9_tailNow rfl ⟨rfl, nkX9_tailNow⟩ rmOk_X9_told__X9_tailNow kM0 iM0 rfl rfl (Nat.le_of_ble_eq_true rfl) dX9_told_220 rfl (fun x20 σ19 h => ?_)
                                    exact q_iret C hQ dX9_told_223 h
                                  · replace h := h.2 c18
                                    by_cases c21 : p1 = (17 : Int32)
                                    · replace h := h.1 c21
                                      refine q_tableIn C 224 dX9_told_1 (by rw [c21]; decide) (by rw [c21]; decide) (by rw [c21]; rfl) (by decide) ?_
                                      refine q_aload_n C 0 dX9_told_224 rfl ?_
                                      refine q_geti (T := TX9) C kM0 iM0 inX9_told_X9 rfl 35 (by decide) (List.mem_of_getElem? (i := 12) rfl) (fun _ h9 => h9) rfl dX9_told_225 ?_
                                      exact q_iret C hQ dX9_told_228 h
                                    · replace h := h.2 c21
                                      by_cases c22 : p1 = (18 : Int32)
                                      · replace h := h.1 c22
                                        refine q_tableIn C 229 dX9_told_1 (by rw [c22]; decide) (by rw [c22]; decide) (by rw [c22]; rfl) (by decide) ?_
                                        refine q_aload_n C 0 dX9_told_229 rfl ?_
                                        refine q_geti (T := TX9) C kM0 iM0 inX9_told_X9 rfl 38 (by decide) (List.mem_of_getElem? (i := 13) rfl) (fun _ h9 => h9) rfl dX9_told_230 ?_
                                        exact q_iret C hQ dX9_told_233 h
                                      · replace h := h.2 c22
                                        by_cases c23 : p1 = (19 : Int32)
                                        · replace h := h.1 c23
                                          refine q_tableIn C 234 dX9_told_1 (by rw [c23]; decide) (by rw [c23]; decide) (by rw [c23]; rfl) (by decide) ?_
                                          refine q_aload_n C 0 dX9_told_234 rfl ?_
                                          refine q_geti (T := TX9) C kM0 iM0 inX9_told_X9 rfl 42 (by decide) (List.mem_of_getElem? (i := 14) rfl) (fun _ h9 => h9) rfl dX9_told_235 ?_
                                          exact q_iret C hQ dX9_told_238 h
                                        · replace h := h.2 c23
                                          by_cases c24 : p1 = (20 : Int32)
                                          · replace h := h.1 c24
                                            refine q_tableIn C 239 dX9_told_1 (by rw [c24]; decide) (by rw [c24]; decide) (by rw [c24]; rfl) (by decide) ?_
                                            refine q_aload_n C 0 dX9_told_239 rfl ?_
                                            refine q_geti (T := TX9) C kM0 iM0 inX9_told_X9 rfl 31 (by decide) (List.mem_of_getElem? (i := 15) rfl) (fun _ h9 => h9) rfl dX9_told_240 ?_
                                            exact q_iret C hQ dX9_told_243 h
                                          · replace h := h.2 c24
                                            refine q_tableOut C 244 dX9_told_1 (tsw_out (fun k z1 z2 => ?_)) (by decide) ?_
                                            · have z3 : k = 0 ∨ k = 1 ∨ k = 2 ∨ k = 3 ∨ k = 4 ∨ k = 5 ∨ k = 6 ∨ k = 7 ∨ k = 8 ∨ k = 9 ∨ k = 10 ∨ k = 11 ∨ k = 12 ∨ k = 13 ∨ k = 14 ∨ k = 15 ∨ k = 16 ∨ k = 17 ∨ k = 18 ∨ k = 19 ∨ k = 20 := by omega
                                              rcases z3 with rfl | rfl | rfl | rfl | rfl | rfl | rfl | rfl | rfl | rfl | rfl | rfl | rfl | rfl | rfl | rfl | rfl | rfl | rfl | rfl | rfl
                                              · exact ne_ti c1
                                              · exact ne_ti c3
                                              · exact ne_ti c4
                                              · exact ne_ti c5
                                              · exact ne_ti c6
                                              · exact ne_ti c7
                                              · exact ne_ti c8
                                              · exact ne_ti c9
                                              · exact ne_ti c10
                                              · exact ne_ti c11
                                              · exact ne_ti c12
                                              · exact ne_ti c13
                                              · exact ne_ti c14
                                              · exact ne_ti c15
                                              · exact ne_ti c16
                                              · exact ne_ti c17
                                              · exact ne_ti c18
                                              · exact ne_ti c21
                                              · exact ne_ti c22
                                              · exact ne_ti c23
                                              · exact ne_ti c24
                                            · refine q_ldc (v := (-1000000002 : Int32)) C (List.mem_of_getElem? (i := 16) rfl) dX9_told_244 ?_
                                              exact q_iret C hQ dX9_told_246 h
theorem c_X9_told (Y : CY)  (p1 : Int32) (σ : St) (Post : Int32 → St → Prop) (h : w_X9_told p1 σ Post) : Ki SM Y yX9_told wsX9_told rmX9_told [.ref (qa Y 0), .int p1] σ Post :=
  Ki_of (cc := cX9_told) (nL := 2) (ret := (some .int)) (by decide +kernel) rfl (Nat.le_of_ble_eq_true rfl) (fun Z C hQ => b_X9_told C hQ  p1 σ h)
abbrev rmX9_turns : Room := { frames := 1, cells := 0, slots := 0, locals := 25 }
theorem nkX9_turns : NmOk yX9_turns 2 := by decide +kernel
theorem rmOk_X9_turns__X9_in : RmOk rmX9_in rmX9_turns 6 := ⟨rfl, rfl, by decide, by decide⟩
theorem rmOk_X9_turns__X9_size : RmOk rmX9_size rmX9_turns 1 := ⟨rfl, rfl, by decide, by decide⟩
theorem inX9_turns_X9 : ∀ w ∈ u_ws RX9 TX9 47, w ∈ wsX9_turns := fun _ h => List.mem_cons_of_mem _ (List.mem_append_right _ h)
def w_X9_turns (p1 : Int32) (p2 : Int32) (σ : St) (Post : Int32 → St → Prop) : Prop := w_X9_in (p1.toInt64) (0 : Int64) (99 : Int64) σ (fun x2 σ1 => (x2 = 0 → Post (-1000000002 : Int32) σ1) ∧ (¬ x2 = 0 → w_X9_in (p2.toInt64) (0 : Int64) (999 : Int64) σ1 (fun x5 σ4 => (¬ x5 = 0 → ((σ4 0 0) = 0 → Post (-1000000003 : Int32) σ4) ∧ (¬ (σ4 0 0) = 0 → w_X9_size ((σ4 0 2)) σ4 (fun x9 σ8 => Post ((((p1 * x9) * p2) / (100 : Int32))) σ8))) ∧ (x5 = 0 → Post (-1000000002 : Int32) σ4))))
set_option maxHeartbeats 4000000 in
set_option maxRecDepth 100000 in
theorem b_X9_turns {Y : CY} {Z : CZ} (C : cx SM 3 Y Z cX9_turns RX9 wsX9_turns (some .int) rmX9_turns) {Post : Int32 → St → Prop} (hQ : Qi SM Y Z Post)  (p1 : Int32) (p2 : Int32) (σ : St) (h : w_X9_turns p1 p2 σ Post) : WW SM 3 Y Z σ 0 [(0, .ref (qa Y 0)), (1, .int p1), (2, .int p2)] [] := by
  unfold w_X9_turns at h
  refine q_iload_n C 1 dX9_turns_0 rfl ?_
  refine q_i2l C dX9_turns_1 ?_
  refine q_lconst (v := (0 : Int64)) C dX9_turns_2 (by decide) ?_
  refine q_ldc2 (v := (99 : Int64)) C (List.mem_of_getElem? (i := 1) rfl) dX9_turns_3 ?_
  refine q_callSi (As := [.long p1.toInt64, .long (0 : Int64), .long (99 : Int64)]) (st := []) C (c_X9_in Y (p1.toInt64) (0 : Int64) (99 : Int64) σ _ h) gX9_turns_X9_in rfl nkX9_in rmOk_X9_turns__X9_in rfl (Nat.le_of_ble_eq_true rfl) dX9_turns_6 rfl (fun x2 σ1 h => ?_)
  refine q_if_eq C 24 dX9_turns_9 (by decide) (fun c3 => ?_) (fun c3 => ?_)
  · replace h := h.1 c3
    refine q_ldc (v := (-1000000002 : Int32)) C (List.mem_of_getElem? (i := 3) rfl) dX9_turns_24 ?_
    exact q_iret C hQ dX9_turns_26 h
  · replace h := h.2 c3
    refine q_iload_n C 2 dX9_turns_12 rfl ?_
    refine q_i2l C dX9_turns_13 ?_
    refine q_lconst (v := (0 : Int64)) C dX9_turns_14 (by decide) ?_
    refine q_ldc2 (v := (999 : Int64)) C (List.mem_of_getElem? (i := 2) rfl) dX9_turns_15 ?_
    refine q_callSi (As := [.long p2.toInt64, .long (0 : Int64), .long (999 : Int64)]) (st := []) C (c_X9_in Y (p2.toInt64) (0 : Int64) (999 : Int64) σ1 _ h) gX9_turns_X9_in rfl nkX9_in rmOk_X9_turns__X9_in rfl (Nat.le_of_ble_eq_true rfl) dX9_turns_18 rfl (fun x5 σ4 h => ?_)
    refine q_if_ne C 27 dX9_turns_21 (by decide) (fun c6 => ?_) (fun c6 => ?_)
    · replace h := h.1 c6
      refine q_aload_n C 0 dX9_turns_27 rfl ?_
      refine q_geti (T := TX9) C kM0 iM0 inX9_turns_X9 rfl 0 (by decide) (List.mem_of_getElem? (i := 4) rfl) (fun _ h9 => h9) rfl dX9_turns_28 ?_
      refine q_if_eq C 51 dX9_turns_31 (by decide) (fun c7 => ?_) (fun c7 => ?_)
      · replace h := h.1 c7
        refine q_ldc (v := (-1000000003 : Int32)) C (List.mem_of_getElem? (i := 6) rfl) dX9_turns_51 ?_
        exact q_iret C hQ dX9_turns_53 h
      · replace h := h.2 c7
        refine q_iload_n C 1 dX9_turns_34 rfl ?_
        refine q_aload_n C 0 dX9_turns_35 rfl ?_
        refine q_geti (T := TX9) C kM0 iM0 inX9_turns_X9 rfl 2 (by decide) (List.mem_of_getElem? (i := 5) rfl) (fun _ h9 => h9) rfl dX9_turns_36 ?_
        refine q_callSi (As := [.int (σ4 0 2)]) (st := [.int p1]) C (c_X9_size Y ((σ4 0 2)) σ4 _ h) gX9_turns_X9_size rfl nkX9_size rmOk_X9_turns__X9_size rfl (Nat.le_of_ble_eq_true rfl) dX9_turns_39 rfl (fun x9 σ8 h => ?_)
        refine q_imul C dX9_turns_42 ?_
        refine q_iload_n C 2 dX9_turns_43 rfl ?_
        refine q_imul C dX9_turns_44 ?_
        refine q_bipush (v := (100 : Int32)) C dX9_turns_45 (by decide) ?_
        refine q_idiv C dX9_turns_47 (by decide) ?_
        refine q_goto C 53 dX9_turns_48 (by decide) ?_
        exact q_iret C hQ dX9_turns_53 h
    · replace h := h.2 c6
      refine q_ldc (v := (-1000000002 : Int32)) C (List.mem_of_getElem? (i := 3) rfl) dX9_turns_24 ?_
      exact q_iret C hQ dX9_turns_26 h
theorem c_X9_turns (Y : CY)  (p1 : Int32) (p2 : Int32) (σ : St) (Post : Int32 → St → Prop) (h : w_X9_turns p1 p2 σ Post) : Ki SM Y yX9_turns wsX9_turns rmX9_turns [.ref (qa Y 0), .int p1, .int p2] σ Post :=
  Ki_of (cc := cX9_turns) (nL := 3) (ret := (some .int)) (by decide +kernel) rfl (Nat.le_of_ble_eq_true rfl) (fun Z C hQ => b_X9_turns C hQ  p1 p2 σ h)
abbrev rmX9_undo : Room := { frames := 0, cells := 0, slots := 0, locals := 0 }
theorem nkX9_undo : NmOk yX9_undo 0 := by decide +kernel
theorem inX9_undo_X9 : ∀ w ∈ u_ws RX9 TX9 47, w ∈ wsX9_undo := fun _ h => List.mem_cons_of_mem _ (List.mem_append_right _ h)
def w_X9_undo_B22 (Post : Int32 → St → Prop) (K22 : Int32 → St → Prop) (v1 : Int32) (σ : St) : Prop := ((12 : Int32) ≤ v1 → Post ((σ 0 31)) σ) ∧ (¬ (12 : Int32) ≤ v1 → (vp_in (((12 : Int32) * (σ 0 31)) + v1) 240) ∧ ((vp_in v1 12) ∧ (∀ σ5 : St, σ5 = up σ 4 v1.toNatClampNeg ((σ 12 (((12 : Int32) * (σ 0 31)) + v1).toNatClampNeg)) → ∀ x6 : Int32, x6 = v1 + (1 : Int32) → K22 x6 σ5)))
def w_X9_undo_L22 (Post : Int32 → St → Prop) : Nat → Int32 → St → Prop
  | 0 => fun _ _ => False
  | n + 1 => w_X9_undo_B22   Post (w_X9_undo_L22   Post n)
def w_X9_undo (σ : St) (Post : Int32 → St → Prop) : Prop := (¬ (σ 0 31) = 0 → ∀ σ2 : St, σ2 = up σ 0 31 (((σ 0 31) - (1 : Int32))) → w_X9_undo_L22 Post FU (0 : Int32) σ2) ∧ ((σ 0 31) = 0 → Post (-1000000003 : Int32) σ)
set_option maxHeartbeats 4000000 in
set_option maxRecDepth 100000 in
theorem b_X9_undo_B22 {Y : CY} {Z : CZ} (C : cx SM 2 Y Z cX9_undo RX9 wsX9_undo (some .int) rmX9_undo) {Post : Int32 → St → Prop} (hQ : Qi SM Y Z Post)  {K22 : Int32 → St → Prop} (hK22 : ∀ (v1 : Int32) (σ : St), K22 v1 σ → WW SM 2 Y Z σ 22 [(0, .ref (qa Y 0)), (1, .int v1)] []) (v1 : Int32) (σ : St) (h : w_X9_undo_B22  Post K22 v1 σ) : WW SM 2 Y Z σ 22 [(0, .ref (qa Y 0)), (1, .int v1)] [] := by
  unfold w_X9_undo_B22 at h
  refine q_iload_n C 1 dX9_undo_22 rfl ?_
  refine q_bipush (v := (12 : Int32)) C dX9_undo_23 (by decide) ?_
  refine q_icmp_ge C 54 dX9_undo_25 (by decide) (fun c3 => ?_) (fun c3 => ?_)
  · replace h := h.1 c3
    refine q_aload_n C 0 dX9_undo_54 rfl ?_
    refine q_geti (T := TX9) C kM0 iM0 inX9_undo_X9 rfl 31 (by decide) (List.mem_of_getElem? (i := 1) rfl) (fun _ h9 => h9) rfl dX9_undo_55 ?_
    exact q_iret C hQ dX9_undo_58 h
  · replace h := h.2 c3
    refine q_aload_n C 0 dX9_undo_28 rfl ?_
    refine q_getr (T := TX9) C kM0 iM0 inX9_undo_X9 rfl 12 (by decide) (List.mem_of_getElem? (i := 3) rfl) (fun _ h9 => h9) rfl dX9_undo_29 ?_
    refine q_iload_n C 1 dX9_undo_32 rfl ?_
    refine q_aload_n C 0 dX9_undo_33 rfl ?_
    refine q_getr (T := TX9) C kM0 iM0 inX9_undo_X9 rfl 32 (by decide) (List.mem_of_getElem? (i := 4) rfl) (fun _ h9 => h9) rfl dX9_undo_34 ?_
    refine q_bipush (v := (12 : Int32)) C dX9_undo_37 (by decide) ?_
    refine q_aload_n C 0 dX9_undo_39 rfl ?_
    refine q_geti (T := TX9) C kM0 iM0 inX9_undo_X9 rfl 31 (by decide) (List.mem_of_getElem? (i := 1) rfl) (fun _ h9 => h9) rfl dX9_undo_40 ?_
    refine q_imul C dX9_undo_43 ?_
    refine q_iload_n C 1 dX9_undo_44 rfl ?_
    refine q_iadd C dX9_undo_45 ?_
    obtain ⟨g4, h⟩ := h
    refine q_iald C kM12 iM12 g4 dX9_undo_46 ?_
    obtain ⟨g7, h⟩ := h
    refine q_iast C kM4 iM4 g7 dX9_undo_47 ?_
    refine q_nmS (fun σ5 eσ5 => ?_)
    replace h := h σ5 eσ5
    obtain ⟨x6, ex6⟩ : ∃ y : Int32, y = v1 + (1 : Int32) := ⟨_, rfl⟩
    replace h := h x6 ex6
    refine q_iinc C x6 1 [(1, .int x6), (0, .ref (qa Y 0))] dX9_undo_48 rfl (by rw [ex6]; rfl) (by decide) rfl ?_
    refine q_goto C 22 dX9_undo_51 (by decide) ?_
    refine q_sub (lv' := [(0, .ref (qa Y 0)), (1, .int x6)]) [1, 0] rfl ?_
    exact hK22 x6 σ5 h
theorem b_X9_undo_L22 {Y : CY} {Z : CZ} (C : cx SM 2 Y Z cX9_undo RX9 wsX9_undo (some .int) rmX9_undo) {Post : Int32 → St → Prop} (hQ : Qi SM Y Z Post)  : ∀ (n : Nat) (v1 : Int32) (σ : St) (h : w_X9_undo_L22  Post n v1 σ), WW SM 2 Y Z σ 22 [(0, .ref (qa Y 0)), (1, .int v1)] [] := by
  intro n
  induction n with
  | zero => intro v1 σ h; exact h.elim
  | succ n ih => intro v1 σ h; exact b_X9_undo_B22 C hQ  ih v1 σ h
set_option maxHeartbeats 4000000 in
set_option maxRecDepth 100000 in
theorem b_X9_undo {Y : CY} {Z : CZ} (C : cx SM 2 Y Z cX9_undo RX9 wsX9_undo (some .int) rmX9_undo) {Post : Int32 → St → Prop} (hQ : Qi SM Y Z Post)  (σ : St) (h : w_X9_undo  σ Post) : WW SM 2 Y Z σ 0 [(0, .ref (qa Y 0))] [] := by
  unfold w_X9_undo at h
  refine q_aload_n C 0 dX9_undo_0 rfl ?_
  refine q_geti (T := TX9) C kM0 iM0 inX9_undo_X9 rfl 31 (by decide) (List.mem_of_getElem? (i := 1) rfl) (fun _ h9 => h9) rfl dX9_undo_1 ?_
  refine q_if_ne C 10 dX9_undo_4 (by decide) (fun c1 => ?_) (fun c1 => ?_)
  · replace h := h.1 c1
    refine q_aload_n C 0 dX9_undo_10 rfl ?_
    refine q_dup C dX9_undo_11 rfl ?_
    refine q_geti (T := TX9) C kM0 iM0 inX9_undo_X9 rfl 31 (by decide) (List.mem_of_getElem? (i := 1) rfl) (fun _ h9 => h9) rfl dX9_undo_12 ?_
    refine q_iconst (v := (1 : Int32)) C dX9_undo_15 (by decide) ?_
    refine q_isub C dX9_undo_16 ?_
    refine q_puti (T := TX9) C kM0 iM0 inX9_undo_X9 rfl tyX9 tyX9_ok nmX9 31 (by decide) (List.mem_of_getElem? (i := 1) rfl) (fun _ h9 => h9) rfl dgM0 rfl (ni_n _) (ni_f _) dX9_undo_17 ?_
    refine q_nmS (fun σ2 eσ2 => ?_)
    replace h := h σ2 eσ2
    refine q_iconst (v := (0 : Int32)) C dX9_undo_20 (by decide) ?_
    refine q_istore_n C [(1, .int (0 : Int32)), (0, .ref (qa Y 0))] dX9_undo_21 (by decide) rfl ?_
    refine q_sub (lv' := [(0, .ref (qa Y 0)), (1, .int (0 : Int32))]) [1, 0] rfl ?_
    exact b_X9_undo_L22 C hQ FU (0 : Int32) σ2 h
  · replace h := h.2 c1
    refine q_ldc (v := (-1000000003 : Int32)) C (List.mem_of_getElem? (i := 2) rfl) dX9_undo_7 ?_
    exact q_iret C hQ dX9_undo_9 h
theorem c_X9_undo (Y : CY)  (σ : St) (Post : Int32 → St → Prop) (h : w_X9_undo  σ Post) : Ki SM Y yX9_undo wsX9_undo rmX9_undo [.ref (qa Y 0)] σ Post :=
  Ki_of (cc := cX9_undo) (nL := 2) (ret := (some .int)) (by decide +kernel) rfl (Nat.le_of_ble_eq_true rfl) (fun Z C hQ => b_X9_undo C hQ  σ h)
abbrev rmX9_where : Room := { frames := 2, cells := 0, slots := 0, locals := 42 }
theorem nkX9_where : NmOk yX9_where 2 := by decide +kernel
theorem rmOk_X9_where__X9_in : RmOk rmX9_in rmX9_where 6 := ⟨rfl, rfl, by decide, by decide⟩
theorem rmOk_X9_where__X9_pass : RmOk rmX9_pass rmX9_where 2 := ⟨rfl, rfl, by decide, by decide⟩
theorem rmOk_X9_where__X9_putBack : RmOk rmX9_putBack rmX9_where 2 := ⟨rfl, rfl, by decide, by decide⟩
theorem rmOk_X9_where__X9_save : RmOk rmX9_save rmX9_where 2 := ⟨rfl, rfl, by decide, by decide⟩
theorem inX9_where_X9 : ∀ w ∈ u_ws RX9 TX9 47, w ∈ wsX9_where := fun _ h => List.mem_cons_of_mem _ (List.mem_append_right _ h)
def w_X9_where_J65 (Post : Int32 → St → Prop) (v2 : Int32) (σ : St) : Prop := (vp_in ((1 : Int32) + v2) 12) ∧ (∀ x14 : Int32, x14 = ((σ 4 ((1 : Int32) + v2).toNatClampNeg) + (10000 : Int32)) → w_X9_putBack σ (fun σ15 => Post x14 σ15))
def w_X9_where_B41 (Post : Int32 → St → Prop) (K41 : Int32 → Int32 → Int32 → St → Prop) (v1 : Int32) (v2 : Int32) (v3 : Int32) (σ : St) : Prop := (v1 ≤ v3 → w_X9_where_J65 Post v2 σ) ∧ (¬ v1 ≤ v3 → (¬ (σ 4 5) = 0 → w_X9_where_J65 Post v2 σ) ∧ ((σ 4 5) = 0 → w_X9_pass σ (fun σ11 => ∀ x12 : Int32, x12 = v3 + (1 : Int32) → K41 v1 v2 x12 σ11)))
def w_X9_where_L41 (Post : Int32 → St → Prop) : Nat → Int32 → Int32 → Int32 → St → Prop
  | 0 => fun _ _ _ _ => False
  | n + 1 => w_X9_where_B41   Post (w_X9_where_L41   Post n)
def w_X9_where (p1 : Int32) (p2 : Int32) (σ : St) (Post : Int32 → St → Prop) : Prop := w_X9_in (p1.toInt64) (0 : Int64) (999 : Int64) σ (fun x2 σ1 => (x2 = 0 → Post (-1000000002 : Int32) σ1) ∧ (¬ x2 = 0 → w_X9_in (p2.toInt64) (0 : Int64) (1 : Int64) σ1 (fun x5 σ4 => (¬ x5 = 0 → (¬ (σ4 0 0) = 0 → w_X9_save σ4 (fun σ8 => w_X9_where_L41 Post FU p1 p2 (0 : Int32) σ8)) ∧ ((σ4 0 0) = 0 → Post (-1000000003 : Int32) σ4)) ∧ (x5 = 0 → Post (-1000000002 : Int32) σ4))))
set_option maxHeartbeats 4000000 in
set_option maxRecDepth 100000 in
theorem b_X9_where_J65 {Y : CY} {Z : CZ} (C : cx SM 4 Y Z cX9_where RX9 wsX9_where (some .int) rmX9_where) {Post : Int32 → St → Prop} (hQ : Qi SM Y Z Post)  (v2 : Int32) (σ : St) (h : w_X9_where_J65  Post v2 σ) : WW SM 4 Y Z σ 65 [(0, .ref (qa Y 0)), (2, .int v2)] [] := by
  unfold w_X9_where_J65 at h
  refine q_aload_n C 0 dX9_where_65 rfl ?_
  refine q_getr (T := TX9) C kM0 iM0 inX9_where_X9 rfl 12 (by decide) (List.mem_of_getElem? (i := 5) rfl) (fun _ h9 => h9) rfl dX9_where_66 ?_
  refine q_iconst (v := (1 : Int32)) C dX9_where_69 (by decide) ?_
  refine q_iload_n C 1 dX9_where_70 rfl ?_
  refine q_iadd C dX9_where_71 ?_
  obtain ⟨g13, h⟩ := h
  refine q_iald C kM4 iM4 g13 dX9_where_72 ?_
  refine q_sipush (v := (10000 : Int32)) C dX9_where_73 (by decide) ?_
  refine q_iadd C dX9_where_76 ?_
  refine q_topi (fun x14 ex14 => ?_)
  replace h := h x14 ex14
  refine q_istore_n C [(3, .int x14), (0, .ref (qa Y 0)), (2, .int v2)] dX9_where_77 (by decide) rfl ?_
  refine q_aload_n C 1 dX9_where_78 rfl ?_
  refine q_callVv (As := []) (st := []) C (c_X9_putBack Y σ _ h) gX9_where_X9_putBack rfl ⟨rfl, nkX9_putBack⟩ rmOk_X9_where__X9_putBack kM0 iM0 rfl rfl (Nat.le_of_ble_eq_true rfl) dX9_where_79 rfl (fun σ15 h => ?_)
  refine q_iload_n C 0 dX9_where_82 rfl ?_
  exact q_iret C hQ dX9_where_83 h
set_option maxHeartbeats 4000000 in
set_option maxRecDepth 100000 in
theorem b_X9_where_B41 {Y : CY} {Z : CZ} (C : cx SM 4 Y Z cX9_where RX9 wsX9_where (some .int) rmX9_where) {Post : Int32 → St → Prop} (hQ : Qi SM Y Z Post)  {K41 : Int32 → Int32 → Int32 → St → Prop} (hK41 : ∀ (v1 : Int32) (v2 : Int32) (v3 : Int32) (σ : St), K41 v1 v2 v3 σ → WW SM 4 Y Z σ 41 [(0, .ref (qa Y 0)), (1, .int v1), (2, .int v2), (3, .int v3)] []) (v1 : Int32) (v2 : Int32) (v3 : Int32) (σ : St) (h : w_X9_where_B41  Post K41 v1 v2 v3 σ) : WW SM 4 Y Z σ 41 [(0, .ref (qa Y 0)), (1, .int v1), (2, .int v2), (3, .int v3)] [] := by
  unfold w_X9_where_B41 at h
  refine q_iload_n C 3 dX9_where_41 rfl ?_
  refine q_iload_n C 1 dX9_where_42 rfl ?_
  refine q_icmp_ge C 65 dX9_where_43 (by decide) (fun c9 => ?_) (fun c9 => ?_)
  · replace h := h.1 c9
    refine q_sub (lv' := [(0, .ref (qa Y 0)), (2, .int v2)]) [0, 2] rfl ?_
    exact b_X9_where_J65 C hQ v2 σ h
  · replace h := h.2 c9
    refine q_aload_n C 0 dX9_where_46 rfl ?_
    refine q_getr (T := TX9) C kM0 iM0 inX9_where_X9 rfl 12 (by decide) (List.mem_of_getElem? (i := 5) rfl) (fun _ h9 => h9) rfl dX9_where_47 ?_
    refine q_iconst (v := (5 : Int32)) C dX9_where_50 (by decide) ?_
    refine q_ialdk C 5 (by decide) (by decide) (by decide) kM4 iM4 dX9_where_51 ?_
    refine q_if_ne C 65 dX9_where_52 (by decide) (fun c10 => ?_) (fun c10 => ?_)
    · replace h := h.1 c10
      refine q_sub (lv' := [(0, .ref (qa Y 0)), (2, .int v2)]) [0, 2] rfl ?_
      exact b_X9_where_J65 C hQ v2 σ h
    · replace h := h.2 c10
      refine q_aload_n C 0 dX9_where_55 rfl ?_
      refine q_callVv (As := []) (st := []) C (c_X9_pass Y σ _ h) gX9_where_X9_pass rfl ⟨rfl, nkX9_pass⟩ rmOk_X9_where__X9_pass kM0 iM0 rfl rfl (Nat.le_of_ble_eq_true rfl) dX9_where_56 rfl (fun σ11 h => ?_)
      obtain ⟨x12, ex12⟩ : ∃ y : Int32, y = v3 + (1 : Int32) := ⟨_, rfl⟩
      replace h := h x12 ex12
      refine q_iinc C x12 3 [(3, .int x12), (0, .ref (qa Y 0)), (1, .int v1), (2, .int v2)] dX9_where_59 rfl (by rw [ex12]; rfl) (by decide) rfl ?_
      refine q_goto C 41 dX9_where_62 (by decide) ?_
      refine q_sub (lv' := [(0, .ref (qa Y 0)), (1, .int v1), (2, .int v2), (3, .int x12)]) [1, 2, 3, 0] rfl ?_
      exact hK41 v1 v2 x12 σ11 h
theorem b_X9_where_L41 {Y : CY} {Z : CZ} (C : cx SM 4 Y Z cX9_where RX9 wsX9_where (some .int) rmX9_where) {Post : Int32 → St → Prop} (hQ : Qi SM Y Z Post)  : ∀ (n : Nat) (v1 : Int32) (v2 : Int32) (v3 : Int32) (σ : St) (h : w_X9_where_L41  Post n v1 v2 v3 σ), WW SM 4 Y Z σ 41 [(0, .ref (qa Y 0)), (1, .int v1), (2, .int v2), (3, .int v3)] [] := by
  intro n
  induction n with
  | zero => intro v1 v2 v3 σ h; exact h.elim
  | succ n ih => intro v1 v2 v3 σ h; exact b_X9_where_B41 C hQ  ih v1 v2 v3 σ h
set_option maxHeartbeats 4000000 in
set_option maxRecDepth 100000 in
theorem b_X9_where {Y : CY} {Z : CZ} (C : cx SM 4 Y Z cX9_where RX9 wsX9_where (some .int) rmX9_where) {Post : Int32 → St → Prop} (hQ : Qi SM Y Z Post)  (p1 : Int32) (p2 : Int32) (σ : St) (h : w_X9_where p1 p2 σ Post) : WW SM 4 Y Z σ 0 [(0, .ref (qa Y 0)), (1, .int p1), (2, .int p2)] [] := by
  unfold w_X9_where at h
  refine q_iload_n C 1 dX9_where_0 rfl ?_
  refine q_i2l C dX9_where_1 ?_
  refine q_lconst (v := (0 : Int64)) C dX9_where_2 (by decide) ?_
  refine q_ldc2 (v := (999 : Int64)) C (List.mem_of_getElem? (i := 1) rfl) dX9_where_3 ?_
  refine q_callSi (As := [.long p1.toInt64, .long (0 : Int64), .long (999 : Int64)]) (st := []) C (c_X9_in Y (p1.toInt64) (0 : Int64) (999 : Int64) σ _ h) gX9_where_X9_in rfl nkX9_in rmOk_X9_where__X9_in rfl (Nat.le_of_ble_eq_true rfl) dX9_where_6 rfl (fun x2 σ1 h => ?_)
  refine q_if_eq C 22 dX9_where_9 (by decide) (fun c3 => ?_) (fun c3 => ?_)
  · replace h := h.1 c3
    refine q_ldc (v := (-1000000002 : Int32)) C (List.mem_of_getElem? (i := 2) rfl) dX9_where_22 ?_
    exact q_iret C hQ dX9_where_24 h
  · replace h := h.2 c3
    refine q_iload_n C 2 dX9_where_12 rfl ?_
    refine q_i2l C dX9_where_13 ?_
    refine q_lconst (v := (0 : Int64)) C dX9_where_14 (by decide) ?_
    refine q_lconst (v := (1 : Int64)) C dX9_where_15 (by decide) ?_
    refine q_callSi (As := [.long p2.toInt64, .long (0 : Int64), .long (1 : Int64)]) (st := []) C (c_X9_in Y (p2.toInt64) (0 : Int64) (1 : Int64) σ1 _ h) gX9_where_X9_in rfl nkX9_in rmOk_X9_where__X9_in rfl (Nat.le_of_ble_eq_true rfl) dX9_where_16 rfl (fun x5 σ4 h => ?_)
    refine q_if_ne C 25 dX9_where_19 (by decide) (fun c6 => ?_) (fun c6 => ?_)
    · replace h := h.1 c6
      refine q_aload_n C 0 dX9_where_25 rfl ?_
      refine q_geti (T := TX9) C kM0 iM0 inX9_where_X9 rfl 0 (by decide) (List.mem_of_getElem? (i := 3) rfl) (fun _ h9 => h9) rfl dX9_where_26 ?_
      refine q_if_ne C 35 dX9_where_29 (by decide) (fun c7 => ?_) (fun c7 => ?_)
      · replace h := h.1 c7
        refine q_aload_n C 0 dX9_where_35 rfl ?_
        refine q_callVv (As := []) (st := []) C (c_X9_save Y σ4 _ h) gX9_where_X9_save rfl ⟨rfl, nkX9_save⟩ rmOk_X9_where__X9_save kM0 iM0 rfl rfl (Nat.le_of_ble_eq_true rfl) dX9_where_36 rfl (fun σ8 h => ?_)
        refine q_iconst (v := (0 : Int32)) C dX9_where_39 (by decide) ?_
        refine q_istore_n C [(3, .int (0 : Int32)), (0, .ref (qa Y 0)), (1, .int p1), (2, .int p2)] dX9_where_40 (by decide) rfl ?_
        refine q_sub (lv' := [(0, .ref (qa Y 0)), (1, .int p1), (2, .int p2), (3, .int (0 : Int32))]) [1, 2, 3, 0] rfl ?_
        exact b_X9_where_L41 C hQ FU p1 p2 (0 : Int32) σ8 h
      · replace h := h.2 c7
        refine q_ldc (v := (-1000000003 : Int32)) C (List.mem_of_getElem? (i := 4) rfl) dX9_where_32 ?_
        exact q_iret C hQ dX9_where_34 h
    · replace h := h.2 c6
      refine q_ldc (v := (-1000000002 : Int32)) C (List.mem_of_getElem? (i := 2) rfl) dX9_where_22 ?_
      exact q_iret C hQ dX9_where_24 h
theorem c_X9_where (Y : CY)  (p1 : Int32) (p2 : Int32) (σ : St) (Post : Int32 → St → Prop) (h : w_X9_where p1 p2 σ Post) : Ki SM Y yX9_where wsX9_where rmX9_where [.ref (qa Y 0), .int p1, .int p2] σ Post :=
  Ki_of (cc := cX9_where) (nL := 4) (ret := (some .int)) (by decide +kernel) rfl (Nat.le_of_ble_eq_true rfl) (fun Z C hQ => b_X9_where C hQ  p1 p2 σ h)
abbrev rmX9_worm : Room := { frames := 1, cells := 0, slots := 0, locals := 25 }
theorem nkX9_worm : NmOk yX9_worm 1 := by decide +kernel
theorem rmOk_X9_worm__X9_in : RmOk rmX9_in rmX9_worm 6 := ⟨rfl, rfl, by decide, by decide⟩
theorem inX9_worm_X9 : ∀ w ∈ u_ws RX9 TX9 47, w ∈ wsX9_worm := fun _ h => List.mem_cons_of_mem _ (List.mem_append_right _ h)
def w_X9_worm (p1 : Int32) (σ : St) (Post : Int32 → St → Prop) : Prop := w_X9_in (p1.toInt64) (0 : Int64) (((σ 0 4) - (1 : Int32)).toInt64) σ (fun x2 σ1 => (x2 = 0 → Post (-1000000002 : Int32) σ1) ∧ (¬ x2 = 0 → (vp_in p1 9) ∧ (Post (((σ1 1 p1.toNatClampNeg) + (9 : Int32))) σ1)))
set_option maxHeartbeats 4000000 in
set_option maxRecDepth 100000 in
theorem b_X9_worm {Y : CY} {Z : CZ} (C : cx SM 2 Y Z cX9_worm RX9 wsX9_worm (some .int) rmX9_worm) {Post : Int32 → St → Prop} (hQ : Qi SM Y Z Post)  (p1 : Int32) (σ : St) (h : w_X9_worm p1 σ Post) : WW SM 2 Y Z σ 0 [(0, .ref (qa Y 0)), (1, .int p1)] [] := by
  unfold w_X9_worm at h
  refine q_iload_n C 1 dX9_worm_0 rfl ?_
  refine q_i2l C dX9_worm_1 ?_
  refine q_lconst (v := (0 : Int64)) C dX9_worm_2 (by decide) ?_
  refine q_aload_n C 0 dX9_worm_3 rfl ?_
  refine q_geti (T := TX9) C kM0 iM0 inX9_worm_X9 rfl 4 (by decide) (List.mem_of_getElem? (i := 1) rfl) (fun _ h9 => h9) rfl dX9_worm_4 ?_
  refine q_iconst (v := (1 : Int32)) C dX9_worm_7 (by decide) ?_
  refine q_isub C dX9_worm_8 ?_
  refine q_i2l C dX9_worm_9 ?_
  refine q_callSi (As := [.long p1.toInt64, .long (0 : Int64), .long ((σ 0 4) - (1 : Int32)).toInt64]) (st := []) C (c_X9_in Y (p1.toInt64) (0 : Int64) (((σ 0 4) - (1 : Int32)).toInt64) σ _ h) gX9_worm_X9_in rfl nkX9_in rmOk_X9_worm__X9_in rfl (Nat.le_of_ble_eq_true rfl) dX9_worm_10 rfl (fun x2 σ1 h => ?_)
  refine q_if_eq C 28 dX9_worm_13 (by decide) (fun c3 => ?_) (fun c3 => ?_)
  · replace h := h.1 c3
    refine q_ldc (v := (-1000000002 : Int32)) C (List.mem_of_getElem? (i := 3) rfl) dX9_worm_28 ?_
    exact q_iret C hQ dX9_worm_30 h
  · replace h := h.2 c3
    refine q_aload_n C 0 dX9_worm_16 rfl ?_
    refine q_getr (T := TX9) C kM0 iM0 inX9_worm_X9 rfl 5 (by decide) (List.mem_of_getElem? (i := 2) rfl) (fun _ h9 => h9) rfl dX9_worm_17 ?_
    refine q_iload_n C 1 dX9_worm_20 rfl ?_
    obtain ⟨g4, h⟩ := h
    refine q_iald C kM1 iM1 g4 dX9_worm_21 ?_
    refine q_bipush (v := (9 : Int32)) C dX9_worm_22 (by decide) ?_
    refine q_iadd C dX9_worm_24 ?_
    refine q_goto C 30 dX9_worm_25 (by decide) ?_
    exact q_iret C hQ dX9_worm_30 h
theorem c_X9_worm (Y : CY)  (p1 : Int32) (σ : St) (Post : Int32 → St → Prop) (h : w_X9_worm p1 σ Post) : Ki SM Y yX9_worm wsX9_worm rmX9_worm [.ref (qa Y 0), .int p1] σ Post :=
  Ki_of (cc := cX9_worm) (nL := 2) (ret := (some .int)) (by decide +kernel) rfl (Nat.le_of_ble_eq_true rfl) (fun Z C hQ => b_X9_worm C hQ  p1 σ h)
abbrev rmX9_write : Room := { frames := 1, cells := 0, slots := 0, locals := 25 }
theorem nkX9_write : NmOk yX9_write 2 := by decide +kernel
theorem rmOk_X9_write__X9_in : RmOk rmX9_in rmX9_write 6 := ⟨rfl, rfl, by decide, by decide⟩
theorem inX9_write_X9 : ∀ w ∈ u_ws RX9 TX9 47, w ∈ wsX9_write := fun _ h => List.mem_cons_of_mem _ (List.mem_append_right _ h)
def w_X9_write (p1 : Int32) (p2 : Int32) (σ : St) (Post : Int32 → St → Prop) : Prop := w_X9_in (p1.toInt64) (-2000 : Int64) (2000 : Int64) σ (fun x2 σ1 => (x2 = 0 → Post (-1000000002 : Int32) σ1) ∧ (¬ x2 = 0 → w_X9_in (p2.toInt64) (-2000 : Int64) (2000 : Int64) σ1 (fun x5 σ4 => (¬ x5 = 0 → (¬ (σ4 0 42) = (15 : Int32) → (vp_in (σ4 0 42) 15) ∧ (∀ σ8 : St, σ8 = up σ4 19 (σ4 0 42).toNatClampNeg p1 → (vp_in (σ8 0 42) 15) ∧ (∀ σ9 : St, σ9 = up σ8 20 (σ8 0 42).toNatClampNeg p2 → ∀ σ10 : St, σ10 = up σ9 0 42 (((σ9 0 42) + (1 : Int32))) → Post ((σ10 0 42)) σ10))) ∧ ((σ4 0 42) = (15 : Int32) → Post (-1000000004 : Int32) σ4)) ∧ (x5 = 0 → Post (-1000000002 : Int32) σ4))))
set_option maxHeartbeats 4000000 in
set_option maxRecDepth 100000 in
theorem b_X9_write {Y : CY} {Z : CZ} (C : cx SM 3 Y Z cX9_write RX9 wsX9_write (some .int) rmX9_write) {Post : Int32 → St → Prop} (hQ : Qi SM Y Z Post)  (p1 : Int32) (p2 : Int32) (σ : St) (h : w_X9_write p1 p2 σ Post) : WW SM 3 Y Z σ 0 [(0, .ref (qa Y 0)), (1, .int p1), (2, .int p2)] [] := by
  unfold w_X9_write at h
  refine q_iload_n C 1 dX9_write_0 rfl ?_
  refine q_i2l C dX9_write_1 ?_
  refine q_ldc2 (v := (-2000 : Int64)) C (List.mem_of_getElem? (i := 1) rfl) dX9_write_2 ?_
  refine q_ldc2 (v := (2000 : Int64)) C (List.mem_of_getElem? (i := 2) rfl) dX9_write_5 ?_
  refine q_callSi (As := [.long p1.toInt64, .long (-2000 : Int64), .long (2000 : Int64)]) (st := []) C (c_X9_in Y (p1.toInt64) (-2000 : Int64) (2000 : Int64) σ _ h) gX9_write_X9_in rfl nkX9_in rmOk_X9_write__X9_in rfl (Nat.le_of_ble_eq_true rfl) dX9_write_8 rfl (fun x2 σ1 h => ?_)
  refine q_if_eq C 28 dX9_write_11 (by decide) (fun c3 => ?_) (fun c3 => ?_)
  · replace h := h.1 c3
    refine q_ldc (v := (-1000000002 : Int32)) C (List.mem_of_getElem? (i := 3) rfl) dX9_write_28 ?_
    exact q_iret C hQ dX9_write_30 h
  · replace h := h.2 c3
    refine q_iload_n C 2 dX9_write_14 rfl ?_
    refine q_i2l C dX9_write_15 ?_
    refine q_ldc2 (v := (-2000 : Int64)) C (List.mem_of_getElem? (i := 1) rfl) dX9_write_16 ?_
    refine q_ldc2 (v := (2000 : Int64)) C (List.mem_of_getElem? (i := 2) rfl) dX9_write_19 ?_
    refine q_callSi (As := [.long p2.toInt64, .long (-2000 : Int64), .long (2000 : Int64)]) (st := []) C (c_X9_in Y (p2.toInt64) (-2000 : Int64) (2000 : Int64) σ1 _ h) gX9_write_X9_in rfl nkX9_in rmOk_X9_write__X9_in rfl (Nat.le_of_ble_eq_true rfl) dX9_write_22 rfl (fun x5 σ4 h => ?_)
    refine q_if_ne C 31 dX9_write_25 (by decide) (fun c6 => ?_) (fun c6 => ?_)
    · replace h := h.1 c6
      refine q_aload_n C 0 dX9_write_31 rfl ?_
      refine q_geti (T := TX9) C kM0 iM0 inX9_write_X9 rfl 42 (by decide) (List.mem_of_getElem? (i := 4) rfl) (fun _ h9 => h9) rfl dX9_write_32 ?_
      refine q_bipush (v := (15 : Int32)) C dX9_write_35 (by decide) ?_
      refine q_icmp_ne C 43 dX9_write_37 (by decide) (fun c7 => ?_) (fun c7 => ?_)
      · replace h := h.1 c7
        refine q_aload_n C 0 dX9_write_43 rfl ?_
        refine q_getr (T := TX9) C kM0 iM0 inX9_write_X9 rfl 43 (by decide) (List.mem_of_getElem? (i := 6) rfl) (fun _ h9 => h9) rfl dX9_write_44 ?_
        refine q_aload_n C 0 dX9_write_47 rfl ?_
        refine q_geti (T := TX9) C kM0 iM0 inX9_write_X9 rfl 42 (by decide) (List.mem_of_getElem? (i := 4) rfl) (fun _ h9 => h9) rfl dX9_write_48 ?_
        refine q_iload_n C 1 dX9_write_51 rfl ?_
        obtain ⟨g12, h⟩ := h
        refine q_iast C kM19 iM19 g12 dX9_write_52 ?_
        refine q_nmS (fun σ8 eσ8 => ?_)
        replace h := h σ8 eσ8
        refine q_aload_n C 0 dX9_write_53 rfl ?_
        refine q_getr (T := TX9) C kM0 iM0 inX9_write_X9 rfl 44 (by decide) (List.mem_of_getElem? (i := 7) rfl) (fun _ h9 => h9) rfl dX9_write_54 ?_
        refine q_aload_n C 0 dX9_write_57 rfl ?_
        refine q_geti (T := TX9) C kM0 iM0 inX9_write_X9 rfl 42 (by decide) (List.mem_of_getElem? (i := 4) rfl) (fun _ h9 => h9) rfl dX9_write_58 ?_
        refine q_iload_n C 2 dX9_write_61 rfl ?_
        obtain ⟨g11, h⟩ := h
        refine q_iast C kM20 iM20 g11 dX9_write_62 ?_
        refine q_nmS (fun σ9 eσ9 => ?_)
        replace h := h σ9 eσ9
        refine q_aload_n C 0 dX9_write_63 rfl ?_
        refine q_dup C dX9_write_64 rfl ?_
        refine q_geti (T := TX9) C kM0 iM0 inX9_write_X9 rfl 42 (by decide) (List.mem_of_getElem? (i := 4) rfl) (fun _ h9 => h9) rfl dX9_write_65 ?_
        refine q_iconst (v := (1 : Int32)) C dX9_write_68 (by decide) ?_
        refine q_iadd C dX9_write_69 ?_
        refine q_puti (T := TX9) C kM0 iM0 inX9_write_X9 rfl tyX9 tyX9_ok nmX9 42 (by decide) (List.mem_of_getElem? (i := 4) rfl) (fun _ h9 => h9) rfl dgM0 rfl (ni_n _) (ni_f _) dX9_write_70 ?_
        refine q_nmS (fun σ10 eσ10 => ?_)
        replace h := h σ10 eσ10
        refine q_aload_n C 0 dX9_write_73 rfl ?_
        refine q_geti (T := TX9) C kM0 iM0 inX9_write_X9 rfl 42 (by decide) (List.mem_of_getElem? (i := 4) rfl) (fun _ h9 => h9) rfl dX9_write_74 ?_
        exact q_iret C hQ dX9_write_77 h
      · replace h := h.2 c7
        refine q_ldc (v := (-1000000004 : Int32)) C (List.mem_of_getElem? (i := 5) rfl) dX9_write_40 ?_
        exact q_iret C hQ dX9_write_42 h
    · replace h := h.2 c6
      refine q_ldc (v := (-1000000002 : Int32)) C (List.mem_of_getElem? (i := 3) rfl) dX9_write_28 ?_
      exact q_iret C hQ dX9_write_30 h
theorem c_X9_write (Y : CY)  (p1 : Int32) (p2 : Int32) (σ : St) (Post : Int32 → St → Prop) (h : w_X9_write p1 p2 σ Post) : Ki SM Y yX9_write wsX9_write rmX9_write [.ref (qa Y 0), .int p1, .int p2] σ Post :=
  Ki_of (cc := cX9_write) (nL := 3) (ret := (some .int)) (by decide +kernel) rfl (Nat.le_of_ble_eq_true rfl) (fun Z C hQ => b_X9_write C hQ  p1 p2 σ h)
