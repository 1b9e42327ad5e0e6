abbrev rmX9_in : Room := { frames := 0, cells := 0, slots := 0, locals := 0 }
theorem nkX9_in : NmOk yX9_in 3 := by decide +kernel
def w_X9_in (p1 : Int64) (p2 : Int64) (p3 : Int64) (σ : St) (Post : Int32 → St → Prop) : Prop := ((lg_cmp p1 p2) < 0 → Post (0 : Int32) σ) ∧ (¬ (lg_cmp p1 p2) < 0 → (0 < (lg_cmp p1 p3) → Post (0 : Int32) σ) ∧ (¬ 0 < (lg_cmp p1 p3) → Post (1 : Int32) σ))
set_option maxHeartbeats 4000000 in
set_option maxRecDepth 100000 in
theorem b_X9_in {Y : CY} {Z : CZ} (C : cx SM 6 Y Z cX9_in RX9 wsX9_in (some .boolean) rmX9_in) {Post : Int32 → St → Prop} (hQ : Qi SM Y Z Post)  (p1 : Int64) (p2 : Int64) (p3 : Int64) (σ : St) (h : w_X9_in p1 p2 p3 σ Post) : WW SM 6 Y Z σ 0 [(0, .long p1), (2, .long p2), (4, .long p3)] [] := by
  unfold w_X9_in at h
  refine q_lload_n C 0 dX9_in_0 rfl ?_
  refine q_lload_n C 1 dX9_in_1 rfl ?_
  refine q_lcmp C dX9_in_2 ?_
  refine q_if_lt C 17 dX9_in_3 (by decide) (fun c1 => ?_) (fun c1 => ?_)
  · replace h := h.1 c1
    refine q_iconst (v := (0 : Int32)) C dX9_in_17 (by decide) ?_
    exact q_zret C hQ (zb_n (by decide)) dX9_in_18 h
  · replace h := h.2 c1
    refine q_lload_n C 0 dX9_in_6 rfl ?_
    refine q_lload C 2 dX9_in_7 rfl ?_
    refine q_lcmp C dX9_in_9 ?_
    refine q_if_gt C 17 dX9_in_10 (by decide) (fun c2 => ?_) (fun c2 => ?_)
    · replace h := h.1 c2
      refine q_iconst (v := (0 : Int32)) C dX9_in_17 (by decide) ?_
      exact q_zret C hQ (zb_n (by decide)) dX9_in_18 h
    · replace h := h.2 c2
      refine q_iconst (v := (1 : Int32)) C dX9_in_13 (by decide) ?_
      refine q_goto C 18 dX9_in_14 (by decide) ?_
      exact q_zret C hQ (zb_n (by decide)) dX9_in_18 h
theorem c_X9_in (Y : CY)  (p1 : Int64) (p2 : Int64) (p3 : Int64) (σ : St) (Post : Int32 → St → Prop) (h : w_X9_in p1 p2 p3 σ Post) : Ki SM Y yX9_in wsX9_in rmX9_in [.long p1, .long p2, .long p3] σ Post :=
  Ki_of (cc := cX9_in) (nL := 6) (ret := (some .boolean)) (by decide +kernel) rfl (Nat.le_of_ble_eq_true rfl) (fun Z C hQ => b_X9_in C hQ  p1 p2 p3 σ h)
abbrev rmX9_jumpOf : Room := { frames := 0, cells := 0, slots := 0, locals := 0 }
theorem nkX9_jumpOf : NmOk yX9_jumpOf 1 := by decide +kernel
theorem inX9_jumpOf_X9 : ∀ w ∈ u_ws RX9 TX9 47, w ∈ wsX9_jumpOf := fun _ h => List.mem_cons_of_mem _ (List.mem_append_right _ h)
def w_X9_jumpOf (p1 : Int32) (σ : St) (Post : Int32 → St → Prop) : Prop := (¬ p1 = (σ 0 6) → Post (0 : Int32) σ) ∧ (p1 = (σ 0 6) → Post ((σ 0 7)) σ)
set_option maxHeartbeats 4000000 in
set_option maxRecDepth 100000 in
theorem b_X9_jumpOf {Y : CY} {Z : CZ} (C : cx SM 2 Y Z cX9_jumpOf RX9 wsX9_jumpOf (some .int) rmX9_jumpOf) {Post : Int32 → St → Prop} (hQ : Qi SM Y Z Post)  (p1 : Int32) (σ : St) (h : w_X9_jumpOf p1 σ Post) : WW SM 2 Y Z σ 0 [(0, .ref (qa Y 0)), (1, .int p1)] [] := by
  unfold w_X9_jumpOf at h
  refine q_iload_n C 1 dX9_jumpOf_0 rfl ?_
  refine q_aload_n C 0 dX9_jumpOf_1 rfl ?_
  refine q_geti (T := TX9) C kM0 iM0 inX9_jumpOf_X9 rfl 6 (by decide) (List.mem_of_getElem? (i := 1) rfl) (fun _ h9 => h9) rfl dX9_jumpOf_2 ?_
  refine q_icmp_ne C 15 dX9_jumpOf_5 (by decide) (fun c1 => ?_) (fun c1 => ?_)
  · replace h := h.1 c1
    refine q_iconst (v := (0 : Int32)) C dX9_jumpOf_15 (by decide) ?_
    exact q_iret C hQ dX9_jumpOf_16 h
  · replace h := h.2 c1
    refine q_aload_n C 0 dX9_jumpOf_8 rfl ?_
    refine q_geti (T := TX9) C kM0 iM0 inX9_jumpOf_X9 rfl 7 (by decide) (List.mem_of_getElem? (i := 2) rfl) (fun _ h9 => h9) rfl dX9_jumpOf_9 ?_
    refine q_goto C 16 dX9_jumpOf_12 (by decide) ?_
    exact q_iret C hQ dX9_jumpOf_16 h
theorem c_X9_jumpOf (Y : CY)  (p1 : Int32) (σ : St) (Post : Int32 → St → Prop) (h : w_X9_jumpOf p1 σ Post) : Ki SM Y yX9_jumpOf wsX9_jumpOf rmX9_jumpOf [.ref (qa Y 0), .int p1] σ Post :=
  Ki_of (cc := cX9_jumpOf) (nL := 2) (ret := (some .int)) (by decide +kernel) rfl (Nat.le_of_ble_eq_true rfl) (fun Z C hQ => b_X9_jumpOf C hQ  p1 σ h)
abbrev rmX9_size : Room := { frames := 0, cells := 0, slots := 0, locals := 0 }
theorem nkX9_size : NmOk yX9_size 1 := by decide +kernel
def w_X9_size (p1 : Int32) (σ : St) (Post : Int32 → St → Prop) : Prop := (0 ≤ p1 → Post p1 σ) ∧ (¬ 0 ≤ p1 → Post ((-p1)) σ)
set_option maxHeartbeats 4000000 in
set_option maxRecDepth 100000 in
theorem b_X9_size {Y : CY} {Z : CZ} (C : cx SM 1 Y Z cX9_size RX9 wsX9_size (some .int) rmX9_size) {Post : Int32 → St → Prop} (hQ : Qi SM Y Z Post)  (p1 : Int32) (σ : St) (h : w_X9_size p1 σ Post) : WW SM 1 Y Z σ 0 [(0, .int p1)] [] := by
  unfold w_X9_size at h
  refine q_iload_n C 0 dX9_size_0 rfl ?_
  refine q_if_ge C 9 dX9_size_1 (by decide) (fun c1 => ?_) (fun c1 => ?_)
  · replace h := h.1 c1
    refine q_iload_n C 0 dX9_size_9 rfl ?_
    exact q_iret C hQ dX9_size_10 h
  · replace h := h.2 c1
    refine q_iload_n C 0 dX9_size_4 rfl ?_
    refine q_ineg C dX9_size_5 ?_
    refine q_goto C 10 dX9_size_6 (by decide) ?_
    exact q_iret C hQ dX9_size_10 h
theorem c_X9_size (Y : CY)  (p1 : Int32) (σ : St) (Post : Int32 → St → Prop) (h : w_X9_size p1 σ Post) : Ki SM Y yX9_size wsX9_size rmX9_size [.int p1] σ Post :=
  Ki_of (cc := cX9_size) (nL := 1) (ret := (some .int)) (by decide +kernel) rfl (Nat.le_of_ble_eq_true rfl) (fun Z C hQ => b_X9_size C hQ  p1 σ h)
abbrev rmX9_gather : Room := { frames := 0, cells := 0, slots := 0, locals := 0 }
theorem nkX9_gather : NmOk yX9_gather 0 := by decide +kernel
theorem inX9_gather_X9 : ∀ w ∈ u_ws RX9 TX9 47, w ∈ wsX9_gather := fun _ h => List.mem_cons_of_mem _ (List.mem_append_right _ h)
def w_X9_gather_J195 (Post : St → Prop) (s0 : Int32) (s1 : Int32) (σ : St) : Prop := (vp_in s1 12) ∧ (∀ σ15 : St, σ15 = up σ 4 s1.toNatClampNeg s0 → ∀ σ16 : St, σ16 = up σ15 4 7 (((σ15 4 7) + (1 : Int32))) → Post σ16)
def w_X9_gather_J179 (Post : St → Prop) (s0 : Int32) (σ : St) : Prop := w_X9_gather_J195 Post ((σ 4 2)) s0 σ
def w_X9_gather_J146 (Post : St → Prop) (s0 : Int32) (s1 : Int32) (σ : St) : Prop := (vp_in s1 12) ∧ (∀ σ11 : St, σ11 = up σ 4 s1.toNatClampNeg s0 → ((σ11 4 7) = 0 → w_X9_gather_J179 Post (11 : Int32) σ11) ∧ (¬ (σ11 4 7) = 0 → ((σ11 4 2) ≤ (σ11 4 11) → w_X9_gather_J195 Post ((σ11 4 11)) (11 : Int32) σ11) ∧ (¬ (σ11 4 2) ≤ (σ11 4 11) → w_X9_gather_J179 Post (11 : Int32) σ11)))
def w_X9_gather_J130 (Post : St → Prop) (s0 : Int32) (σ : St) : Prop := w_X9_gather_J146 Post ((σ 4 2)) s0 σ
def w_X9_gather_J97 (Post : St → Prop) (s0 : Int32) (s1 : Int32) (σ : St) : Prop := (vp_in s1 12) ∧ (∀ σ7 : St, σ7 = up σ 4 s1.toNatClampNeg s0 → ((σ7 4 7) = 0 → w_X9_gather_J130 Post (10 : Int32) σ7) ∧ (¬ (σ7 4 7) = 0 → ((σ7 4 10) ≤ (σ7 4 2) → w_X9_gather_J146 Post ((σ7 4 10)) (10 : Int32) σ7) ∧ (¬ (σ7 4 10) ≤ (σ7 4 2) → w_X9_gather_J130 Post (10 : Int32) σ7)))
def w_X9_gather_J81 (Post : St → Prop) (s0 : Int32) (σ : St) : Prop := w_X9_gather_J97 Post ((σ 4 1)) s0 σ
def w_X9_gather_J48 (Post : St → Prop) (s0 : Int32) (s1 : Int32) (σ : St) : Prop := (vp_in s1 12) ∧ (∀ σ3 : St, σ3 = up σ 4 s1.toNatClampNeg s0 → ((σ3 4 7) = 0 → w_X9_gather_J81 Post (9 : Int32) σ3) ∧ (¬ (σ3 4 7) = 0 → ((σ3 4 1) ≤ (σ3 4 9) → w_X9_gather_J97 Post ((σ3 4 9)) (9 : Int32) σ3) ∧ (¬ (σ3 4 1) ≤ (σ3 4 9) → w_X9_gather_J81 Post (9 : Int32) σ3)))
def w_X9_gather_J32 (Post : St → Prop) (s0 : Int32) (σ : St) : Prop := w_X9_gather_J48 Post ((σ 4 1)) s0 σ
def w_X9_gather (σ : St) (Post : St → Prop) : Prop := ((σ 4 7) = 0 → w_X9_gather_J32 Post (8 : Int32) σ) ∧ (¬ (σ 4 7) = 0 → ((σ 4 8) ≤ (σ 4 1) → w_X9_gather_J48 Post ((σ 4 8)) (8 : Int32) σ) ∧ (¬ (σ 4 8) ≤ (σ 4 1) → w_X9_gather_J32 Post (8 : Int32) σ))
set_option maxHeartbeats 4000000 in
set_option maxRecDepth 100000 in
theorem b_X9_gather_J195 {Y : CY} {Z : CZ} (C : cx SM 1 Y Z cX9_gather RX9 wsX9_gather none rmX9_gather) {Post : St → Prop} (hQ : Qv SM Y Z Post)  (s0 : Int32) (s1 : Int32) (σ : St) (h : w_X9_gather_J195  Post s0 s1 σ) : WW SM 1 Y Z σ 195 [(0, .ref (qa Y 0))] [.int s0, .int s1, .ref (qa Y 4)] := by
  unfold w_X9_gather_J195 at h
  obtain ⟨g17, h⟩ := h
  refine q_iast C kM4 iM4 g17 dX9_gather_195 ?_
  refine q_nmS (fun σ15 eσ15 => ?_)
  replace h := h σ15 eσ15
  refine q_aload_n C 0 dX9_gather_196 rfl ?_
  refine q_getr (T := TX9) C kM0 iM0 inX9_gather_X9 rfl 12 (by decide) (List.mem_of_getElem? (i := 1) rfl) (fun _ h9 => h9) rfl dX9_gather_197 ?_
  refine q_bipush (v := (7 : Int32)) C dX9_gather_200 (by decide) ?_
  refine q_dup2 C dX9_gather_202 rfl rfl ?_
  refine q_ialdk C 7 (by decide) (by decide) (by decide) kM4 iM4 dX9_gather_203 ?_
  refine q_iconst (v := (1 : Int32)) C dX9_gather_204 (by decide) ?_
  refine q_iadd C dX9_gather_205 ?_
  refine q_iastk C 7 (by decide) (by decide) (by decide) kM4 iM4 dX9_gather_206 ?_
  refine q_nmS (fun σ16 eσ16 => ?_)
  replace h := h σ16 eσ16
  exact q_vret C hQ dX9_gather_207 h
set_option maxHeartbeats 4000000 in
set_option maxRecDepth 100000 in
theorem b_X9_gather_J179 {Y : CY} {Z : CZ} (C : cx SM 1 Y Z cX9_gather RX9 wsX9_gather none rmX9_gather) {Post : St → Prop} (hQ : Qv SM Y Z Post)  (s0 : Int32) (σ : St) (h : w_X9_gather_J179  Post s0 σ) : WW SM 1 Y Z σ 179 [(0, .ref (qa Y 0))] [.int s0, .ref (qa Y 4)] := by
  unfold w_X9_gather_J179 at h
  refine q_aload_n C 0 dX9_gather_179 rfl ?_
  refine q_getr (T := TX9) C kM0 iM0 inX9_gather_X9 rfl 12 (by decide) (List.mem_of_getElem? (i := 1) rfl) (fun _ h9 => h9) rfl dX9_gather_180 ?_
  refine q_iconst (v := (2 : Int32)) C dX9_gather_183 (by decide) ?_
  refine q_ialdk C 2 (by decide) (by decide) (by decide) kM4 iM4 dX9_gather_184 ?_
  refine q_goto C 195 dX9_gather_185 (by decide) ?_
  exact b_X9_gather_J195 C hQ ((σ 4 2)) s0 σ h
set_option maxHeartbeats 4000000 in
set_option maxRecDepth 100000 in
theorem b_X9_gather_J146 {Y : CY} {Z : CZ} (C : cx SM 1 Y Z cX9_gather RX9 wsX9_gather none rmX9_gather) {Post : St → Prop} (hQ : Qv SM Y Z Post)  (s0 : Int32) (s1 : Int32) (σ : St) (h : w_X9_gather_J146  Post s0 s1 σ) : WW SM 1 Y Z σ 146 [(0, .ref (qa Y 0))] [.int s0, .int s1, .ref (qa Y 4)] := by
  unfold w_X9_gather_J146 at h
  obtain ⟨g14, h⟩ := h
  refine q_iast C kM4 iM4 g14 dX9_gather_146 ?_
  refine q_nmS (fun σ11 eσ11 => ?_)
  replace h := h σ11 eσ11
  refine q_aload_n C 0 dX9_gather_147 rfl ?_
  refine q_getr (T := TX9) C kM0 iM0 inX9_gather_X9 rfl 12 (by decide) (List.mem_of_getElem? (i := 1) rfl) (fun _ h9 => h9) rfl dX9_gather_148 ?_
  refine q_bipush (v := (11 : Int32)) C dX9_gather_151 (by decide) ?_
  refine q_aload_n C 0 dX9_gather_153 rfl ?_
  refine q_getr (T := TX9) C kM0 iM0 inX9_gather_X9 rfl 12 (by decide) (List.mem_of_getElem? (i := 1) rfl) (fun _ h9 => h9) rfl dX9_gather_154 ?_
  refine q_bipush (v := (7 : Int32)) C dX9_gather_157 (by decide) ?_
  refine q_ialdk C 7 (by decide) (by decide) (by decide) kM4 iM4 dX9_gather_159 ?_
  refine q_if_eq C 179 dX9_gather_160 (by decide) (fun c12 => ?_) (fun c12 => ?_)
  · replace h := h.1 c12
    exact b_X9_gather_J179 C hQ (11 : Int32) σ11 h
  · replace h := h.2 c12
    refine q_aload_n C 0 dX9_gather_163 rfl ?_
    refine q_getr (T := TX9) C kM0 iM0 inX9_gather_X9 rfl 12 (by decide) (List.mem_of_getElem? (i := 1) rfl) (fun _ h9 => h9) rfl dX9_gather_164 ?_
    refine q_iconst (v := (2 : Int32)) C dX9_gather_167 (by decide) ?_
    refine q_ialdk C 2 (by decide) (by decide) (by decide) kM4 iM4 dX9_gather_168 ?_
    refine q_aload_n C 0 dX9_gather_169 rfl ?_
    refine q_getr (T := TX9) C kM0 iM0 inX9_gather_X9 rfl 12 (by decide) (List.mem_of_getElem? (i := 1) rfl) (fun _ h9 => h9) rfl dX9_gather_170 ?_
    refine q_bipush (v := (11 : Int32)) C dX9_gather_173 (by decide) ?_
    refine q_ialdk C 11 (by decide) (by decide) (by decide) kM4 iM4 dX9_gather_175 ?_
    refine q_icmp_le C 188 dX9_gather_176 (by decide) (fun c13 => ?_) (fun c13 => ?_)
    · replace h := h.1 c13
      refine q_aload_n C 0 dX9_gather_188 rfl ?_
      refine q_getr (T := TX9) C kM0 iM0 inX9_gather_X9 rfl 12 (by decide) (List.mem_of_getElem? (i := 1) rfl) (fun _ h9 => h9) rfl dX9_gather_189 ?_
      refine q_bipush (v := (11 : Int32)) C dX9_gather_192 (by decide) ?_
      refine q_ialdk C 11 (by decide) (by decide) (by decide) kM4 iM4 dX9_gather_194 ?_
      exact b_X9_gather_J195 C hQ ((σ11 4 11)) (11 : Int32) σ11 h
    · replace h := h.2 c13
      exact b_X9_gather_J179 C hQ (11 : Int32) σ11 h
set_option maxHeartbeats 4000000 in
set_option maxRecDepth 100000 in
theorem b_X9_gather_J130 {Y : CY} {Z : CZ} (C : cx SM 1 Y Z cX9_gather RX9 wsX9_gather none rmX9_gather) {Post : St → Prop} (hQ : Qv SM Y Z Post)  (s0 : Int32) (σ : St) (h : w_X9_gather_J130  Post s0 σ) : WW SM 1 Y Z σ 130 [(0, .ref (qa Y 0))] [.int s0, .ref (qa Y 4)] := by
  unfold w_X9_gather_J130 at h
  refine q_aload_n C 0 dX9_gather_130 rfl ?_
  refine q_getr (T := TX9) C kM0 iM0 inX9_gather_X9 rfl 12 (by decide) (List.mem_of_getElem? (i := 1) rfl) (fun _ h9 => h9) rfl dX9_gather_131 ?_
  refine q_iconst (v := (2 : Int32)) C dX9_gather_134 (by decide) ?_
  refine q_ialdk C 2 (by decide) (by decide) (by decide) kM4 iM4 dX9_gather_135 ?_
  refine q_goto C 146 dX9_gather_136 (by decide) ?_
  exact b_X9_gather_J146 C hQ ((σ 4 2)) s0 σ h
set_option maxHeartbeats 4000000 in
set_option maxRecDepth 100000 in
theorem b_X9_gather_J97 {Y : CY} {Z : CZ} (C : cx SM 1 Y Z cX9_gather RX9 wsX9_gather none rmX9_gather) {Post : St → Prop} (hQ : Qv SM Y Z Post)  (s0 : Int32) (s1 : Int32) (σ : St) (h : w_X9_gather_J97  Post s0 s1 σ) : WW SM 1 Y Z σ 97 [(0, .ref (qa Y 0))] [.int s0, .int s1, .ref (qa Y 4)] := by
  unfold w_X9_gather_J97 at h
  obtain ⟨g10, h⟩ := h
  refine q_iast C kM4 iM4 g10 dX9_gather_97 ?_
  refine q_nmS (fun σ7 eσ7 => ?_)
  replace h := h σ7 eσ7
  refine q_aload_n C 0 dX9_gather_98 rfl ?_
  refine q_getr (T := TX9) C kM0 iM0 inX9_gather_X9 rfl 12 (by decide) (List.mem_of_getElem? (i := 1) rfl) (fun _ h9 => h9) rfl dX9_gather_99 ?_
  refine q_bipush (v := (10 : Int32)) C dX9_gather_102 (by decide) ?_
  refine q_aload_n C 0 dX9_gather_104 rfl ?_
  refine q_getr (T := TX9) C kM0 iM0 inX9_gather_X9 rfl 12 (by decide) (List.mem_of_getElem? (i := 1) rfl) (fun _ h9 => h9) rfl dX9_gather_105 ?_
  refine q_bipush (v := (7 : Int32)) C dX9_gather_108 (by decide) ?_
  refine q_ialdk C 7 (by decide) (by decide) (by decide) kM4 iM4 dX9_gather_110 ?_
  refine q_if_eq C 130 dX9_gather_111 (by decide) (fun c8 => ?_) (fun c8 => ?_)
  · replace h := h.1 c8
    exact b_X9_gather_J130 C hQ (10 : Int32) σ7 h
  · replace h := h.2 c8
    refine q_aload_n C 0 dX9_gather_114 rfl ?_
    refine q_getr (T := TX9) C kM0 iM0 inX9_gather_X9 rfl 12 (by decide) (List.mem_of_getElem? (i := 1) rfl) (fun _ h9 => h9) rfl dX9_gather_115 ?_
    refine q_iconst (v := (2 : Int32)) C dX9_gather_118 (by decide) ?_
    refine q_ialdk C 2 (by decide) (by decide) (by decide) kM4 iM4 dX9_gather_119 ?_
    refine q_aload_n C 0 dX9_gather_120 rfl ?_
    refine q_getr (T := TX9) C kM0 iM0 inX9_gather_X9 rfl 12 (by decide) (List.mem_of_getElem? (i := 1) rfl) (fun _ h9 => h9) rfl dX9_gather_121 ?_
    refine q_bipush (v := (10 : Int32)) C dX9_gather_124 (by decide) ?_
    refine q_ialdk C 10 (by decide) (by decide) (by decide) kM4 iM4 dX9_gather_126 ?_
    refine q_icmp_ge C 139 dX9_gather_127 (by decide) (fun c9 => ?_) (fun c9 => ?_)
    · replace h := h.1 c9
      refine q_aload_n C 0 dX9_gather_139 rfl ?_
      refine q_getr (T := TX9) C kM0 iM0 inX9_gather_X9 rfl 12 (by decide) (List.mem_of_getElem? (i := 1) rfl) (fun _ h9 => h9) rfl dX9_gather_140 ?_
      refine q_bipush (v := (10 : Int32)) C dX9_gather_143 (by decide) ?_
      refine q_ialdk C 10 (by decide) (by decide) (by decide) kM4 iM4 dX9_gather_145 ?_
      exact b_X9_gather_J146 C hQ ((σ7 4 10)) (10 : Int32) σ7 h
    · replace h := h.2 c9
      exact b_X9_gather_J130 C hQ (10 : Int32) σ7 h
set_option maxHeartbeats 4000000 in
set_option maxRecDepth 100000 in
theorem b_X9_gather_J81 {Y : CY} {Z : CZ} (C : cx SM 1 Y Z cX9_gather RX9 wsX9_gather none rmX9_gather) {Post : St → Prop} (hQ : Qv SM Y Z Post)  (s0 : Int32) (σ : St) (h : w_X9_gather_J81  Post s0 σ) : WW SM 1 Y Z σ 81 [(0, .ref (qa Y 0))] [.int s0, .ref (qa Y 4)] := by
  unfold w_X9_gather_J81 at h
  refine q_aload_n C 0 dX9_gather_81 rfl ?_
  refine q_getr (T := TX9) C kM0 iM0 inX9_gather_X9 rfl 12 (by decide) (List.mem_of_getElem? (i := 1) rfl) (fun _ h9 => h9) rfl dX9_gather_82 ?_
  refine q_iconst (v := (1 : Int32)) C dX9_gather_85 (by decide) ?_
  refine q_ialdk C 1 (by decide) (by decide) (by decide) kM4 iM4 dX9_gather_86 ?_
  refine q_goto C 97 dX9_gather_87 (by decide) ?_
  exact b_X9_gather_J97 C hQ ((σ 4 1)) s0 σ h
set_option maxHeartbeats 4000000 in
set_option maxRecDepth 100000 in
theorem b_X9_gather_J48 {Y : CY} {Z : CZ} (C : cx SM 1 Y Z cX9_gather RX9 wsX9_gather none rmX9_gather) {Post : St → Prop} (hQ : Qv SM Y Z Post)  (s0 : Int32) (s1 : Int32) (σ : St) (h : w_X9_gather_J48  Post s0 s1 σ) : WW SM 1 Y Z σ 48 [(0, .ref (qa Y 0))] [.int s0, .int s1, .ref (qa Y 4)] := by
  unfold w_X9_gather_J48 at h
  obtain ⟨g6, h⟩ := h
  refine q_iast C kM4 iM4 g6 dX9_gather_48 ?_
  refine q_nmS (fun σ3 eσ3 => ?_)
  replace h := h σ3 eσ3
  refine q_aload_n C 0 dX9_gather_49 rfl ?_
  refine q_getr (T := TX9) C kM0 iM0 inX9_gather_X9 rfl 12 (by decide) (List.mem_of_getElem? (i := 1) rfl) (fun _ h9 => h9) rfl dX9_gather_50 ?_
  refine q_bipush (v := (9 : Int32)) C dX9_gather_53 (by decide) ?_
  refine q_aload_n C 0 dX9_gather_55 rfl ?_
  refine q_getr (T := TX9) C kM0 iM0 inX9_gather_X9 rfl 12 (by decide) (List.mem_of_getElem? (i := 1) rfl) (fun _ h9 => h9) rfl dX9_gather_56 ?_
  refine q_bipush (v := (7 : Int32)) C dX9_gather_59 (by decide) ?_
  refine q_ialdk C 7 (by decide) (by decide) (by decide) kM4 iM4 dX9_gather_61 ?_
  refine q_if_eq C 81 dX9_gather_62 (by decide) (fun c4 => ?_) (fun c4 => ?_)
  · replace h := h.1 c4
    exact b_X9_gather_J81 C hQ (9 : Int32) σ3 h
  · replace h := h.2 c4
    refine q_aload_n C 0 dX9_gather_65 rfl ?_
    refine q_getr (T := TX9) C kM0 iM0 inX9_gather_X9 rfl 12 (by decide) (List.mem_of_getElem? (i := 1) rfl) (fun _ h9 => h9) rfl dX9_gather_66 ?_
    refine q_iconst (v := (1 : Int32)) C dX9_gather_69 (by decide) ?_
    refine q_ialdk C 1 (by decide) (by decide) (by decide) kM4 iM4 dX9_gather_70 ?_
    refine q_aload_n C 0 dX9_gather_71 rfl ?_
    refine q_getr (T := TX9) C kM0 iM0 inX9_gather_X9 rfl 12 (by decide) (List.mem_of_getElem? (i := 1) rfl) (fun _ h9 => h9) rfl dX9_gather_72 ?_
    refine q_bipush (v := (9 : Int32)) C dX9_gather_75 (by decide) ?_
    refine q_ialdk C 9 (by decide) (by decide) (by decide) kM4 iM4 dX9_gather_77 ?_
    refine q_icmp_le C 90 dX9_gather_78 (by decide) (fun c5 => ?_) (fun c5 => ?_)
    · replace h := h.1 c5
      refine q_aload_n C 0 dX9_gather_90 rfl ?_
      refine q_getr (T := TX9) C kM0 iM0 inX9_gather_X9 rfl 12 (by decide) (List.mem_of_getElem? (i := 1) rfl) (fun _ h9 => h9) rfl dX9_gather_91 ?_
      refine q_bipush (v := (9 : Int32)) C dX9_gather_94 (by decide) ?_
      refine q_ialdk C 9 (by decide) (by decide) (by decide) kM4 iM4 dX9_gather_96 ?_
      exact b_X9_gather_J97 C hQ ((σ3 4 9)) (9 : Int32) σ3 h
    · replace h := h.2 c5
      exact b_X9_gather_J81 C hQ (9 : Int32) σ3 h
set_option maxHeartbeats 4000000 in
set_option maxRecDepth 100000 in
theorem b_X9_gather_J32 {Y : CY} {Z : CZ} (C : cx SM 1 Y Z cX9_gather RX9 wsX9_gather none rmX9_gather) {Post : St → Prop} (hQ : Qv SM Y Z Post)  (s0 : Int32) (σ : St) (h : w_X9_gather_J32  Post s0 σ) : WW SM 1 Y Z σ 32 [(0, .ref (qa Y 0))] [.int s0, .ref (qa Y 4)] := by
  unfold w_X9_gather_J32 at h
  refine q_aload_n C 0 dX9_gather_32 rfl ?_
  refine q_getr (T := TX9) C kM0 iM0 inX9_gather_X9 rfl 12 (by decide) (List.mem_of_getElem? (i := 1) rfl) (fun _ h9 => h9) rfl dX9_gather_33 ?_
  refine q_iconst (v := (1 : Int32)) C dX9_gather_36 (by decide) ?_
  refine q_ialdk C 1 (by decide) (by decide) (by decide) kM4 iM4 dX9_gather_37 ?_
  refine q_goto C 48 dX9_gather_38 (by decide) ?_
  exact b_X9_gather_J48 C hQ ((σ 4 1)) s0 σ h
set_option maxHeartbeats 4000000 in
set_option maxRecDepth 100000 in
theorem b_X9_gather {Y : CY} {Z : CZ} (C : cx SM 1 Y Z cX9_gather RX9 wsX9_gather none rmX9_gather) {Post : St → Prop} (hQ : Qv SM Y Z Post)  (σ : St) (h : w_X9_gather  σ Post) : WW SM 1 Y Z σ 0 [(0, .ref (qa Y 0))] [] := by
  unfold w_X9_gather at h
  refine q_aload_n C 0 dX9_gather_0 rfl ?_
  refine q_getr (T := TX9) C kM0 iM0 inX9_gather_X9 rfl 12 (by decide) (List.mem_of_getElem? (i := 1) rfl) (fun _ h9 => h9) rfl dX9_gather_1 ?_
  refine q_bipush (v := (8 : Int32)) C dX9_gather_4 (by decide) ?_
  refine q_aload_n C 0 dX9_gather_6 rfl ?_
  refine q_getr (T := TX9) C kM0 iM0 inX9_gather_X9 rfl 12 (by decide) (List.mem_of_getElem? (i := 1) rfl) (fun _ h9 => h9) rfl dX9_gather_7 ?_
  refine q_bipush (v := (7 : Int32)) C dX9_gather_10 (by decide) ?_
  refine q_ialdk C 7 (by decide) (by decide) (by decide) kM4 iM4 dX9_gather_12 ?_
  refine q_if_eq C 32 dX9_gather_13 (by decide) (fun c1 => ?_) (fun c1 => ?_)
  · replace h := h.1 c1
    exact b_X9_gather_J32 C hQ (8 : Int32) σ h
  · replace h := h.2 c1
    refine q_aload_n C 0 dX9_gather_16 rfl ?_
    refine q_getr (T := TX9) C kM0 iM0 inX9_gather_X9 rfl 12 (by decide) (List.mem_of_getElem? (i := 1) rfl) (fun _ h9 => h9) rfl dX9_gather_17 ?_
    refine q_iconst (v := (1 : Int32)) C dX9_gather_20 (by decide) ?_
    refine q_ialdk C 1 (by decide) (by decide) (by decide) kM4 iM4 dX9_gather_21 ?_
    refine q_aload_n C 0 dX9_gather_22 rfl ?_
    refine q_getr (T := TX9) C kM0 iM0 inX9_gather_X9 rfl 12 (by decide) (List.mem_of_getElem? (i := 1) rfl) (fun _ h9 => h9) rfl dX9_gather_23 ?_
    refine q_bipush (v := (8 : Int32)) C dX9_gather_26 (by decide) ?_
    refine q_ialdk C 8 (by decide) (by decide) (by decide) kM4 iM4 dX9_gather_28 ?_
    refine q_icmp_ge C 41 dX9_gather_29 (by decide) (fun c2 => ?_) (fun c2 => ?_)
    · replace h := h.1 c2
      refine q_aload_n C 0 dX9_gather_41 rfl ?_
      refine q_getr (T := TX9) C kM0 iM0 inX9_gather_X9 rfl 12 (by decide) (List.mem_of_getElem? (i := 1) rfl) (fun _ h9 => h9) rfl dX9_gather_42 ?_
      refine q_bipush (v := (8 : Int32)) C dX9_gather_45 (by decide) ?_
      refine q_ialdk C 8 (by decide) (by decide) (by decide) kM4 iM4 dX9_gather_47 ?_
      exact b_X9_gather_J48 C hQ ((σ 4 8)) (8 : Int32) σ h
    · replace h := h.2 c2
      exact b_X9_gather_J32 C hQ (8 : Int32) σ h
theorem c_X9_gather (Y : CY)  (σ : St) (Post : St → Prop) (h : w_X9_gather  σ Post) : Kv SM Y yX9_gather wsX9_gather rmX9_gather [.ref (qa Y 0)] σ Post :=
  Kv_of (cc := cX9_gather) (nL := 1) (ret := none) (by decide +kernel) rfl (Nat.le_of_ble_eq_true rfl) (fun Z C hQ => b_X9_gather C hQ  σ h)
abbrev rmX9_pass : Room := { frames := 1, cells := 0, slots := 0, locals := 21 }
theorem nkX9_pass : NmOk yX9_pass 0 := by decide +kernel
theorem rmOk_X9_pass__X9_gather : RmOk rmX9_gather rmX9_pass 1 := ⟨rfl, rfl, by decide, by decide⟩
theorem rmOk_X9_pass__X9_jumpOf : RmOk rmX9_jumpOf rmX9_pass 2 := ⟨rfl, rfl, by decide, by decide⟩
theorem rmOk_X9_pass__X9_size : RmOk rmX9_size rmX9_pass 1 := ⟨rfl, rfl, by decide, by decide⟩
theorem inX9_pass_X9 : ∀ w ∈ u_ws RX9 TX9 47, w ∈ wsX9_pass := fun _ h => List.mem_cons_of_mem _ (List.mem_append_right _ h)
def w_X9_pass_J141 (Post : St → Prop) (s0 : Int32) (s1 : Int32) (σ : St) : Prop := (vp_in s1 12) ∧ (∀ σ17 : St, σ17 = up σ 4 s1.toNatClampNeg s0 → (¬ (σ17 4 5) = 0 → Post σ17) ∧ ((σ17 4 5) = 0 → (¬ (σ17 4 6) = 0 → Post σ17) ∧ ((σ17 4 6) = 0 → w_X9_gather σ17 (fun σ20 => Post σ20))))
def w_X9_pass_J136 (Post : St → Prop) (s0 : Int32) (σ : St) : Prop := w_X9_pass_J141 Post (1 : Int32) s0 σ
def w_X9_pass (σ : St) (Post : St → Prop) : Prop := ∀ x1 : Int32, x1 = (σ 4 0) → (¬ (σ 0 4) = 0) ∧ ((vp_in (x1 - x1 / (σ 0 4) * (σ 0 4)) 9) ∧ (w_X9_jumpOf x1 σ (fun x5 σ4 => ∀ σ6 : St, σ6 = up σ4 4 1 (((σ 4 1) + (((((σ 4 3) * (σ 0 8)) + (σ 0 1)) + (σ 1 (x1 - x1 / (σ 0 4) * (σ 0 4)).toNatClampNeg)) + x5))) → ∀ σ7 : St, σ7 = up σ6 4 2 (((σ6 4 2) + (((σ6 4 4) * (σ6 0 8)) + (σ6 0 2)))) → ∀ σ8 : St, σ8 = up σ7 4 3 (0 : Int32) → ∀ σ9 : St, σ9 = up σ8 4 4 (0 : Int32) → ∀ σ10 : St, σ10 = up σ9 4 0 (((σ9 4 0) + (1 : Int32))) → w_X9_size ((σ10 4 1)) σ10 (fun x12 σ11 => ((σ11 0 3) < x12 → w_X9_pass_J136 Post (5 : Int32) σ11) ∧ (¬ (σ11 0 3) < x12 → w_X9_size ((σ11 4 2)) σ11 (fun x15 σ14 => (x15 ≤ (σ14 0 3) → w_X9_pass_J141 Post (0 : Int32) (5 : Int32) σ14) ∧ (¬ x15 ≤ (σ14 0 3) → w_X9_pass_J136 Post (5 : Int32) σ14)))))))
set_option maxHeartbeats 4000000 in
set_option maxRecDepth 100000 in
theorem b_X9_pass_J141 {Y : CY} {Z : CZ} (C : cx SM 2 Y Z cX9_pass RX9 wsX9_pass none rmX9_pass) {Post : St → Prop} (hQ : Qv SM Y Z Post)  (s0 : Int32) (s1 : Int32) (σ : St) (h : w_X9_pass_J141  Post s0 s1 σ) : WW SM 2 Y Z σ 141 [(0, .ref (qa Y 0))] [.int s0, .int s1, .ref (qa Y 4)] := by
  unfold w_X9_pass_J141 at h
  obtain ⟨g21, h⟩ := h
  refine q_iast C kM4 iM4 g21 dX9_pass_141 ?_
  refine q_nmS (fun σ17 eσ17 => ?_)
  replace h := h σ17 eσ17
  refine q_aload_n C 0 dX9_pass_142 rfl ?_
  refine q_getr (T := TX9) C kM0 iM0 inX9_pass_X9 rfl 12 (by decide) (List.mem_of_getElem? (i := 1) rfl) (fun _ h9 => h9) rfl dX9_pass_143 ?_
  refine q_iconst (v := (5 : Int32)) C dX9_pass_146 (by decide) ?_
  refine q_ialdk C 5 (by decide) (by decide) (by decide) kM4 iM4 dX9_pass_147 ?_
  refine q_if_ne C 165 dX9_pass_148 (by decide) (fun c18 => ?_) (fun c18 => ?_)
  · replace h := h.1 c18
    exact q_vret C hQ dX9_pass_165 h
  · replace h := h.2 c18
    refine q_aload_n C 0 dX9_pass_151 rfl ?_
    refine q_getr (T := TX9) C kM0 iM0 inX9_pass_X9 rfl 12 (by decide) (List.mem_of_getElem? (i := 1) rfl) (fun _ h9 => h9) rfl dX9_pass_152 ?_
    refine q_bipush (v := (6 : Int32)) C dX9_pass_155 (by decide) ?_
    refine q_ialdk C 6 (by decide) (by decide) (by decide) kM4 iM4 dX9_pass_157 ?_
    refine q_if_ne C 165 dX9_pass_158 (by decide) (fun c19 => ?_) (fun c19 => ?_)
    · replace h := h.1 c19
      exact q_vret C hQ dX9_pass_165 h
    · replace h := h.2 c19
      refine q_aload_n C 0 dX9_pass_161 rfl ?_
      refine q_callVv (As := []) (st := []) C (c_X9_gather Y σ17 _ h) gX9_pass_X9_gather rfl ⟨rfl, nkX9_gather⟩ rmOk_X9_pass__X9_gather kM0 iM0 rfl rfl (Nat.le_of_ble_eq_true rfl) dX9_pass_162 rfl (fun σ20 h => ?_)
      beta_reduce at h
      exact q_vret C hQ dX9_pass_165 h
set_option maxHeartbeats 4000000 in
set_option maxRecDepth 100000 in
theorem b_X9_pass_J136 {Y : CY} {Z : CZ} (C : cx SM 2 Y Z cX9_pass RX9 wsX9_pass none rmX9_pass) {Post : St → Prop} (hQ : Qv SM Y Z Post)  (s0 : Int32) (σ : St) (h : w_X9_pass_J136  Post s0 σ) : WW SM 2 Y Z σ 136 [(0, .ref (qa Y 0))] [.int s0, .ref (qa Y 4)] := by
  unfold w_X9_pass_J136 at h
  refine q_iconst (v := (1 : Int32)) C dX9_pass_136 (by decide) ?_
  refine q_goto C 141 dX9_pass_137 (by decide) ?_
  exact b_X9_pass_J141 C hQ (1 : Int32) s0 σ h
set_option maxHeartbeats 4000000 in
set_option maxRecDepth 100000 in
theorem b_X9_pass {Y : CY} {Z : CZ} (C : cx SM 2 Y Z cX9_pass RX9 wsX9_pass none rmX9_pass) {Post : St → Prop} (hQ : Qv SM Y Z Post)  (σ : St) (h : w_X9_pass  σ Post) : WW SM 2 Y Z σ 0 [(0, .ref (qa Y 0))] [] := by
  unfold w_X9_pass at h
  refine q_aload_n C 0 dX9_pass_0 rfl ?_
  refine q_getr (T := TX9) C kM0 iM0 inX9_pass_X9 rfl 12 (by decide) (List.mem_of_getElem? (i := 1) rfl) (fun _ h9 => h9) rfl dX9_pass_1 ?_
  refine q_iconst (v := (0 : Int32)) C dX9_pass_4 (by decide) ?_
  refine q_ialdk C 0 (by decide) (by decide) (by decide) kM4 iM4 dX9_pass_5 ?_
  refine q_topi (fun x1 ex1 => ?_)
  replace h := h x1 ex1
  refine q_istore_n C [(1, .int x1), (0, .ref (qa Y 0))] dX9_pass_6 (by decide) rfl ?_
  refine q_aload_n C 1 dX9_pass_7 rfl ?_
  refine q_getr (T := TX9) C kM0 iM0 inX9_pass_X9 rfl 12 (by decide) (List.mem_of_getElem? (i := 1) rfl) (fun _ h9 => h9) rfl dX9_pass_8 ?_
  refine q_iconst (v := (1 : Int32)) C dX9_pass_11 (by decide) ?_
  refine q_dup2 C dX9_pass_12 rfl rfl ?_
  refine q_ialdk C 1 (by decide) (by decide) (by decide) kM4 iM4 dX9_pass_13 ?_
  refine q_aload_n C 1 dX9_pass_14 rfl ?_
  refine q_getr (T := TX9) C kM0 iM0 inX9_pass_X9 rfl 12 (by decide) (List.mem_of_getElem? (i := 1) rfl) (fun _ h9 => h9) rfl dX9_pass_15 ?_
  refine q_iconst (v := (3 : Int32)) C dX9_pass_18 (by decide) ?_
  refine q_ialdk C 3 (by decide) (by decide) (by decide) kM4 iM4 dX9_pass_19 ?_
  refine q_aload_n C 1 dX9_pass_20 rfl ?_
  refine q_geti (T := TX9) C kM0 iM0 inX9_pass_X9 rfl 8 (by decide) (List.mem_of_getElem? (i := 2) rfl) (fun _ h9 => h9) rfl dX9_pass_21 ?_
  refine q_imul C dX9_pass_24 ?_
  refine q_aload_n C 1 dX9_pass_25 rfl ?_
  refine q_geti (T := TX9) C kM0 iM0 inX9_pass_X9 rfl 1 (by decide) (List.mem_of_getElem? (i := 3) rfl) (fun _ h9 => h9) rfl dX9_pass_26 ?_
  refine q_iadd C dX9_pass_29 ?_
  refine q_aload_n C 1 dX9_pass_30 rfl ?_
  refine q_getr (T := TX9) C kM0 iM0 inX9_pass_X9 rfl 5 (by decide) (List.mem_of_getElem? (i := 4) rfl) (fun _ h9 => h9) rfl dX9_pass_31 ?_
  refine q_iload_n C 0 dX9_pass_34 rfl ?_
  refine q_aload_n C 1 dX9_pass_35 rfl ?_
  refine q_geti (T := TX9) C kM0 iM0 inX9_pass_X9 rfl 4 (by decide) (List.mem_of_getElem? (i := 5) rfl) (fun _ h9 => h9) rfl dX9_pass_36 ?_
  obtain ⟨g2, h⟩ := h
  refine q_irem C dX9_pass_39 g2 ?_
  obtain ⟨g3, h⟩ := h
  refine q_iald C kM1 iM1 g3 dX9_pass_40 ?_
  refine q_iadd C dX9_pass_41 ?_
  refine q_aload_n C 1 dX9_pass_42 rfl ?_
  refine q_iload_n C 0 dX9_pass_43 rfl ?_
  refine q_callVi (As := [.int x1]) (st := [.int ((((σ 4 3) * (σ 0 8)) + (σ 0 1)) + (σ 1 (x1 - x1 / (σ 0 4) * (σ 0 4)).toNatClampNeg)), .int (σ 4 1), .int (1 : Int32), .ref (qa Y 4)]) C (c_X9_jumpOf Y x1 σ _ h) gX9_pass_X9_jumpOf rfl ⟨rfl, nkX9_jumpOf⟩ rmOk_X9_pass__X9_jumpOf kM0 iM0 rfl rfl (Nat.le_of_ble_eq_true rfl) dX9_pass_44 rfl (fun x5 σ4 h => ?_)
  beta_reduce at h
  refine q_iadd C dX9_pass_47 ?_
  refine q_iadd C dX9_pass_48 ?_
  refine q_iastk C 1 (by decide) (by decide) (by decide) kM4 iM4 dX9_pass_49 ?_
  refine q_nmS (fun σ6 eσ6 => ?_)
  replace h := h σ6 eσ6
  refine q_aload_n C 1 dX9_pass_50 rfl ?_
  refine q_getr (T := TX9) C kM0 iM0 inX9_pass_X9 rfl 12 (by decide) (List.mem_of_getElem? (i := 1) rfl) (fun _ h9 => h9) rfl dX9_pass_51 ?_
  refine q_iconst (v := (2 : Int32)) C dX9_pass_54 (by decide) ?_
  refine q_dup2 C dX9_pass_55 rfl rfl ?_
  refine q_ialdk C 2 (by decide) (by decide) (by decide) kM4 iM4 dX9_pass_56 ?_
  refine q_aload_n C 1 dX9_pass_57 rfl ?_
  refine q_getr (T := TX9) C kM0 iM0 inX9_pass_X9 rfl 12 (by decide) (List.mem_of_getElem? (i := 1) rfl) (fun _ h9 => h9) rfl dX9_pass_58 ?_
  refine q_iconst (v := (4 : Int32)) C dX9_pass_61 (by decide) ?_
  refine q_ialdk C 4 (by decide) (by decide) (by decide) kM4 iM4 dX9_pass_62 ?_
  refine q_aload_n C 1 dX9_pass_63 rfl ?_
  refine q_geti (T := TX9) C kM0 iM0 inX9_pass_X9 rfl 8 (by decide) (List.mem_of_getElem? (i := 2) rfl) (fun _ h9 => h9) rfl dX9_pass_64 ?_
  refine q_imul C dX9_pass_67 ?_
  refine q_aload_n C 1 dX9_pass_68 rfl ?_
  refine q_geti (T := TX9) C kM0 iM0 inX9_pass_X9 rfl 2 (by decide) (List.mem_of_getElem? (i := 6) rfl) (fun _ h9 => h9) rfl dX9_pass_69 ?_
  refine q_iadd C dX9_pass_72 ?_
  refine q_iadd C dX9_pass_73 ?_
  refine q_iastk C 2 (by decide) (by decide) (by decide) kM4 iM4 dX9_pass_74 ?_
  refine q_nmS (fun σ7 eσ7 => ?_)
  replace h := h σ7 eσ7
  refine q_aload_n C 1 dX9_pass_75 rfl ?_
  refine q_getr (T := TX9) C kM0 iM0 inX9_pass_X9 rfl 12 (by decide) (List.mem_of_getElem? (i := 1) rfl) (fun _ h9 => h9) rfl dX9_pass_76 ?_
  refine q_iconst (v := (3 : Int32)) C dX9_pass_79 (by decide) ?_
  refine q_iconst (v := (0 : Int32)) C dX9_pass_80 (by decide) ?_
  refine q_iastk C 3 (by decide) (by decide) (by decide) kM4 iM4 dX9_pass_81 ?_
  refine q_nmS (fun σ8 eσ8 => ?_)
  replace h := h σ8 eσ8
  refine q_aload_n C 1 dX9_pass_82 rfl ?_
  refine q_getr (T := TX9) C kM0 iM0 inX9_pass_X9 rfl 12 (by decide) (List.mem_of_getElem? (i := 1) rfl) (fun _ h9 => h9) rfl dX9_pass_83 ?_
  refine q_iconst (v := (4 : Int32)) C dX9_pass_86 (by decide) ?_
  refine q_iconst (v := (0 : Int32)) C dX9_pass_87 (by decide) ?_
  refine q_iastk C 4 (by decide) (by decide) (by decide) kM4 iM4 dX9_pass_88 ?_
  refine q_nmS (fun σ9 eσ9 => ?_)
  replace h := h σ9 eσ9
  refine q_aload_n C 1 dX9_pass_89 rfl ?_
  refine q_getr (T := TX9) C kM0 iM0 inX9_pass_X9 rfl 12 (by decide) (List.mem_of_getElem? (i := 1) rfl) (fun _ h9 => h9) rfl dX9_pass_90 ?_
  refine q_iconst (v := (0 : Int32)) C dX9_pass_93 (by decide) ?_
  refine q_dup2 C dX9_pass_94 rfl rfl ?_
  refine q_ialdk C 0 (by decide) (by decide) (by decide) kM4 iM4 dX9_pass_95 ?_
  refine q_iconst (v := (1 : Int32)) C dX9_pass_96 (by decide) ?_
  refine q_iadd C dX9_pass_97 ?_
  refine q_iastk C 0 (by decide) (by decide) (by decide) kM4 iM4 dX9_pass_98 ?_
  refine q_nmS (fun σ10 eσ10 => ?_)
  replace h := h σ10 eσ10
  refine q_aload_n C 1 dX9_pass_99 rfl ?_
  refine q_getr (T := TX9) C kM0 iM0 inX9_pass_X9 rfl 12 (by decide) (List.mem_of_getElem? (i := 1) rfl) (fun _ h9 => h9) rfl dX9_pass_100 ?_
  refine q_iconst (v := (5 : Int32)) C dX9_pass_103 (by decide) ?_
  refine q_aload_n C 1 dX9_pass_104 rfl ?_
  refine q_getr (T := TX9) C kM0 iM0 inX9_pass_X9 rfl 12 (by decide) (List.mem_of_getElem? (i := 1) rfl) (fun _ h9 => h9) rfl dX9_pass_105 ?_
  refine q_iconst (v := (1 : Int32)) C dX9_pass_108 (by decide) ?_
  refine q_ialdk C 1 (by decide) (by decide) (by decide) kM4 iM4 dX9_pass_109 ?_
  refine q_callSi (As := [.int (σ10 4 1)]) (st := [.int (5 : Int32), .ref (qa Y 4)]) C (c_X9_size Y ((σ10 4 1)) σ10 _ h) gX9_pass_X9_size rfl nkX9_size rmOk_X9_pass__X9_size rfl (Nat.le_of_ble_eq_true rfl) dX9_pass_110 rfl (fun x12 σ11 h => ?_)
  beta_reduce at h
  refine q_aload_n C 1 dX9_pass_113 rfl ?_
  refine q_geti (T := TX9) C kM0 iM0 inX9_pass_X9 rfl 3 (by decide) (List.mem_of_getElem? (i := 7) rfl) (fun _ h9 => h9) rfl dX9_pass_114 ?_
  refine q_icmp_gt C 136 dX9_pass_117 (by decide) (fun c13 => ?_) (fun c13 => ?_)
  · replace h := h.1 c13
    refine q_sub (lv' := [(0, .ref (qa Y 0))]) [1] rfl ?_
    exact b_X9_pass_J136 C hQ (5 : Int32) σ11 h
  · replace h := h.2 c13
    refine q_aload_n C 1 dX9_pass_120 rfl ?_
    refine q_getr (T := TX9) C kM0 iM0 inX9_pass_X9 rfl 12 (by decide) (List.mem_of_getElem? (i := 1) rfl) (fun _ h9 => h9) rfl dX9_pass_121 ?_
    refine q_iconst (v := (2 : Int32)) C dX9_pass_124 (by decide) ?_
    refine q_ialdk C 2 (by decide) (by decide) (by decide) kM4 iM4 dX9_pass_125 ?_
    refine q_callSi (As := [.int (σ11 4 2)]) (st := [.int (5 : Int32), .ref (qa Y 4)]) C (c_X9_size Y ((σ11 4 2)) σ11 _ h) gX9_pass_X9_size rfl nkX9_size rmOk_X9_pass__X9_size rfl (Nat.le_of_ble_eq_true rfl) dX9_pass_126 rfl (fun x15 σ14 h => ?_)
    beta_reduce at h
    refine q_aload_n C 1 dX9_pass_129 rfl ?_
    refine q_geti (T := TX9) C kM0 iM0 inX9_pass_X9 rfl 3 (by decide) (List.mem_of_getElem? (i := 7) rfl) (fun _ h9 => h9) rfl dX9_pass_130 ?_
    refine q_icmp_le C 140 dX9_pass_133 (by decide) (fun c16 => ?_) (fun c16 => ?_)
    · replace h := h.1 c16
      refine q_iconst (v := (0 : Int32)) C dX9_pass_140 (by decide) ?_
      refine q_sub (lv' := [(0, .ref (qa Y 0))]) [1] rfl ?_
      exact b_X9_pass_J141 C hQ (0 : Int32) (5 : Int32) σ14 h
    · replace h := h.2 c16
      refine q_sub (lv' := [(0, .ref (qa Y 0))]) [1] rfl ?_
      exact b_X9_pass_J136 C hQ (5 : Int32) σ14 h
theorem c_X9_pass (Y : CY)  (σ : St) (Post : St → Prop) (h : w_X9_pass  σ Post) : Kv SM Y yX9_pass wsX9_pass rmX9_pass [.ref (qa Y 0)] σ Post :=
  Kv_of (cc := cX9_pass) (nL := 2) (ret := none) (by decide +kernel) rfl (Nat.le_of_ble_eq_true rfl) (fun Z C hQ => b_X9_pass C hQ  σ h)
abbrev rmX9_isReady : Room := { frames := 0, cells := 0, slots := 0, locals := 0 }
theorem nkX9_isReady : NmOk yX9_isReady 0 := by decide +kernel
theorem inX9_isReady_X9 : ∀ w ∈ u_ws RX9 TX9 47, w ∈ wsX9_isReady := fun _ h => List.mem_cons_of_mem _ (List.mem_append_right _ h)
def w_X9_isReady (σ : St) (Post : Int32 → St → Prop) : Prop := ((σ 0 0) = 0 → Post (0 : Int32) σ) ∧ (¬ (σ 0 0) = 0 → (¬ (σ 4 5) = 0 → Post (0 : Int32) σ) ∧ ((σ 4 5) = 0 → Post (1 : Int32) σ))
set_option maxHeartbeats 4000000 in
set_option maxRecDepth 100000 in
theorem b_X9_isReady {Y : CY} {Z : CZ} (C : cx SM 1 Y Z cX9_isReady RX9 wsX9_isReady (some .boolean) rmX9_isReady) {Post : Int32 → St → Prop} (hQ : Qi SM Y Z Post)  (σ : St) (h : w_X9_isReady  σ Post) : WW SM 1 Y Z σ 0 [(0, .ref (qa Y 0))] [] := by
  unfold w_X9_isReady at h
  refine q_aload_n C 0 dX9_isReady_0 rfl ?_
  refine q_geti (T := TX9) C kM0 iM0 inX9_isReady_X9 rfl 0 (by decide) (List.mem_of_getElem? (i := 1) rfl) (fun _ h9 => h9) rfl dX9_isReady_1 ?_
  refine q_if_eq C 20 dX9_isReady_4 (by decide) (fun c1 => ?_) (fun c1 => ?_)
  · replace h := h.1 c1
    refine q_iconst (v := (0 : Int32)) C dX9_isReady_20 (by decide) ?_
    exact q_zret C hQ (zb_n (by decide)) dX9_isReady_21 h
  · replace h := h.2 c1
    refine q_aload_n C 0 dX9_isReady_7 rfl ?_
    refine q_getr (T := TX9) C kM0 iM0 inX9_isReady_X9 rfl 12 (by decide) (List.mem_of_getElem? (i := 2) rfl) (fun _ h9 => h9) rfl dX9_isReady_8 ?_
    refine q_iconst (v := (5 : Int32)) C dX9_isReady_11 (by decide) ?_
    refine q_ialdk C 5 (by decide) (by decide) (by decide) kM4 iM4 dX9_isReady_12 ?_
    refine q_if_ne C 20 dX9_isReady_13 (by decide) (fun c2 => ?_) (fun c2 => ?_)
    · replace h := h.1 c2
      refine q_iconst (v := (0 : Int32)) C dX9_isReady_20 (by decide) ?_
      exact q_zret C hQ (zb_n (by decide)) dX9_isReady_21 h
    · replace h := h.2 c2
      refine q_iconst (v := (1 : Int32)) C dX9_isReady_16 (by decide) ?_
      refine q_goto C 21 dX9_isReady_17 (by decide) ?_
      exact q_zret C hQ (zb_n (by decide)) dX9_isReady_21 h
theorem c_X9_isReady (Y : CY)  (σ : St) (Post : Int32 → St → Prop) (h : w_X9_isReady  σ Post) : Ki SM Y yX9_isReady wsX9_isReady rmX9_isReady [.ref (qa Y 0)] σ Post :=
  Ki_of (cc := cX9_isReady) (nL := 1) (ret := (some .boolean)) (by decide +kernel) rfl (Nat.le_of_ble_eq_true rfl) (fun Z C hQ => b_X9_isReady C hQ  σ h)
abbrev rmX9_minutesRefused : Room := { frames := 1, cells := 0, slots := 0, locals := 25 }
theorem nkX9_minutesRefused : NmOk yX9_minutesRefused 1 := by decide +kernel
theorem rmOk_X9_minutesRefused__X9_in : RmOk rmX9_in rmX9_minutesRefused 6 := ⟨rfl, rfl, by decide, by decide⟩
theorem rmOk_X9_minutesRefused__X9_isReady : RmOk rmX9_isReady rmX9_minutesRefused 1 := ⟨rfl, rfl, by decide, by decide⟩
theorem inX9_minutesRefused_X9 : ∀ w ∈ u_ws RX9 TX9 47, w ∈ wsX9_minutesRefused := fun _ h => List.mem_cons_of_mem _ (List.mem_append_right _ h)
def w_X9_minutesRefused (p1 : Int32) (σ : St) (Post : Int32 → St → Prop) : Prop := w_X9_in (p1.toInt64) (1 : Int64) (99 : Int64) σ (fun x2 σ1 => (¬ x2 = 0 → w_X9_isReady σ1 (fun x5 σ4 => (¬ x5 = 0 → ((σ4 4 0) ≤ (9000 : Int32) → Post (0 : Int32) σ4) ∧ (¬ (σ4 4 0) ≤ (9000 : Int32) → Post (-1000000004 : Int32) σ4)) ∧ (x5 = 0 → Post (-1000000003 : Int32) σ4))) ∧ (x2 = 0 → Post (-1000000002 : Int32) σ1))
set_option maxHeartbeats 4000000 in
set_option maxRecDepth 100000 in
theorem b_X9_minutesRefused {Y : CY} {Z : CZ} (C : cx SM 2 Y Z cX9_minutesRefused RX9 wsX9_minutesRefused (some .int) rmX9_minutesRefused) {Post : Int32 → St → Prop} (hQ : Qi SM Y Z Post)  (p1 : Int32) (σ : St) (h : w_X9_minutesRefused p1 σ Post) : WW SM 2 Y Z σ 0 [(0, .ref (qa Y 0)), (1, .int p1)] [] := by
  unfold w_X9_minutesRefused at h
  refine q_iload_n C 1 dX9_minutesRefused_0 rfl ?_
  refine q_i2l C dX9_minutesRefused_1 ?_
  refine q_lconst (v := (1 : Int64)) C dX9_minutesRefused_2 (by decide) ?_
  refine q_ldc2 (v := (99 : Int64)) C (List.mem_of_getElem? (i := 1) rfl) dX9_minutesRefused_3 ?_
  refine q_callSi (As := [.long p1.toInt64, .long (1 : Int64), .long (99 : Int64)]) (st := []) C (c_X9_in Y (p1.toInt64) (1 : Int64) (99 : Int64) σ _ h) gX9_minutesRefused_X9_in rfl nkX9_in rmOk_X9_minutesRefused__X9_in rfl (Nat.le_of_ble_eq_true rfl) dX9_minutesRefused_6 rfl (fun x2 σ1 h => ?_)
  beta_reduce at h
  refine q_if_ne C 15 dX9_minutesRefused_9 (by decide) (fun c3 => ?_) (fun c3 => ?_)
  · replace h := h.1 c3
    refine q_aload_n C 0 dX9_minutesRefused_15 rfl ?_
    refine q_callVi (As := []) (st := []) C (c_X9_isReady Y σ1 _ h) gX9_minutesRefused_X9_isReady rfl ⟨rfl, nkX9_isReady⟩ rmOk_X9_minutesRefused__X9_isReady kM0 iM0 rfl rfl (Nat.le_of_ble_eq_true rfl) dX9_minutesRefused_16 rfl (fun x5 σ4 h => ?_)
    beta_reduce at h
    refine q_if_ne C 27 dX9_minutesRefused_19 (by decide) (fun c6 => ?_) (fun c6 => ?_)
    · replace h := h.1 c6
      refine q_aload_n C 0 dX9_minutesRefused_27 rfl ?_
      refine q_getr (T := TX9) C kM0 iM0 inX9_minutesRefused_X9 rfl 12 (by decide) (List.mem_of_getElem? (i := 4) rfl) (fun _ h9 => h9) rfl dX9_minutesRefused_28 ?_
      refine q_iconst (v := (0 : Int32)) C dX9_minutesRefused_31 (by decide) ?_
      refine q_ialdk C 0 (by decide) (by decide) (by decide) kM4 iM4 dX9_minutesRefused_32 ?_
      refine q_sipush (v := (9000 : Int32)) C dX9_minutesRefused_33 (by decide) ?_
      refine q_icmp_le C 44 dX9_minutesRefused_36 (by decide) (fun c7 => ?_) (fun c7 => ?_)
      · replace h := h.1 c7
        refine q_iconst (v := (0 : Int32)) C dX9_minutesRefused_44 (by decide) ?_
        exact q_iret C hQ dX9_minutesRefused_45 h
      · replace h := h.2 c7
        refine q_ldc (v := (-1000000004 : Int32)) C (List.mem_of_getElem? (i := 5) rfl) dX9_minutesRefused_39 ?_
        refine q_goto C 45 dX9_minutesRefused_41 (by decide) ?_
        exact q_iret C hQ dX9_minutesRefused_45 h
    · replace h := h.2 c6
      refine q_ldc (v := (-1000000003 : Int32)) C (List.mem_of_getElem? (i := 3) rfl) dX9_minutesRefused_22 ?_
      refine q_goto C 45 dX9_minutesRefused_24 (by decide) ?_
      exact q_iret C hQ dX9_minutesRefused_45 h
  · replace h := h.2 c3
    refine q_ldc (v := (-1000000002 : Int32)) C (List.mem_of_getElem? (i := 2) rfl) dX9_minutesRefused_12 ?_
    exact q_iret C hQ dX9_minutesRefused_14 h
theorem c_X9_minutesRefused (Y : CY)  (p1 : Int32) (σ : St) (Post : Int32 → St → Prop) (h : w_X9_minutesRefused p1 σ Post) : Ki SM Y yX9_minutesRefused wsX9_minutesRefused rmX9_minutesRefused [.ref (qa Y 0), .int p1] σ Post :=
  Ki_of (cc := cX9_minutesRefused) (nL := 2) (ret := (some .int)) (by decide +kernel) rfl (Nat.le_of_ble_eq_true rfl) (fun Z C hQ => b_X9_minutesRefused C hQ  p1 σ h)
abbrev rmX9_remember : Room := { frames := 0, cells := 0, slots := 0, locals := 0 }
theorem nkX9_remember : NmOk yX9_remember 0 := by decide +kernel
theorem inX9_remember_X9 : ∀ w ∈ u_ws RX9 TX9 47, w ∈ wsX9_remember := fun _ h => List.mem_cons_of_mem _ (List.mem_append_right _ h)
def w_X9_remember_B52 (Post : St → Prop) (K52 : Int32 → St → Prop) (x1 : Int32) (σ : St) : Prop := ((12 : Int32) ≤ x1 → ∀ σ9 : St, σ9 = up σ 0 31 (((σ 0 31) + (1 : Int32))) → Post σ9) ∧ (¬ (12 : Int32) ≤ x1 → (vp_in x1 12) ∧ ((vp_in (((12 : Int32) * (σ 0 31)) + x1) 240) ∧ (∀ σ11 : St, σ11 = up σ 12 (((12 : Int32) * (σ 0 31)) + x1).toNatClampNeg ((σ 4 x1.toNatClampNeg)) → ∀ x12 : Int32, x12 = x1 + (1 : Int32) → K52 x12 σ11)))
def w_X9_remember_L52 (Post : St → Prop) : Nat → Int32 → St → Prop
  | 0 => fun _ _ => False
  | n + 1 => w_X9_remember_B52   Post (w_X9_remember_L52   Post n)
def w_X9_remember_J50 (Post : St → Prop) (σ : St) : Prop := w_X9_remember_L52 Post FU (0 : Int32) σ
def w_X9_remember_B12 (Post : St → Prop) (K12 : Int32 → St → Prop) (x1 : Int32) (σ : St) : Prop := ((240 : Int32) ≤ x1 → ∀ σ3 : St, σ3 = up σ 0 31 (((σ 0 31) - (1 : Int32))) → w_X9_remember_J50 Post σ3) ∧ (¬ (240 : Int32) ≤ x1 → (vp_in x1 240) ∧ ((vp_in (x1 - (12 : Int32)) 240) ∧ (∀ σ5 : St, σ5 = up σ 12 (x1 - (12 : Int32)).toNatClampNeg ((σ 12 x1.toNatClampNeg)) → ∀ x6 : Int32, x6 = x1 + (1 : Int32) → K12 x6 σ5)))
def w_X9_remember_L12 (Post : St → Prop) : Nat → Int32 → St → Prop
  | 0 => fun _ _ => False
  | n + 1 => w_X9_remember_B12   Post (w_X9_remember_L12   Post n)
def w_X9_remember (σ : St) (Post : St → Prop) : Prop := (¬ (σ 0 31) = (20 : Int32) → w_X9_remember_J50 Post σ) ∧ ((σ 0 31) = (20 : Int32) → w_X9_remember_L12 Post FU (12 : Int32) σ)
set_option maxHeartbeats 4000000 in
set_option maxRecDepth 100000 in
theorem b_X9_remember_B52 {Y : CY} {Z : CZ} (C : cx SM 2 Y Z cX9_remember RX9 wsX9_remember none rmX9_remember) {Post : St → Prop} (hQ : Qv SM Y Z Post)  {K52 : Int32 → St → Prop} (hK52 : ∀ (x1 : Int32) (σ : St), K52 x1 σ → WW SM 2 Y Z σ 52 [(0, .ref (qa Y 0)), (1, .int x1)] []) (x1 : Int32) (σ : St) (h : w_X9_remember_B52  Post K52 x1 σ) : WW SM 2 Y Z σ 52 [(0, .ref (qa Y 0)), (1, .int x1)] [] := by
  unfold w_X9_remember_B52 at h
  refine q_iload_n C 1 dX9_remember_52 rfl ?_
  refine q_bipush (v := (12 : Int32)) C dX9_remember_53 (by decide) ?_
  refine q_icmp_ge C 84 dX9_remember_55 (by decide) (fun c8 => ?_) (fun c8 => ?_)
  · replace h := h.1 c8
    refine q_aload_n C 0 dX9_remember_84 rfl ?_
    refine q_dup C dX9_remember_85 rfl ?_
    refine q_geti (T := TX9) C kM0 iM0 inX9_remember_X9 rfl 31 (by decide) (List.mem_of_getElem? (i := 1) rfl) (fun _ h9 => h9) rfl dX9_remember_86 ?_
    refine q_iconst (v := (1 : Int32)) C dX9_remember_89 (by decide) ?_
    refine q_iadd C dX9_remember_90 ?_
    refine q_puti (T := TX9) C kM0 iM0 inX9_remember_X9 rfl tyX9 tyX9_ok nmX9 31 (by decide) (List.mem_of_getElem? (i := 1) rfl) (fun _ h9 => h9) rfl dgM0 rfl (ni_n _) (ni_f _) dX9_remember_91 ?_
    refine q_nmS (fun σ9 eσ9 => ?_)
    replace h := h σ9 eσ9
    exact q_vret C hQ dX9_remember_94 h
  · replace h := h.2 c8
    refine q_aload_n C 0 dX9_remember_58 rfl ?_
    refine q_getr (T := TX9) C kM0 iM0 inX9_remember_X9 rfl 32 (by decide) (List.mem_of_getElem? (i := 2) rfl) (fun _ h9 => h9) rfl dX9_remember_59 ?_
    refine q_bipush (v := (12 : Int32)) C dX9_remember_62 (by decide) ?_
    refine q_aload_n C 0 dX9_remember_64 rfl ?_
    refine q_geti (T := TX9) C kM0 iM0 inX9_remember_X9 rfl 31 (by decide) (List.mem_of_getElem? (i := 1) rfl) (fun _ h9 => h9) rfl dX9_remember_65 ?_
    refine q_imul C dX9_remember_68 ?_
    refine q_iload_n C 1 dX9_remember_69 rfl ?_
    refine q_iadd C dX9_remember_70 ?_
    refine q_aload_n C 0 dX9_remember_71 rfl ?_
    refine q_getr (T := TX9) C kM0 iM0 inX9_remember_X9 rfl 12 (by decide) (List.mem_of_getElem? (i := 3) rfl) (fun _ h9 => h9) rfl dX9_remember_72 ?_
    refine q_iload_n C 1 dX9_remember_75 rfl ?_
    obtain ⟨g10, h⟩ := h
    refine q_iald C kM4 iM4 g10 dX9_remember_76 ?_
    obtain ⟨g13, h⟩ := h
    refine q_iast C kM12 iM12 g13 dX9_remember_77 ?_
    refine q_nmS (fun σ11 eσ11 => ?_)
    replace h := h σ11 eσ11
    obtain ⟨x12, ex12⟩ : ∃ y : Int32, y = x1 + (1 : Int32) := ⟨_, rfl⟩
    replace h := h x12 ex12
    refine q_iinc C x12 1 [(1, .int x12), (0, .ref (qa Y 0))] dX9_remember_78 rfl (by rw [ex12]; rfl) (by decide) rfl ?_
    refine q_goto C 52 dX9_remember_81 (by decide) ?_
    refine q_sub (lv' := [(0, .ref (qa Y 0)), (1, .int x12)]) [1, 0] rfl ?_
    exact hK52 x12 σ11 h
theorem b_X9_remember_L52 {Y : CY} {Z : CZ} (C : cx SM 2 Y Z cX9_remember RX9 wsX9_remember none rmX9_remember) {Post : St → Prop} (hQ : Qv SM Y Z Post)  : ∀ (n : Nat) (x1 : Int32) (σ : St) (h : w_X9_remember_L52  Post n x1 σ), WW SM 2 Y Z σ 52 [(0, .ref (qa Y 0)), (1, .int x1)] [] := by
  intro n
  induction n with
  | zero => intro x1 σ h; exact h.elim
  | succ n ih => intro x1 σ h; exact b_X9_remember_B52 C hQ  ih x1 σ h
set_option maxHeartbeats 4000000 in
set_option maxRecDepth 100000 in
theorem b_X9_remember_J50 {Y : CY} {Z : CZ} (C : cx SM 2 Y Z cX9_remember RX9 wsX9_remember none rmX9_remember) {Post : St → Prop} (hQ : Qv SM Y Z Post)  (σ : St) (h : w_X9_remember_J50  Post σ) : WW SM 2 Y Z σ 50 [(0, .ref (qa Y 0))] [] := by
  unfold w_X9_remember_J50 at h
  refine q_iconst (v := (0 : Int32)) C dX9_remember_50 (by decide) ?_
  refine q_istore_n C [(1, .int (0 : Int32)), (0, .ref (qa Y 0))] dX9_remember_51 (by decide) rfl ?_
  refine q_sub (lv' := [(0, .ref (qa Y 0)), (1, .int (0 : Int32))]) [1, 0] rfl ?_
  exact b_X9_remember_L52 C hQ FU (0 : Int32) σ h
set_option maxHeartbeats 4000000 in
set_option maxRecDepth 100000 in
theorem b_X9_remember_B12 {Y : CY} {Z : CZ} (C : cx SM 2 Y Z cX9_remember RX9 wsX9_remember none rmX9_remember) {Post : St → Prop} (hQ : Qv SM Y Z Post)  {K12 : Int32 → St → Prop} (hK12 : ∀ (x1 : Int32) (σ : St), K12 x1 σ → WW SM 2 Y Z σ 12 [(0, .ref (qa Y 0)), (1, .int x1)] []) (x1 : Int32) (σ : St) (h : w_X9_remember_B12  Post K12 x1 σ) : WW SM 2 Y Z σ 12 [(0, .ref (qa Y 0)), (1, .int x1)] [] := by
  unfold w_X9_remember_B12 at h
  refine q_iload_n C 1 dX9_remember_12 rfl ?_
  refine q_sipush (v := (240 : Int32)) C dX9_remember_13 (by decide) ?_
  refine q_icmp_ge C 40 dX9_remember_16 (by decide) (fun c2 => ?_) (fun c2 => ?_)
  · replace h := h.1 c2
    refine q_aload_n C 0 dX9_remember_40 rfl ?_
    refine q_dup C dX9_remember_41 rfl ?_
    refine q_geti (T := TX9) C kM0 iM0 inX9_remember_X9 rfl 31 (by decide) (List.mem_of_getElem? (i := 1) rfl) (fun _ h9 => h9) rfl dX9_remember_42 ?_
    refine q_iconst (v := (1 : Int32)) C dX9_remember_45 (by decide) ?_
    refine q_isub C dX9_remember_46 ?_
    refine q_puti (T := TX9) C kM0 iM0 inX9_remember_X9 rfl tyX9 tyX9_ok nmX9 31 (by decide) (List.mem_of_getElem? (i := 1) rfl) (fun _ h9 => h9) rfl dgM0 rfl (ni_n _) (ni_f _) dX9_remember_47 ?_
    refine q_nmS (fun σ3 eσ3 => ?_)
    replace h := h σ3 eσ3
    refine q_sub (lv' := [(0, .ref (qa Y 0))]) [0] rfl ?_
    exact b_X9_remember_J50 C hQ σ3 h
  · replace h := h.2 c2
    refine q_aload_n C 0 dX9_remember_19 rfl ?_
    refine q_getr (T := TX9) C kM0 iM0 inX9_remember_X9 rfl 32 (by decide) (List.mem_of_getElem? (i := 2) rfl) (fun _ h9 => h9) rfl dX9_remember_20 ?_
    refine q_iload_n C 1 dX9_remember_23 rfl ?_
    refine q_bipush (v := (12 : Int32)) C dX9_remember_24 (by decide) ?_
    refine q_isub C dX9_remember_26 ?_
    refine q_aload_n C 0 dX9_remember_27 rfl ?_
    refine q_getr (T := TX9) C kM0 iM0 inX9_remember_X9 rfl 32 (by decide) (List.mem_of_getElem? (i := 2) rfl) (fun _ h9 => h9) rfl dX9_remember_28 ?_
    refine q_iload_n C 1 dX9_remember_31 rfl ?_
    obtain ⟨g4, h⟩ := h
    refine q_iald C kM12 iM12 g4 dX9_remember_32 ?_
    obtain ⟨g7, h⟩ := h
    refine q_iast C kM12 iM12 g7 dX9_remember_33 ?_
    refine q_nmS (fun σ5 eσ5 => ?_)
    replace h := h σ5 eσ5
    obtain ⟨x6, ex6⟩ : ∃ y : Int32, y = x1 + (1 : Int32) := ⟨_, rfl⟩
    replace h := h x6 ex6
    refine q_iinc C x6 1 [(1, .int x6), (0, .ref (qa Y 0))] dX9_remember_34 rfl (by rw [ex6]; rfl) (by decide) rfl ?_
    refine q_goto C 12 dX9_remember_37 (by decide) ?_
    refine q_sub (lv' := [(0, .ref (qa Y 0)), (1, .int x6)]) [1, 0] rfl ?_
    exact hK12 x6 σ5 h
theorem b_X9_remember_L12 {Y : CY} {Z : CZ} (C : cx SM 2 Y Z cX9_remember RX9 wsX9_remember none rmX9_remember) {Post : St → Prop} (hQ : Qv SM Y Z Post)  : ∀ (n : Nat) (x1 : Int32) (σ : St) (h : w_X9_remember_L12  Post n x1 σ), WW SM 2 Y Z σ 12 [(0, .ref (qa Y 0)), (1, .int x1)] [] := by
  intro n
  induction n with
  | zero => intro x1 σ h; exact h.elim
  | succ n ih => intro x1 σ h; exact b_X9_remember_B12 C hQ  ih x1 σ h
set_option maxHeartbeats 4000000 in
set_option maxRecDepth 100000 in
theorem b_X9_remember {Y : CY} {Z : CZ} (C : cx SM 2 Y Z cX9_remember RX9 wsX9_remember none rmX9_remember) {Post : St → Prop} (hQ : Qv SM Y Z Post)  (σ : St) (h : w_X9_remember  σ Post) : WW SM 2 Y Z σ 0 [(0, .ref (qa Y 0))] [] := by
  unfold w_X9_remember at h
  refine q_aload_n C 0 dX9_remember_0 rfl ?_
  refine q_geti (T := TX9) C kM0 iM0 inX9_remember_X9 rfl 31 (by decide) (List.mem_of_getElem? (i := 1) rfl) (fun _ h9 => h9) rfl dX9_remember_1 ?_
  refine q_bipush (v := (20 : Int32)) C dX9_remember_4 (by decide) ?_
  refine q_icmp_ne C 50 dX9_remember_6 (by decide) (fun c1 => ?_) (fun c1 => ?_)
  · replace h := h.1 c1
    exact b_X9_remember_J50 C hQ σ h
  · replace h := h.2 c1
    refine q_bipush (v := (12 : Int32)) C dX9_remember_9 (by decide) ?_
    refine q_istore_n C [(1, .int (12 : Int32)), (0, .ref (qa Y 0))] dX9_remember_11 (by decide) rfl ?_
    refine q_sub (lv' := [(0, .ref (qa Y 0)), (1, .int (12 : Int32))]) [1, 0] rfl ?_
    exact b_X9_remember_L12 C hQ FU (12 : Int32) σ h
theorem c_X9_remember (Y : CY)  (σ : St) (Post : St → Prop) (h : w_X9_remember  σ Post) : Kv SM Y yX9_remember wsX9_remember rmX9_remember [.ref (qa Y 0)] σ Post :=
  Kv_of (cc := cX9_remember) (nL := 2) (ret := none) (by decide +kernel) rfl (Nat.le_of_ble_eq_true rfl) (fun Z C hQ => b_X9_remember C hQ  σ h)
abbrev rmX9_minute : Room := { frames := 2, cells := 0, slots := 0, locals := 46 }
theorem nkX9_minute : NmOk yX9_minute 1 := by decide +kernel
theorem rmOk_X9_minute__X9_minutesRefused : RmOk rmX9_minutesRefused rmX9_minute 2 := ⟨rfl, rfl, by decide, by decide⟩
theorem rmOk_X9_minute__X9_pass : RmOk rmX9_pass rmX9_minute 2 := ⟨rfl, rfl, by decide, by decide⟩
theorem rmOk_X9_minute__X9_remember : RmOk rmX9_remember rmX9_minute 2 := ⟨rfl, rfl, by decide, by decide⟩
theorem inX9_minute_X9 : ∀ w ∈ u_ws RX9 TX9 47, w ∈ wsX9_minute := fun _ h => List.mem_cons_of_mem _ (List.mem_append_right _ h)
def w_X9_minute_J42 (Post : Int32 → St → Prop) (σ : St) : Prop := Post (((σ 4 1) + (10000 : Int32))) σ
def w_X9_minute_B18 (Post : Int32 → St → Prop) (K18 : Int32 → Int32 → St → Prop) (x1 : Int32) (x3 : Int32) (σ : St) : Prop := (x1 ≤ x3 → w_X9_minute_J42 Post σ) ∧ (¬ x1 ≤ x3 → (¬ (σ 4 5) = 0 → w_X9_minute_J42 Post σ) ∧ ((σ 4 5) = 0 → w_X9_pass σ (fun σ7 => ∀ x8 : Int32, x8 = x3 + (1 : Int32) → K18 x1 x8 σ7)))
def w_X9_minute_L18 (Post : Int32 → St → Prop) : Nat → Int32 → Int32 → St → Prop
  | 0 => fun _ _ _ => False
  | n + 1 => w_X9_minute_B18   Post (w_X9_minute_L18   Post n)
def w_X9_minute (p1 : Int32) (σ : St) (Post : Int32 → St → Prop) : Prop := w_X9_minutesRefused p1 σ (fun x2 σ1 => (x2 = 0 → w_X9_remember σ1 (fun σ4 => w_X9_minute_L18 Post FU p1 (0 : Int32) σ4)) ∧ (¬ x2 = 0 → Post x2 σ1))
set_option maxHeartbeats 4000000 in
set_option maxRecDepth 100000 in
theorem b_X9_minute_J42 {Y : CY} {Z : CZ} (C : cx SM 4 Y Z cX9_minute RX9 wsX9_minute (some .int) rmX9_minute) {Post : Int32 → St → Prop} (hQ : Qi SM Y Z Post)  (σ : St) (h : w_X9_minute_J42  Post σ) : WW SM 4 Y Z σ 42 [(0, .ref (qa Y 0))] [] := by
  unfold w_X9_minute_J42 at h
  refine q_aload_n C 0 dX9_minute_42 rfl ?_
  refine q_getr (T := TX9) C kM0 iM0 inX9_minute_X9 rfl 12 (by decide) (List.mem_of_getElem? (i := 1) rfl) (fun _ h9 => h9) rfl dX9_minute_43 ?_
  refine q_iconst (v := (1 : Int32)) C dX9_minute_46 (by decide) ?_
  refine q_ialdk C 1 (by decide) (by decide) (by decide) kM4 iM4 dX9_minute_47 ?_
  refine q_sipush (v := (10000 : Int32)) C dX9_minute_48 (by decide) ?_
  refine q_iadd C dX9_minute_51 ?_
  exact q_iret C hQ dX9_minute_52 h
set_option maxHeartbeats 4000000 in
set_option maxRecDepth 100000 in
theorem b_X9_minute_B18 {Y : CY} {Z : CZ} (C : cx SM 4 Y Z cX9_minute RX9 wsX9_minute (some .int) rmX9_minute) {Post : Int32 → St → Prop} (hQ : Qi SM Y Z Post)  {K18 : Int32 → Int32 → St → Prop} (hK18 : ∀ (x1 : Int32) (x3 : Int32) (σ : St), K18 x1 x3 σ → WW SM 4 Y Z σ 18 [(0, .ref (qa Y 0)), (1, .int x1), (3, .int x3)] []) (x1 : Int32) (x3 : Int32) (σ : St) (h : w_X9_minute_B18  Post K18 x1 x3 σ) : WW SM 4 Y Z σ 18 [(0, .ref (qa Y 0)), (1, .int x1), (3, .int x3)] [] := by
  unfold w_X9_minute_B18 at h
  refine q_iload_n C 2 dX9_minute_18 rfl ?_
  refine q_iload_n C 1 dX9_minute_19 rfl ?_
  refine q_icmp_ge C 42 dX9_minute_20 (by decide) (fun c5 => ?_) (fun c5 => ?_)
  · replace h := h.1 c5
    refine q_sub (lv' := [(0, .ref (qa Y 0))]) [0] rfl ?_
    exact b_X9_minute_J42 C hQ σ h
  · replace h := h.2 c5
    refine q_aload_n C 0 dX9_minute_23 rfl ?_
    refine q_getr (T := TX9) C kM0 iM0 inX9_minute_X9 rfl 12 (by decide) (List.mem_of_getElem? (i := 1) rfl) (fun _ h9 => h9) rfl dX9_minute_24 ?_
    refine q_iconst (v := (5 : Int32)) C dX9_minute_27 (by decide) ?_
    refine q_ialdk C 5 (by decide) (by decide) (by decide) kM4 iM4 dX9_minute_28 ?_
    refine q_if_ne C 42 dX9_minute_29 (by decide) (fun c6 => ?_) (fun c6 => ?_)
    · replace h := h.1 c6
      refine q_sub (lv' := [(0, .ref (qa Y 0))]) [0] rfl ?_
      exact b_X9_minute_J42 C hQ σ h
    · replace h := h.2 c6
      refine q_aload_n C 0 dX9_minute_32 rfl ?_
      refine q_callVv (As := []) (st := []) C (c_X9_pass Y σ _ h) gX9_minute_X9_pass rfl ⟨rfl, nkX9_pass⟩ rmOk_X9_minute__X9_pass kM0 iM0 rfl rfl (Nat.le_of_ble_eq_true rfl) dX9_minute_33 rfl (fun σ7 h => ?_)
      beta_reduce at h
      obtain ⟨x8, ex8⟩ : ∃ y : Int32, y = x3 + (1 : Int32) := ⟨_, rfl⟩
      replace h := h x8 ex8
      refine q_iinc C x8 2 [(3, .int x8), (0, .ref (qa Y 0)), (1, .int x1)] dX9_minute_36 rfl (by rw [ex8]; rfl) (by decide) rfl ?_
      refine q_goto C 18 dX9_minute_39 (by decide) ?_
      refine q_sub (lv' := [(0, .ref (qa Y 0)), (1, .int x1), (3, .int x8)]) [1, 2, 0] rfl ?_
      exact hK18 x1 x8 σ7 h
theorem b_X9_minute_L18 {Y : CY} {Z : CZ} (C : cx SM 4 Y Z cX9_minute RX9 wsX9_minute (some .int) rmX9_minute) {Post : Int32 → St → Prop} (hQ : Qi SM Y Z Post)  : ∀ (n : Nat) (x1 : Int32) (x3 : Int32) (σ : St) (h : w_X9_minute_L18  Post n x1 x3 σ), WW SM 4 Y Z σ 18 [(0, .ref (qa Y 0)), (1, .int x1), (3, .int x3)] [] := by
  intro n
  induction n with
  | zero => intro x1 x3 σ h; exact h.elim
  | succ n ih => intro x1 x3 σ h; exact b_X9_minute_B18 C hQ  ih x1 x3 σ h
set_option maxHeartbeats 4000000 in
set_option maxRecDepth 100000 in
theorem b_X9_minute {Y : CY} {Z : CZ} (C : cx SM 4 Y Z cX9_minute RX9 wsX9_minute (some .int) rmX9_minute) {Post : Int32 → St → Prop} (hQ : Qi SM Y Z Post)  (p1 : Int32) (σ : St) (h : w_X9_minute p1 σ Post) : WW SM 4 Y Z σ 0 [(0, .ref (qa Y 0)), (1, .int p1)] [] := by
  unfold w_X9_minute at h
  refine q_aload_n C 0 dX9_minute_0 rfl ?_
  refine q_iload_n C 1 dX9_minute_1 rfl ?_
  refine q_callVi (As := [.int p1]) (st := []) C (c_X9_minutesRefused Y p1 σ _ h) gX9_minute_X9_minutesRefused rfl ⟨rfl, nkX9_minutesRefused⟩ rmOk_X9_minute__X9_minutesRefused kM0 iM0 rfl rfl (Nat.le_of_ble_eq_true rfl) dX9_minute_2 rfl (fun x2 σ1 h => ?_)
  beta_reduce at h
  refine q_istore_n C [(2, .int x2), (0, .ref (qa Y 0)), (1, .int p1)] dX9_minute_5 (by decide) rfl ?_
  refine q_iload_n C 0 dX9_minute_6 rfl ?_
  refine q_if_eq C 12 dX9_minute_7 (by decide) (fun c3 => ?_) (fun c3 => ?_)
  · replace h := h.1 c3
    refine q_aload_n C 1 dX9_minute_12 rfl ?_
    refine q_callVv (As := []) (st := []) C (c_X9_remember Y σ1 _ h) gX9_minute_X9_remember rfl ⟨rfl, nkX9_remember⟩ rmOk_X9_minute__X9_remember kM0 iM0 rfl rfl (Nat.le_of_ble_eq_true rfl) dX9_minute_13 rfl (fun σ4 h => ?_)
    beta_reduce at h
    refine q_iconst (v := (0 : Int32)) C dX9_minute_16 (by decide) ?_
    refine q_istore_n C [(3, .int (0 : Int32)), (2, .int x2), (0, .ref (qa Y 0)), (1, .int p1)] dX9_minute_17 (by decide) rfl ?_
    refine q_sub (lv' := [(0, .ref (qa Y 0)), (1, .int p1), (3, .int (0 : Int32))]) [2, 3, 0] rfl ?_
    exact b_X9_minute_L18 C hQ FU p1 (0 : Int32) σ4 h
  · replace h := h.2 c3
    refine q_iload_n C 0 dX9_minute_10 rfl ?_
    exact q_iret C hQ dX9_minute_11 h
theorem c_X9_minute (Y : CY)  (p1 : Int32) (σ : St) (Post : Int32 → St → Prop) (h : w_X9_minute p1 σ Post) : Ki SM Y yX9_minute wsX9_minute rmX9_minute [.ref (qa Y 0), .int p1] σ Post :=
  Ki_of (cc := cX9_minute) (nL := 4) (ret := (some .int)) (by decide +kernel) rfl (Nat.le_of_ble_eq_true rfl) (fun Z C hQ => b_X9_minute C hQ  p1 σ h)
