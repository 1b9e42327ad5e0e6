/-! ===== the constructors ===== -/
def PI (D : va_G) (cy : Nat → ClassId) (ws : va_W) (sz : Nat) : State → Prop := fun U => U.heap.size = sz ∧ va_P D vwCl ws U.heap ∧ va_K D vwCl (tyA cy) U ∧ va_D (fun _ => True) ws ∧ va_Nw nwW U ∧ va_AO RX4 U
theorem PI_blind {D : va_G} {cy : Nat → ClassId} {ws : va_W} {sz : Nat} {As : List Value} : FrameBlind (va_Pc As (PI D cy ws sz)) := fun _ U g mk q => ⟨q.1, q.2.1, q.2.2.1, va_K.moved (u := U) (U := U.calling g mk _) (Vm.Alike.refl U.vm) q.2.2.2.1, q.2.2.2.2.1, va_Nw.same (w := nwW) rfl (rfl : U.vm = (U.calling g mk _).vm) q.2.2.2.2.2.1, va_AO.moved (u := U) (U := U.calling g mk _) (Vm.Alike.refl U.vm) q.2.2.2.2.2.2⟩
theorem cA_0 {D : va_G} {cy : Nat → ClassId} {cA : ClassId} {s : State} (h : va_K D vwCl (tyA cy ++ [(cA, .int)]) s) : cA = cy 0 := Option.some.inj ((h.2 3 (cA, .int) rfl).2.symm.trans (h.2 0 (cy 0, .int) rfl).2)
theorem cA_1 {D : va_G} {cy : Nat → ClassId} {cA : ClassId} {s : State} (h : va_K D vwCl (tyA cy ++ [(cA, .boolean)]) s) : cA = cy 1 := Option.some.inj ((h.2 3 (cA, .boolean) rfl).2.symm.trans (h.2 1 (cy 1, .boolean) rfl).2)
theorem cA_2 {D : va_G} {cy : Nat → ClassId} {cA : ClassId} {s : State} (h : va_K D vwCl (tyA cy ++ [(cA, .object RX4)]) s) : cA = cy 2 := by
  obtain ⟨_, _, _, _, _, h1⟩ := (h.2 3 (cA, .object RX4) rfl).2
  obtain ⟨_, _, _, _, _, h2⟩ := (h.2 2 (cy 2, .object RX4) rfl).2
  exact Option.some.inj (h1.symm.trans h2)
def resX4 (cy : Nat → ClassId) (h0 : Nat) : va_W := [(h0, .inr (4, [.int 0, .int 0, .int 0, .int 0, .int 0, .int 0, .int 0, .int 0, .int 0, .int 0, .int 0, .int 0]))]
def iQ_X4 (D : va_G) (cy : Nat → ClassId) (h0 : Nat) (A : Nat → Prop) (t : State) : Prop := va_P D vwCl (resX4 cy h0) t.heap ∧ va_K D vwCl (tyA cy) t ∧ va_D A (resX4 cy h0)
set_option maxHeartbeats 4000000 in
set_option maxRecDepth 100000 in
theorem i_X4 (l : Launch) (D : va_G) (cy : Nat → ClassId) (h0 : Nat) (sz : Nat) : Met l yX4_init wsX4_init ({ frames := 1, cells := 0, slots := 0, locals := 12 }) (va_Pc [.ref h0] (PI D cy [(h0, .inr (4, [.int 0, .int 0, .int 0, .int 0, .int 0, .int 0, .int 0, .int 0, .int 0, .int 0, .int 0, .int 0]))] sz)) (va_Qv (fun _ : Unit => True) (fun _ t => iQ_X4 D cy h0 (va_A [(h0, .inr (4, [.int 0, .int 0, .int 0, .int 0, .int 0, .int 0, .int 0, .int 0, .int 0, .int 0, .int 0, .int 0]))] sz) t) (va_A [(h0, .inr (4, [.int 0, .int 0, .int 0, .int 0, .int 0, .int 0, .int 0, .int 0, .int 0, .int 0, .int 0, .int 0]))] sz)) 0 0 (va_A [(h0, .inr (4, [.int 0, .int 0, .int 0, .int 0, .int 0, .int 0, .int 0, .int 0, .int 0, .int 0, .int 0, .int 0]))] sz) := by
  refine Met.ofW (cc := cX4_init) (maxL := 1) (ret := none) (by decide) rfl ?_
  intro p e s m args below meth c s₁ B hml hv
  obtain ⟨rfl, hsz, hP, hK, hD0, hN, hO⟩ := hv
  have hx := B.exec
  have hb := B.bytes
  have hr := B.returns
  have hts := atoms_spec (ws := wsX4_init) B.pre
  have hown : s.vm.findClass RX4 = some m.cls := findClass_of_methodNamed B.named
  have hlocks := B.notSynchronized
  have hin : meth.name = "<init>" := (name_of_methodNamed B.named B.method).1
  subst hsz
  have hD := hD0.self (sz := s.heap.size)
  generalize hAe : va_A [(h0, .inr (4, [.int 0, .int 0, .int 0, .int 0, .int 0, .int 0, .int 0, .int 0, .int 0, .int 0, .int 0, .int 0]))] s.heap.size = A at hD ⊢
  have hA : ∀ q : Nat, s.heap.size ≤ q → A q := fun q h => by rw [← hAe]; exact Or.inr h
  have hS : va_S A s.heap s.heap [] := va_S.rf
  have hP : va_P D vwCl [(h0, .inr (4, [.int 0, .int 0, .int 0, .int 0, .int 0, .int 0, .int 0, .int 0, .int 0, .int 0, .int 0, .int 0]))] s.heap := hP
  have hl := lv_entry ([.ref h0]) (n := 1) (Nat.le_of_ble_eq_true rfl)
  rw [lg_entry_eq]
  generalize (lg_sl ([.ref h0]) ++ List.replicate (1 - (lg_sl ([.ref h0])).length) Slot.unset).toArray = ls at hl ⊢
  have hl : lv_has ls 1 [(0, .ref h0)] := hl
  refine lv_aload_n hx hb dX4_init_0 rfl (lv_at hl 0 rfl) ?_
  refine W.objInit hx hb hown (hts _ (List.mem_of_getElem? (i := 1) rfl)) (hts _ (List.mem_of_getElem? (i := 2) rfl)) (hts _ (List.mem_of_getElem? (i := 3) rfl)) rfl (by rw [hml]; exact hl.1) rfl dX4_init_1 (Nat.le_of_ble_eq_true rfl) (Nat.le_of_ble_eq_true rfl) ?_
  refine W.eq (g2 := F0 m 4 ls []) rfl ?_
  have hP9 := hP.sub (ws' := resX4 cy h0) [0] rfl
  have hD9 : va_D A (resX4 cy h0) := hD.sub [0] (by decide) rfl
  refine W.widen (k := 0) (n := 0) (Nat.le_of_ble_eq_true rfl) (Nat.le_of_ble_eq_true rfl) ?_
  exact W.vret hx hb hr (fun t ht hW => ⟨⟨(), rfl, trivial, by rw [ht]; exact hP9, va_K.moved hW.alike hK, hD9⟩, hS.F ht⟩) hS.2.2 dX4_init_4
def resX0 (cy : Nat → ClassId) (h0 : Nat) : va_W := [(h0, .inr (0, [.int 0]))]
def iQ_X0 (D : va_G) (cy : Nat → ClassId) (h0 : Nat) (A : Nat → Prop) (t : State) : Prop := va_P D vwCl (resX0 cy h0) t.heap ∧ va_K D vwCl (tyA cy) t ∧ va_D A (resX0 cy h0)
set_option maxHeartbeats 4000000 in
set_option maxRecDepth 100000 in
theorem i_X0 (l : Launch) (D : va_G) (cy : Nat → ClassId) (h0 : Nat) (sz : Nat) : Met l yX0_init wsX0_init ({ frames := 1, cells := 0, slots := 0, locals := 12 }) (va_Pc [.ref h0] (PI D cy [(h0, .inr (0, [.int 0]))] sz)) (va_Qv (fun _ : Unit => True) (fun _ t => iQ_X0 D cy h0 (va_A [(h0, .inr (0, [.int 0]))] sz) t) (va_A [(h0, .inr (0, [.int 0]))] sz)) 0 0 (va_A [(h0, .inr (0, [.int 0]))] sz) := by
  refine Met.ofW (cc := cX0_init) (maxL := 1) (ret := none) (by decide) rfl ?_
  intro p e s m args below meth c s₁ B hml hv
  obtain ⟨rfl, hsz, hP, hK, hD0, hN, hO⟩ := hv
  have hx := B.exec
  have hb := B.bytes
  have hr := B.returns
  have hts := atoms_spec (ws := wsX0_init) B.pre
  have hown : s.vm.findClass RX0 = some m.cls := findClass_of_methodNamed B.named
  have hlocks := B.notSynchronized
  have hin : meth.name = "<init>" := (name_of_methodNamed B.named B.method).1
  subst hsz
  have hD := hD0.self (sz := s.heap.size)
  generalize hAe : va_A [(h0, .inr (0, [.int 0]))] s.heap.size = A at hD ⊢
  have hA : ∀ q : Nat, s.heap.size ≤ q → A q := fun q h => by rw [← hAe]; exact Or.inr h
  have hS : va_S A s.heap s.heap [] := va_S.rf
  have hP : va_P D vwCl [(h0, .inr (0, [.int 0]))] s.heap := hP
  have hl := lv_entry ([.ref h0]) (n := 1) (Nat.le_of_ble_eq_true rfl)
  rw [lg_entry_eq]
  generalize (lg_sl ([.ref h0]) ++ List.replicate (1 - (lg_sl ([.ref h0])).length) Slot.unset).toArray = ls at hl ⊢
  have hl : lv_has ls 1 [(0, .ref h0)] := hl
  refine lv_aload_n hx hb dX0_init_0 rfl (lv_at hl 0 rfl) ?_
  refine W.objInit hx hb hown (hts _ (List.mem_of_getElem? (i := 1) rfl)) (hts _ (List.mem_of_getElem? (i := 2) rfl)) (hts _ (List.mem_of_getElem? (i := 3) rfl)) rfl (by rw [hml]; exact hl.1) rfl dX0_init_1 (Nat.le_of_ble_eq_true rfl) (Nat.le_of_ble_eq_true rfl) ?_
  refine W.eq (g2 := F0 m 4 ls []) rfl ?_
  have hP9 := hP.sub (ws' := resX0 cy h0) [0] rfl
  have hD9 : va_D A (resX0 cy h0) := hD.sub [0] (by decide) rfl
  refine W.widen (k := 0) (n := 0) (Nat.le_of_ble_eq_true rfl) (Nat.le_of_ble_eq_true rfl) ?_
  exact W.vret hx hb hr (fun t ht hW => ⟨⟨(), rfl, trivial, by rw [ht]; exact hP9, va_K.moved hW.alike hK, hD9⟩, hS.F ht⟩) hS.2.2 dX0_init_4
theorem inX6_init_X6 : ∀ w ∈ u_ws RX6 TX6 8, w ∈ wsX6_init := fun _ h => List.mem_cons_of_mem _ (List.mem_append_right _ h)
def resX6 (cy : Nat → ClassId) (h0 q1 : Nat) : va_W := [(h0, .inr (6, [.int 0, .int 0, .int (-1), .int 0, .int 0, .int 0, .int 0, .ref q1])), (q1, .inl (cy 0, 230, .inl (fun _ => (0 : Int32))))]
def iQ_X6 (D : va_G) (cy : Nat → ClassId) (h0 : Nat) (A : Nat → Prop) (t : State) : Prop := ∃ q1 : Nat, va_P D vwCl (resX6 cy h0 q1) t.heap ∧ va_K D vwCl (tyA cy) t ∧ va_D A (resX6 cy h0 q1)
set_option maxHeartbeats 4000000 in
set_option maxRecDepth 100000 in
theorem i_X6 (l : Launch) (D : va_G) (cy : Nat → ClassId) (h0 : Nat) (sz : Nat) : Met l yX6_init wsX6_init ({ frames := 1, cells := 1, slots := 230, locals := 12 }) (va_Pc [.ref h0] (PI D cy [(h0, .inr (6, [.int 0, .int 0, .int 0, .int 0, .int 0, .int 0, .int 0, .null]))] sz)) (va_Qv (fun _ : Unit => True) (fun _ t => iQ_X6 D cy h0 (va_A [(h0, .inr (6, [.int 0, .int 0, .int 0, .int 0, .int 0, .int 0, .int 0, .null]))] sz) t) (va_A [(h0, .inr (6, [.int 0, .int 0, .int 0, .int 0, .int 0, .int 0, .int 0, .null]))] sz)) 1 230 (va_A [(h0, .inr (6, [.int 0, .int 0, .int 0, .int 0, .int 0, .int 0, .int 0, .null]))] sz) := by
  refine Met.ofW (cc := cX6_init) (maxL := 1) (ret := none) (by decide) rfl ?_
  intro p e s m args below meth c s₁ B hml hv
  obtain ⟨rfl, hsz, hP, hK, hD0, hN, hO⟩ := hv
  have hx := B.exec
  have hb := B.bytes
  have hr := B.returns
  have hts := atoms_spec (ws := wsX6_init) B.pre
  have hown : s.vm.findClass RX6 = some m.cls := findClass_of_methodNamed B.named
  have hlocks := B.notSynchronized
  have hin : meth.name = "<init>" := (name_of_methodNamed B.named B.method).1
  subst hsz
  have hD := hD0.self (sz := s.heap.size)
  generalize hAe : va_A [(h0, .inr (6, [.int 0, .int 0, .int 0, .int 0, .int 0, .int 0, .int 0, .null]))] s.heap.size = A at hD ⊢
  have hA : ∀ q : Nat, s.heap.size ≤ q → A q := fun q h => by rw [← hAe]; exact Or.inr h
  have hS : va_S A s.heap s.heap [] := va_S.rf
  have hP : va_P D vwCl [(h0, .inr (6, [.int 0, .int 0, .int 0, .int 0, .int 0, .int 0, .int 0, .null]))] s.heap := hP
  have hl := lv_entry ([.ref h0]) (n := 1) (Nat.le_of_ble_eq_true rfl)
  rw [lg_entry_eq]
  generalize (lg_sl ([.ref h0]) ++ List.replicate (1 - (lg_sl ([.ref h0])).length) Slot.unset).toArray = ls at hl ⊢
  have hl : lv_has ls 1 [(0, .ref h0)] := hl
  refine lv_aload_n hx hb dX6_init_0 rfl (lv_at hl 0 rfl) ?_
  refine W.objInit hx hb hown (hts _ (List.mem_of_getElem? (i := 1) rfl)) (hts _ (List.mem_of_getElem? (i := 2) rfl)) (hts _ (List.mem_of_getElem? (i := 3) rfl)) rfl (by rw [hml]; exact hl.1) rfl dX6_init_1 (Nat.le_of_ble_eq_true rfl) (Nat.le_of_ble_eq_true rfl) ?_
  refine W.eq (g2 := F0 m 4 ls []) rfl ?_
  refine lv_aload_n hx hb dX6_init_4 rfl (lv_at hl 0 rfl) ?_
  refine lv_sipush (v := (230 : Int32)) hx hb dX6_init_5 (by decide) ?_
  refine va_newa (a0 := (230, .inl (fun _ => (0 : Int32)))) hx hb (hts _ (List.mem_of_getElem? (i := 4) rfl)) rfl hK hP hD hS hA (fun _ => rfl) (by decide) (N' := 230) (by decide) (by decide) (Nat.le_of_ble_eq_true rfl) (Nat.le_of_ble_eq_true rfl) dX6_init_8 (fun q1 cA H hK2 hP hD hS => ?_)
  obtain rfl := cA_0 hK2
  have hP : va_P D vwCl [(h0, .inr (6, [.int 0, .int 0, .int 0, .int 0, .int 0, .int 0, .int 0, .null])), (q1, .inl (cy 0, 230, .inl (fun _ => (0 : Int32))))] H := hP
  have hD : va_D A [(h0, .inr (6, [.int 0, .int 0, .int 0, .int 0, .int 0, .int 0, .int 0, .null])), (q1, .inl (cy 0, 230, .inl (fun _ => (0 : Int32))))] := hD
  refine va_putF (D := D) (ci := 6) (v := .ref q1) (C := RX6) (T := TX6) (N := 8) hx hb hts inX6_init_X6 tyX6 tyX6_ok nmX6 hown hK hP hD hS 0 rfl rfl 7 (by decide) (hts _ (List.mem_of_getElem? (i := 5) rfl)) (fun _ h9 => h9) rfl hin rfl (tyX6_ok 7 (by decide)) rfl rfl (Nat.le_of_ble_eq_true rfl) dX6_init_10 (fun H locs hP hD hS => ?_)
  have hP : va_P D vwCl [(h0, .inr (6, [.int 0, .int 0, .int 0, .int 0, .int 0, .int 0, .int 0, .ref q1])), (q1, .inl (cy 0, 230, .inl (fun _ => (0 : Int32))))] H := hP
  have hD : va_D A [(h0, .inr (6, [.int 0, .int 0, .int 0, .int 0, .int 0, .int 0, .int 0, .ref q1])), (q1, .inl (cy 0, 230, .inl (fun _ => (0 : Int32))))] := hD
  refine lv_aload_n hx hb dX6_init_13 rfl (lv_at hl 0 rfl) ?_
  refine lv_iconst (v := (-1 : Int32)) hx hb dX6_init_14 (by decide) ?_
  refine va_put (D := D) (ci := 6) (v := .int (-1)) (C := RX6) (T := TX6) (N := 8) hx hb hts inX6_init_X6 tyX6 tyX6_ok nmX6 hown hK hP hD hS 0 rfl rfl 2 (by decide) (hts _ (List.mem_of_getElem? (i := 6) rfl)) (fun _ h9 => h9) rfl (tyX6_ok 2 (by decide)) rfl rfl (Nat.le_of_ble_eq_true rfl) dX6_init_15 (fun H locs hP hD hS => ?_)
  have hP : va_P D vwCl [(h0, .inr (6, [.int 0, .int 0, .int (-1), .int 0, .int 0, .int 0, .int 0, .ref q1])), (q1, .inl (cy 0, 230, .inl (fun _ => (0 : Int32))))] H := hP
  have hD : va_D A [(h0, .inr (6, [.int 0, .int 0, .int (-1), .int 0, .int 0, .int 0, .int 0, .ref q1])), (q1, .inl (cy 0, 230, .inl (fun _ => (0 : Int32))))] := hD
  have hP9 : va_P D vwCl (resX6 cy h0 q1) H := hP.sub [0, 1] rfl
  have hD9 : va_D A (resX6 cy h0 q1) := hD.sub [0, 1] (by decide) rfl
  refine W.widen (k := 1) (n := 230) (Nat.le_of_ble_eq_true rfl) (Nat.le_of_ble_eq_true rfl) ?_
  exact W.vret hx hb hr (fun t ht hW => ⟨⟨(), rfl, trivial, q1, by rw [ht]; exact hP9, va_K.moved hW.alike hK, hD9⟩, hS.F ht⟩) hS.2.2 dX6_init_18
theorem inX5_init_X5 : ∀ w ∈ u_ws RX5 TX5 9, w ∈ wsX5_init := fun _ h => List.mem_cons_of_mem _ (List.mem_append_right _ h)
def resX5 (cy : Nat → ClassId) (h0 q1 q2 q3 q4 q5 q6 : Nat) : va_W := [(h0, .inr (5, [.int 0, .int 0, .int 0, .ref q1, .ref q2, .ref q3, .ref q4, .ref q5, .ref q6])), (q1, .inl (cy 0, 10, .inl (fun _ => (0 : Int32)))), (q2, .inl (cy 0, 10, .inl (fun _ => (0 : Int32)))), (q3, .inl (cy 0, 6, .inl (fun _ => (0 : Int32)))), (q4, .inl (cy 0, 6, .inl (fun _ => (0 : Int32)))), (q5, .inl (cy 0, 15, .inl (fun _ => (0 : Int32)))), (q6, .inl (cy 0, 15, .inl (fun _ => (0 : Int32))))]
def iQ_X5 (D : va_G) (cy : Nat → ClassId) (h0 : Nat) (A : Nat → Prop) (t : State) : Prop := ∃ q1 q2 q3 q4 q5 q6 : Nat, va_P D vwCl (resX5 cy h0 q1 q2 q3 q4 q5 q6) t.heap ∧ va_K D vwCl (tyA cy) t ∧ va_D A (resX5 cy h0 q1 q2 q3 q4 q5 q6)
set_option maxHeartbeats 4000000 in
set_option maxRecDepth 100000 in
theorem i_X5 (l : Launch) (D : va_G) (cy : Nat → ClassId) (h0 : Nat) (sz : Nat) : Met l yX5_init wsX5_init ({ frames := 1, cells := 6, slots := 62, locals := 12 }) (va_Pc [.ref h0] (PI D cy [(h0, .inr (5, [.int 0, .int 0, .int 0, .null, .null, .null, .null, .null, .null]))] sz)) (va_Qv (fun _ : Unit => True) (fun _ t => iQ_X5 D cy h0 (va_A [(h0, .inr (5, [.int 0, .int 0, .int 0, .null, .null, .null, .null, .null, .null]))] sz) t) (va_A [(h0, .inr (5, [.int 0, .int 0, .int 0, .null, .null, .null, .null, .null, .null]))] sz)) 6 62 (va_A [(h0, .inr (5, [.int 0, .int 0, .int 0, .null, .null, .null, .null, .null, .null]))] sz) := by
  refine Met.ofW (cc := cX5_init) (maxL := 1) (ret := none) (by decide) rfl ?_
  intro p e s m args below meth c s₁ B hml hv
  obtain ⟨rfl, hsz, hP, hK, hD0, hN, hO⟩ := hv
  have hx := B.exec
  have hb := B.bytes
  have hr := B.returns
  have hts := atoms_spec (ws := wsX5_init) B.pre
  have hown : s.vm.findClass RX5 = some m.cls := findClass_of_methodNamed B.named
  have hlocks := B.notSynchronized
  have hin : meth.name = "<init>" := (name_of_methodNamed B.named B.method).1
  subst hsz
  have hD := hD0.self (sz := s.heap.size)
  generalize hAe : va_A [(h0, .inr (5, [.int 0, .int 0, .int 0, .null, .null, .null, .null, .null, .null]))] s.heap.size = A at hD ⊢
  have hA : ∀ q : Nat, s.heap.size ≤ q → A q := fun q h => by rw [← hAe]; exact Or.inr h
  have hS : va_S A s.heap s.heap [] := va_S.rf
  have hP : va_P D vwCl [(h0, .inr (5, [.int 0, .int 0, .int 0, .null, .null, .null, .null, .null, .null]))] s.heap := hP
  have hl := lv_entry ([.ref h0]) (n := 1) (Nat.le_of_ble_eq_true rfl)
  rw [lg_entry_eq]
  generalize (lg_sl ([.ref h0]) ++ List.replicate (1 - (lg_sl ([.ref h0])).length) Slot.unset).toArray = ls at hl ⊢
  have hl : lv_has ls 1 [(0, .ref h0)] := hl
  refine lv_aload_n hx hb dX5_init_0 rfl (lv_at hl 0 rfl) ?_
  refine W.objInit hx hb hown (hts _ (List.mem_of_getElem? (i := 1) rfl)) (hts _ (List.mem_of_getElem? (i := 2) rfl)) (hts _ (List.mem_of_getElem? (i := 3) rfl)) rfl (by rw [hml]; exact hl.1) rfl dX5_init_1 (Nat.le_of_ble_eq_true rfl) (Nat.le_of_ble_eq_true rfl) ?_
  refine W.eq (g2 := F0 m 4 ls []) rfl ?_
  refine lv_aload_n hx hb dX5_init_4 rfl (lv_at hl 0 rfl) ?_
  refine lv_bipush (v := (10 : Int32)) hx hb dX5_init_5 (by decide) ?_
  refine va_newa (a0 := (10, .inl (fun _ => (0 : Int32)))) hx hb (hts _ (List.mem_of_getElem? (i := 4) rfl)) rfl hK hP hD hS hA (fun _ => rfl) (by decide) (N' := 10) (by decide) (by decide) (Nat.le_of_ble_eq_true rfl) (Nat.le_of_ble_eq_true rfl) dX5_init_7 (fun q1 cA H hK2 hP hD hS => ?_)
  obtain rfl := cA_0 hK2
  have hP : va_P D vwCl [(h0, .inr (5, [.int 0, .int 0, .int 0, .null, .null, .null, .null, .null, .null])), (q1, .inl (cy 0, 10, .inl (fun _ => (0 : Int32))))] H := hP
  have hD : va_D A [(h0, .inr (5, [.int 0, .int 0, .int 0, .null, .null, .null, .null, .null, .null])), (q1, .inl (cy 0, 10, .inl (fun _ => (0 : Int32))))] := hD
  refine va_putF (D := D) (ci := 5) (v := .ref q1) (C := RX5) (T := TX5) (N := 9) hx hb hts inX5_init_X5 tyX5 tyX5_ok nmX5 hown hK hP hD hS 0 rfl rfl 3 (by decide) (hts _ (List.mem_of_getElem? (i := 5) rfl)) (fun _ h9 => h9) rfl hin rfl (tyX5_ok 3 (by decide)) rfl rfl (Nat.le_of_ble_eq_true rfl) dX5_init_9 (fun H locs hP hD hS => ?_)
  have hP : va_P D vwCl [(h0, .inr (5, [.int 0, .int 0, .int 0, .ref q1, .null, .null, .null, .null, .null])), (q1, .inl (cy 0, 10, .inl (fun _ => (0 : Int32))))] H := hP
  have hD : va_D A [(h0, .inr (5, [.int 0, .int 0, .int 0, .ref q1, .null, .null, .null, .null, .null])), (q1, .inl (cy 0, 10, .inl (fun _ => (0 : Int32))))] := hD
  refine lv_aload_n hx hb dX5_init_12 rfl (lv_at hl 0 rfl) ?_
  refine lv_bipush (v := (10 : Int32)) hx hb dX5_init_13 (by decide) ?_
  refine va_newa (a0 := (10, .inl (fun _ => (0 : Int32)))) hx hb (hts _ (List.mem_of_getElem? (i := 4) rfl)) rfl hK hP hD hS hA (fun _ => rfl) (by decide) (N' := 10) (by decide) (by decide) (Nat.le_of_ble_eq_true rfl) (Nat.le_of_ble_eq_true rfl) dX5_init_15 (fun q2 cA H hK2 hP hD hS => ?_)
  obtain rfl := cA_0 hK2
  have hP : va_P D vwCl [(h0, .inr (5, [.int 0, .int 0, .int 0, .ref q1, .null, .null, .null, .null, .null])), (q1, .inl (cy 0, 10, .inl (fun _ => (0 : Int32)))), (q2, .inl (cy 0, 10, .inl (fun _ => (0 : Int32))))] H := hP
  have hD : va_D A [(h0, .inr (5, [.int 0, .int 0, .int 0, .ref q1, .null, .null, .null, .null, .null])), (q1, .inl (cy 0, 10, .inl (fun _ => (0 : Int32)))), (q2, .inl (cy 0, 10, .inl (fun _ => (0 : Int32))))] := hD
  refine va_putF (D := D) (ci := 5) (v := .ref q2) (C := RX5) (T := TX5) (N := 9) hx hb hts inX5_init_X5 tyX5 tyX5_ok nmX5 hown hK hP hD hS 0 rfl rfl 4 (by decide) (hts _ (List.mem_of_getElem? (i := 6) rfl)) (fun _ h9 => h9) rfl hin rfl (tyX5_ok 4 (by decide)) rfl rfl (Nat.le_of_ble_eq_true rfl) dX5_init_17 (fun H locs hP hD hS => ?_)
  have hP : va_P D vwCl [(h0, .inr (5, [.int 0, .int 0, .int 0, .ref q1, .ref q2, .null, .null, .null, .null])), (q1, .inl (cy 0, 10, .inl (fun _ => (0 : Int32)))), (q2, .inl (cy 0, 10, .inl (fun _ => (0 : Int32))))] H := hP
  have hD : va_D A [(h0, .inr (5, [.int 0, .int 0, .int 0, .ref q1, .ref q2, .null, .null, .null, .null])), (q1, .inl (cy 0, 10, .inl (fun _ => (0 : Int32)))), (q2, .inl (cy 0, 10, .inl (fun _ => (0 : Int32))))] := hD
  refine lv_aload_n hx hb dX5_init_20 rfl (lv_at hl 0 rfl) ?_
  refine lv_bipush (v := (6 : Int32)) hx hb dX5_init_21 (by decide) ?_
  refine va_newa (a0 := (6, .inl (fun _ => (0 : Int32)))) hx hb (hts _ (List.mem_of_getElem? (i := 4) rfl)) rfl hK hP hD hS hA (fun _ => rfl) (by decide) (N' := 6) (by decide) (by decide) (Nat.le_of_ble_eq_true rfl) (Nat.le_of_ble_eq_true rfl) dX5_init_23 (fun q3 cA H hK2 hP hD hS => ?_)
  obtain rfl := cA_0 hK2
  have hP : va_P D vwCl [(h0, .inr (5, [.int 0, .int 0, .int 0, .ref q1, .ref q2, .null, .null, .null, .null])), (q1, .inl (cy 0, 10, .inl (fun _ => (0 : Int32)))), (q2, .inl (cy 0, 10, .inl (fun _ => (0 : Int32)))), (q3, .inl (cy 0, 6, .inl (fun _ => (0 : Int32))))] H := hP
  have hD : va_D A [(h0, .inr (5, [.int 0, .int 0, .int 0, .ref q1, .ref q2, .null, .null, .null, .null])), (q1, .inl (cy 0, 10, .inl (fun _ => (0 : Int32)))), (q2, .inl (cy 0, 10, .inl (fun _ => (0 : Int32)))), (q3, .inl (cy 0, 6, .inl (fun _ => (0 : Int32))))] := hD
  refine va_putF (D := D) (ci := 5) (v := .ref q3) (C := RX5) (T := TX5) (N := 9) hx hb hts inX5_init_X5 tyX5 tyX5_ok nmX5 hown hK hP hD hS 0 rfl rfl 5 (by decide) (hts _ (List.mem_of_getElem? (i := 7) rfl)) (fun _ h9 => h9) rfl hin rfl (tyX5_ok 5 (by decide)) rfl rfl (Nat.le_of_ble_eq_true rfl) dX5_init_25 (fun H locs hP hD hS => ?_)
  have hP : va_P D vwCl [(h0, .inr (5, [.int 0, .int 0, .int 0, .ref q1, .ref q2, .ref q3, .null, .null, .null])), (q1, .inl (cy 0, 10, .inl (fun _ => (0 : Int32)))), (q2, .inl (cy 0, 10, .inl (fun _ => (0 : Int32)))), (q3, .inl (cy 0, 6, .inl (fun _ => (0 : Int32))))] H := hP
  have hD : va_D A [(h0, .inr (5, [.int 0, .int 0, .int 0, .ref q1, .ref q2, .ref q3, .null, .null, .null])), (q1, .inl (cy 0, 10, .inl (fun _ => (0 : Int32)))), (q2, .inl (cy 0, 10, .inl (fun _ => (0 : Int32)))), (q3, .inl (cy 0, 6, .inl (fun _ => (0 : Int32))))] := hD
  refine lv_aload_n hx hb dX5_init_28 rfl (lv_at hl 0 rfl) ?_
  refine lv_bipush (v := (6 : Int32)) hx hb dX5_init_29 (by decide) ?_
  refine va_newa (a0 := (6, .inl (fun _ => (0 : Int32)))) hx hb (hts _ (List.mem_of_getElem? (i := 4) rfl)) rfl hK hP hD hS hA (fun _ => rfl) (by decide) (N' := 6) (by decide) (by decide) (Nat.le_of_ble_eq_true rfl) (Nat.le_of_ble_eq_true rfl) dX5_init_31 (fun q4 cA H hK2 hP hD hS => ?_)
  obtain rfl := cA_0 hK2
  have hP : va_P D vwCl [(h0, .inr (5, [.int 0, .int 0, .int 0, .ref q1, .ref q2, .ref q3, .null, .null, .null])), (q1, .inl (cy 0, 10, .inl (fun _ => (0 : Int32)))), (q2, .inl (cy 0, 10, .inl (fun _ => (0 : Int32)))), (q3, .inl (cy 0, 6, .inl (fun _ => (0 : Int32)))), (q4, .inl (cy 0, 6, .inl (fun _ => (0 : Int32))))] H := hP
  have hD : va_D A [(h0, .inr (5, [.int 0, .int 0, .int 0, .ref q1, .ref q2, .ref q3, .null, .null, .null])), (q1, .inl (cy 0, 10, .inl (fun _ => (0 : Int32)))), (q2, .inl (cy 0, 10, .inl (fun _ => (0 : Int32)))), (q3, .inl (cy 0, 6, .inl (fun _ => (0 : Int32)))), (q4, .inl (cy 0, 6, .inl (fun _ => (0 : Int32))))] := hD
  refine va_putF (D := D) (ci := 5) (v := .ref q4) (C := RX5) (T := TX5) (N := 9) hx hb hts inX5_init_X5 tyX5 tyX5_ok nmX5 hown hK hP hD hS 0 rfl rfl 6 (by decide) (hts _ (List.mem_of_getElem? (i := 8) rfl)) (fun _ h9 => h9) rfl hin rfl (tyX5_ok 6 (by decide)) rfl rfl (Nat.le_of_ble_eq_true rfl) dX5_init_33 (fun H locs hP hD hS => ?_)
  have hP : va_P D vwCl [(h0, .inr (5, [.int 0, .int 0, .int 0, .ref q1, .ref q2, .ref q3, .ref q4, .null, .null])), (q1, .inl (cy 0, 10, .inl (fun _ => (0 : Int32)))), (q2, .inl (cy 0, 10, .inl (fun _ => (0 : Int32)))), (q3, .inl (cy 0, 6, .inl (fun _ => (0 : Int32)))), (q4, .inl (cy 0, 6, .inl (fun _ => (0 : Int32))))] H := hP
  have hD : va_D A [(h0, .inr (5, [.int 0, .int 0, .int 0, .ref q1, .ref q2, .ref q3, .ref q4, .null, .null])), (q1, .inl (cy 0, 10, .inl (fun _ => (0 : Int32)))), (q2, .inl (cy 0, 10, .inl (fun _ => (0 : Int32)))), (q3, .inl (cy 0, 6, .inl (fun _ => (0 : Int32)))), (q4, .inl (cy 0, 6, .inl (fun _ => (0 : Int32))))] := hD
  refine lv_aload_n hx hb dX5_init_36 rfl (lv_at hl 0 rfl) ?_
  refine lv_bipush (v := (15 : Int32)) hx hb dX5_init_37 (by decide) ?_
  refine va_newa (a0 := (15, .inl (fun _ => (0 : Int32)))) hx hb (hts _ (List.mem_of_getElem? (i := 4) rfl)) rfl hK hP hD hS hA (fun _ => rfl) (by decide) (N' := 15) (by decide) (by decide) (Nat.le_of_ble_eq_true rfl) (Nat.le_of_ble_eq_true rfl) dX5_init_39 (fun q5 cA H hK2 hP hD hS => ?_)
  obtain rfl := cA_0 hK2
  have hP : va_P D vwCl [(h0, .inr (5, [.int 0, .int 0, .int 0, .ref q1, .ref q2, .ref q3, .ref q4, .null, .null])), (q1, .inl (cy 0, 10, .inl (fun _ => (0 : Int32)))), (q2, .inl (cy 0, 10, .inl (fun _ => (0 : Int32)))), (q3, .inl (cy 0, 6, .inl (fun _ => (0 : Int32)))), (q4, .inl (cy 0, 6, .inl (fun _ => (0 : Int32)))), (q5, .inl (cy 0, 15, .inl (fun _ => (0 : Int32))))] H := hP
  have hD : va_D A [(h0, .inr (5, [.int 0, .int 0, .int 0, .ref q1, .ref q2, .ref q3, .ref q4, .null, .null])), (q1, .inl (cy 0, 10, .inl (fun _ => (0 : Int32)))), (q2, .inl (cy 0, 10, .inl (fun _ => (0 : Int32)))), (q3, .inl (cy 0, 6, .inl (fun _ => (0 : Int32)))), (q4, .inl (cy 0, 6, .inl (fun _ => (0 : Int32)))), (q5, .inl (cy 0, 15, .inl (fun _ => (0 : Int32))))] := hD
  refine va_putF (D := D) (ci := 5) (v := .ref q5) (C := RX5) (T := TX5) (N := 9) hx hb hts inX5_init_X5 tyX5 tyX5_ok nmX5 hown hK hP hD hS 0 rfl rfl 7 (by decide) (hts _ (List.mem_of_getElem? (i := 9) rfl)) (fun _ h9 => h9) rfl hin rfl (tyX5_ok 7 (by decide)) rfl rfl (Nat.le_of_ble_eq_true rfl) dX5_init_41 (fun H locs hP hD hS => ?_)
  have hP : va_P D vwCl [(h0, .inr (5, [.int 0, .int 0, .int 0, .ref q1, .ref q2, .ref q3, .ref q4, .ref q5, .null])), (q1, .inl (cy 0, 10, .inl (fun _ => (0 : Int32)))), (q2, .inl (cy 0, 10, .inl (fun _ => (0 : Int32)))), (q3, .inl (cy 0, 6, .inl (fun _ => (0 : Int32)))), (q4, .inl (cy 0, 6, .inl (fun _ => (0 : Int32)))), (q5, .inl (cy 0, 15, .inl (fun _ => (0 : Int32))))] H := hP
  have hD : va_D A [(h0, .inr (5, [.int 0, .int 0, .int 0, .ref q1, .ref q2, .ref q3, .ref q4, .ref q5, .null])), (q1, .inl (cy 0, 10, .inl (fun _ => (0 : Int32)))), (q2, .inl (cy 0, 10, .inl (fun _ => (0 : Int32)))), (q3, .inl (cy 0, 6, .inl (fun _ => (0 : Int32)))), (q4, .inl (cy 0, 6, .inl (fun _ => (0 : Int32)))), (q5, .inl (cy 0, 15, .inl (fun _ => (0 : Int32))))] := hD
  refine lv_aload_n hx hb dX5_init_44 rfl (lv_at hl 0 rfl) ?_
  refine lv_bipush (v := (15 : Int32)) hx hb dX5_init_45 (by decide) ?_
  refine va_newa (a0 := (15, .inl (fun _ => (0 : Int32)))) hx hb (hts _ (List.mem_of_getElem? (i := 4) rfl)) rfl hK hP hD hS hA (fun _ => rfl) (by decide) (N' := 15) (by decide) (by decide) (Nat.le_of_ble_eq_true rfl) (Nat.le_of_ble_eq_true rfl) dX5_init_47 (fun q6 cA H hK2 hP hD hS => ?_)
  obtain rfl := cA_0 hK2
  have hP : va_P D vwCl [(h0, .inr (5, [.int 0, .int 0, .int 0, .ref q1, .ref q2, .ref q3, .ref q4, .ref q5, .null])), (q1, .inl (cy 0, 10, .inl (fun _ => (0 : Int32)))), (q2, .inl (cy 0, 10, .inl (fun _ => (0 : Int32)))), (q3, .inl (cy 0, 6, .inl (fun _ => (0 : Int32)))), (q4, .inl (cy 0, 6, .inl (fun _ => (0 : Int32)))), (q5, .inl (cy 0, 15, .inl (fun _ => (0 : Int32)))), (q6, .inl (cy 0, 15, .inl (fun _ => (0 : Int32))))] H := hP
  have hD : va_D A [(h0, .inr (5, [.int 0, .int 0, .int 0, .ref q1, .ref q2, .ref q3, .ref q4, .ref q5, .null])), (q1, .inl (cy 0, 10, .inl (fun _ => (0 : Int32)))), (q2, .inl (cy 0, 10, .inl (fun _ => (0 : Int32)))), (q3, .inl (cy 0, 6, .inl (fun _ => (0 : Int32)))), (q4, .inl (cy 0, 6, .inl (fun _ => (0 : Int32)))), (q5, .inl (cy 0, 15, .inl (fun _ => (0 : Int32)))), (q6, .inl (cy 0, 15, .inl (fun _ => (0 : Int32))))] := hD
  refine va_putF (D := D) (ci := 5) (v := .ref q6) (C := RX5) (T := TX5) (N := 9) hx hb hts inX5_init_X5 tyX5 tyX5_ok nmX5 hown hK hP hD hS 0 rfl rfl 8 (by decide) (hts _ (List.mem_of_getElem? (i := 10) rfl)) (fun _ h9 => h9) rfl hin rfl (tyX5_ok 8 (by decide)) rfl rfl (Nat.le_of_ble_eq_true rfl) dX5_init_49 (fun H locs hP hD hS => ?_)
  have hP : va_P D vwCl [(h0, .inr (5, [.int 0, .int 0, .int 0, .ref q1, .ref q2, .ref q3, .ref q4, .ref q5, .ref q6])), (q1, .inl (cy 0, 10, .inl (fun _ => (0 : Int32)))), (q2, .inl (cy 0, 10, .inl (fun _ => (0 : Int32)))), (q3, .inl (cy 0, 6, .inl (fun _ => (0 : Int32)))), (q4, .inl (cy 0, 6, .inl (fun _ => (0 : Int32)))), (q5, .inl (cy 0, 15, .inl (fun _ => (0 : Int32)))), (q6, .inl (cy 0, 15, .inl (fun _ => (0 : Int32))))] H := hP
  have hD : va_D A [(h0, .inr (5, [.int 0, .int 0, .int 0, .ref q1, .ref q2, .ref q3, .ref q4, .ref q5, .ref q6])), (q1, .inl (cy 0, 10, .inl (fun _ => (0 : Int32)))), (q2, .inl (cy 0, 10, .inl (fun _ => (0 : Int32)))), (q3, .inl (cy 0, 6, .inl (fun _ => (0 : Int32)))), (q4, .inl (cy 0, 6, .inl (fun _ => (0 : Int32)))), (q5, .inl (cy 0, 15, .inl (fun _ => (0 : Int32)))), (q6, .inl (cy 0, 15, .inl (fun _ => (0 : Int32))))] := hD
  have hP9 : va_P D vwCl (resX5 cy h0 q1 q2 q3 q4 q5 q6) H := hP.sub [0, 1, 2, 3, 4, 5, 6] rfl
  have hD9 : va_D A (resX5 cy h0 q1 q2 q3 q4 q5 q6) := hD.sub [0, 1, 2, 3, 4, 5, 6] (by decide) rfl
  refine W.widen (k := 6) (n := 62) (Nat.le_of_ble_eq_true rfl) (Nat.le_of_ble_eq_true rfl) ?_
  exact W.vret hx hb hr (fun t ht hW => ⟨⟨(), rfl, trivial, q1, q2, q3, q4, q5, q6, by rw [ht]; exact hP9, va_K.moved hW.alike hK, hD9⟩, hS.F ht⟩) hS.2.2 dX5_init_52
theorem inX2_init_X2 : ∀ w ∈ u_ws RX2 TX2 3, w ∈ wsX2_init := fun _ h => List.mem_cons_of_mem _ (List.mem_append_right _ h)
theorem inX2_init_X4 : ∀ w ∈ u_ws RX4 TX4 12, w ∈ wsX2_init := fun _ h => List.mem_cons_of_mem _ (List.mem_append_left _ (List.mem_append_right _ h))
def resX2 (cy : Nat → ClassId) (h0 q1 : Nat) : va_W := [(h0, .inr (2, [.int 0, .int 0, .ref q1])), (q1, .inr (4, [.int 0, .int 0, .int 0, .int 0, .int 0, .int 0, .int 0, .int 0, .int 0, .int 0, .int 0, .int 0]))]
def iQ_X2 (D : va_G) (cy : Nat → ClassId) (h0 : Nat) (A : Nat → Prop) (t : State) : Prop := ∃ q1 : Nat, va_P D vwCl (resX2 cy h0 q1) t.heap ∧ va_K D vwCl (tyA cy) t ∧ va_D A (resX2 cy h0 q1)
set_option maxHeartbeats 4000000 in
set_option maxRecDepth 100000 in
theorem i_X2 (l : Launch) (D : va_G) (cy : Nat → ClassId) (h0 : Nat) (sz : Nat) : Met l yX2_init wsX2_init ({ frames := 2, cells := 1, slots := 12, locals := 32 }) (va_Pc [.ref h0] (PI D cy [(h0, .inr (2, [.int 0, .int 0, .null]))] sz)) (va_Qv (fun _ : Unit => True) (fun _ t => iQ_X2 D cy h0 (va_A [(h0, .inr (2, [.int 0, .int 0, .null]))] sz) t) (va_A [(h0, .inr (2, [.int 0, .int 0, .null]))] sz)) 1 12 (va_A [(h0, .inr (2, [.int 0, .int 0, .null]))] sz) := by
  refine Met.ofW (cc := cX2_init) (maxL := 1) (ret := none) (by decide) rfl ?_
  intro p e s m args below meth c s₁ B hml hv
  obtain ⟨rfl, hsz, hP, hK, hD0, hN, hO⟩ := hv
  have hx := B.exec
  have hb := B.bytes
  have hr := B.returns
  have hts := atoms_spec (ws := wsX2_init) B.pre
  have hown : s.vm.findClass RX2 = some m.cls := findClass_of_methodNamed B.named
  have hlocks := B.notSynchronized
  have hin : meth.name = "<init>" := (name_of_methodNamed B.named B.method).1
  subst hsz
  have hD := hD0.self (sz := s.heap.size)
  generalize hAe : va_A [(h0, .inr (2, [.int 0, .int 0, .null]))] s.heap.size = A at hD ⊢
  have hA : ∀ q : Nat, s.heap.size ≤ q → A q := fun q h => by rw [← hAe]; exact Or.inr h
  have hS : va_S A s.heap s.heap [] := va_S.rf
  have hP : va_P D vwCl [(h0, .inr (2, [.int 0, .int 0, .null]))] s.heap := hP
  have hl := lv_entry ([.ref h0]) (n := 1) (Nat.le_of_ble_eq_true rfl)
  rw [lg_entry_eq]
  generalize (lg_sl ([.ref h0]) ++ List.replicate (1 - (lg_sl ([.ref h0])).length) Slot.unset).toArray = ls at hl ⊢
  have hl : lv_has ls 1 [(0, .ref h0)] := hl
  refine lv_aload_n hx hb dX2_init_0 rfl (lv_at hl 0 rfl) ?_
  refine W.objInit hx hb hown (hts _ (List.mem_of_getElem? (i := 1) rfl)) (hts _ (List.mem_of_getElem? (i := 2) rfl)) (hts _ (List.mem_of_getElem? (i := 3) rfl)) rfl (by rw [hml]; exact hl.1) rfl dX2_init_1 (Nat.le_of_ble_eq_true rfl) (Nat.le_of_ble_eq_true rfl) ?_
  refine W.eq (g2 := F0 m 4 ls []) rfl ?_
  refine lv_aload_n hx hb dX2_init_4 rfl (lv_at hl 0 rfl) ?_
  refine va_new (ci := 4) (fs := [.int 0, .int 0, .int 0, .int 0, .int 0, .int 0, .int 0, .int 0, .int 0, .int 0, .int 0, .int 0]) (C := RX4) (T := TX4) (N := 12) hx hb hts inX2_init_X4 tyX4 tyX4_ok hown (hts _ (List.mem_of_getElem? (i := 4) rfl)) (hts _ (List.mem_of_getElem? (i := 5) rfl)) (hts _ (List.mem_of_getElem? (i := 6) rfl)) hK hP hD hS hA rfl (fun j hj => by rcases (show j = 0 ∨ j = 1 ∨ j = 2 ∨ j = 3 ∨ j = 4 ∨ j = 5 ∨ j = 6 ∨ j = 7 ∨ j = 8 ∨ j = 9 ∨ j = 10 ∨ j = 11 by omega) with rfl | rfl | rfl | rfl | rfl | rfl | rfl | rfl | rfl | rfl | rfl | rfl <;> rfl) (Nat.le_of_ble_eq_true rfl) (Nat.le_of_ble_eq_true rfl) dX2_init_5 (fun q1 H hP hD hS => ?_)
  have hP : va_P D vwCl [(h0, .inr (2, [.int 0, .int 0, .null])), (q1, .inr (4, [.int 0, .int 0, .int 0, .int 0, .int 0, .int 0, .int 0, .int 0, .int 0, .int 0, .int 0, .int 0]))] H := hP
  have hD : va_D A [(h0, .inr (2, [.int 0, .int 0, .null])), (q1, .inr (4, [.int 0, .int 0, .int 0, .int 0, .int 0, .int 0, .int 0, .int 0, .int 0, .int 0, .int 0, .int 0]))] := hD
  refine lv_dup hx hb dX2_init_8 rfl ?_
  have hPc := hP.sub (ws' := [(q1, .inr (4, [.int 0, .int 0, .int 0, .int 0, .int 0, .int 0, .int 0, .int 0, .int 0, .int 0, .int 0, .int 0]))]) [1] rfl
  have hDc := hD.sub (ws' := [(q1, .inr (4, [.int 0, .int 0, .int 0, .int 0, .int 0, .int 0, .int 0, .int 0, .int 0, .int 0, .int 0, .int 0]))]) [1] (by decide) rfl
  have hFc := va_free (wc := [(q1, .inr (4, [.int 0, .int 0, .int 0, .int 0, .int 0, .int 0, .int 0, .int 0, .int 0, .int 0, .int 0, .int 0]))]) hD hS hA [1] rfl
  refine va_callv (va_runI (As := []) (rest := [.ref q1, .ref h0]) ⟨hx, hb, hml, hown, hts⟩ (i_X4 l D cy q1 H.size) (cwI 0 hts gX2_init_X4_init rfl rfl rfl (hts _ (List.mem_of_getElem? (i := 6) rfl)) (hts _ (List.mem_of_getElem? (i := 8) rfl)) (hts _ (List.mem_of_getElem? (i := 9) rfl)) rfl (by decide +kernel) ⟨Nat.le_of_ble_eq_true rfl, Nat.le_of_ble_eq_true rfl⟩) ⟨PI_blind, fun U hU hW => ⟨rfl, by rw [hU], by rw [hU]; exact hPc, va_K.moved hW.alike hK, hDc.weaken (fun _ _ _ _ => trivial), va_Nw.warmM hW hN, va_AO.moved hW.alike hO⟩⟩ rfl rfl hl.1 rfl (lv_room (Nat.le_of_ble_eq_true rfl)) dX2_init_9 ⟨Nat.le_of_ble_eq_true rfl, Nat.le_of_ble_eq_true rfl⟩) hS (fun q _ h => hFc q h) hFc (fun u t H1 locs ht hvm hw hB hz1 hk1 hS => ?_)
  obtain ⟨hP1, hK1, hD1⟩ := hB
  rw [ht] at hP1
  obtain ⟨hP, hD⟩ := va_join (wr := [(h0, .inr (2, [.int 0, .int 0, .null]))]) (w1 := [(q1, .inr (4, [.int 0, .int 0, .int 0, .int 0, .int 0, .int 0, .int 0, .int 0, .int 0, .int 0, .int 0, .int 0]))]) hP hD [1] [0] rfl rfl (by decide) (by decide) hk1 hFc hP1 hD1
  generalize H1 = H at hP hS ⊢
  have hP : va_P D vwCl [(h0, .inr (2, [.int 0, .int 0, .null])), (q1, .inr (4, [.int 0, .int 0, .int 0, .int 0, .int 0, .int 0, .int 0, .int 0, .int 0, .int 0, .int 0, .int 0]))] H := hP
  have hD : va_D A [(h0, .inr (2, [.int 0, .int 0, .null])), (q1, .inr (4, [.int 0, .int 0, .int 0, .int 0, .int 0, .int 0, .int 0, .int 0, .int 0, .int 0, .int 0, .int 0]))] := hD
  refine va_putF (D := D) (ci := 2) (v := .ref q1) (C := RX2) (T := TX2) (N := 3) hx hb hts inX2_init_X2 tyX2 tyX2_ok nmX2 hown hK hP hD hS 0 rfl rfl 2 (by decide) (hts _ (List.mem_of_getElem? (i := 7) rfl)) (fun _ h9 => h9) rfl hin rfl (tyX2_ok 2 (by decide)) rfl rfl (Nat.le_of_ble_eq_true rfl) dX2_init_12 (fun H locs hP hD hS => ?_)
  have hP : va_P D vwCl [(h0, .inr (2, [.int 0, .int 0, .ref q1])), (q1, .inr (4, [.int 0, .int 0, .int 0, .int 0, .int 0, .int 0, .int 0, .int 0, .int 0, .int 0, .int 0, .int 0]))] H := hP
  have hD : va_D A [(h0, .inr (2, [.int 0, .int 0, .ref q1])), (q1, .inr (4, [.int 0, .int 0, .int 0, .int 0, .int 0, .int 0, .int 0, .int 0, .int 0, .int 0, .int 0, .int 0]))] := hD
  have hP9 : va_P D vwCl (resX2 cy h0 q1) H := hP.sub [0, 1] rfl
  have hD9 : va_D A (resX2 cy h0 q1) := hD.sub [0, 1] (by decide) rfl
  refine W.widen (k := 1) (n := 12) (Nat.le_of_ble_eq_true rfl) (Nat.le_of_ble_eq_true rfl) ?_
  exact W.vret hx hb hr (fun t ht hW => ⟨⟨(), rfl, trivial, q1, by rw [ht]; exact hP9, va_K.moved hW.alike hK, hD9⟩, hS.F ht⟩) hS.2.2 dX2_init_15
