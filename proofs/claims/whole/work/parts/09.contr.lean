/-! ===== contracts over the worlds by number: a method's start, its ends, its calls ===== -/
theorem wd_inv {S : Sd} {cy : Nat → ClassId} {q : Nat → Nat} {σ : St} {i : Nat} {x : Nat × va_E} (h : (wd S cy q σ)[i]? = some x) : i < S.2 ∧ x = (q i, cel cy q (S.1 i) (σ i)) := by
  have hi : i < S.2 := by
    have h1 := (List.getElem?_eq_some_iff.mp h).1
    simpa [wd] using h1
  exact ⟨hi, (Option.some.inj ((wd_at hi).symm.trans h)).symm⟩
theorem wd_D {S : Sd} {Y : CY} {A B : Nat → Prop} {σ σ' : St} (h : va_D B (WD S Y σ)) (hA : ∀ i, i < S.2 → A (qa Y i)) : va_D A (WD S Y σ') := by
  refine ⟨fun i j p q hi hj hpq => ?_, fun k q hk => ?_⟩
  · obtain ⟨h1, rfl⟩ := wd_inv hi
    obtain ⟨h2, rfl⟩ := wd_inv hj
    exact h.1 i j _ _ (wd_at h1) (wd_at h2) hpq
  · obtain ⟨h1, rfl⟩ := wd_inv hk
    exact hA k h1
def BW (S : Sd) (Y : CY) (A : Nat → Prop) : St → State → Prop := fun σ t => va_P Y.2.1 vwCl (WD S Y σ) t.heap ∧ va_K Y.2.1 vwCl (tyA Y.2.2.2) t ∧ va_D A (WD S Y σ)
def PB (S : Sd) (Y : CY) (σ : St) (sz : Nat) : State → Prop := fun U => U.heap.size = sz ∧ va_P Y.2.1 vwCl (WD S Y σ) U.heap ∧ va_K Y.2.1 vwCl (tyA Y.2.2.2) U ∧ va_D (fun _ => True) (WD S Y σ) ∧ va_Nw nwW U
/-- the method's end is the contract's: an int, nothing, a reference or null -/
def Qi (S : Sd) (Y : CY) (Z : CZ) (Post : Int32 → St → Prop) : Prop := Z.2.2.2.2.1 = MQ Z.2.1.2.2.2 (va_Qi Post (BW S Y Z.2.2.2.2.2) Z.2.2.2.2.2) Z.2.1.2.2.1 Z.2.1.1 0 0 Z.2.2.2.2.2
def Qv (S : Sd) (Y : CY) (Z : CZ) (Post : St → Prop) : Prop := Z.2.2.2.2.1 = MQ Z.2.1.2.2.2 (va_Qv Post (BW S Y Z.2.2.2.2.2) Z.2.2.2.2.2) Z.2.1.2.2.1 Z.2.1.1 0 0 Z.2.2.2.2.2
def Qq (S : Sd) (Y : CY) (Z : CZ) (Post : Option Nat → St → Prop) : Prop := Z.2.2.2.2.1 = MQ Z.2.1.2.2.2 (va_Qe (qa Y) Post (BW S Y Z.2.2.2.2.2) Z.2.2.2.2.2) Z.2.1.2.2.1 Z.2.1.1 0 0 Z.2.2.2.2.2
def Ki (S : Sd) (Y : CY) (y : MethodName) (ws : List Cond) (rm : Room) (As : List Value) (σ : St) (Post : Int32 → St → Prop) : Prop := ∀ sz : Nat, Met Y.1 y ws rm (va_Pc As (PB S Y σ sz)) (va_Qi Post (BW S Y (AA S Y sz)) (AA S Y sz)) 0 0 (AA S Y sz)
def Kv (S : Sd) (Y : CY) (y : MethodName) (ws : List Cond) (rm : Room) (As : List Value) (σ : St) (Post : St → Prop) : Prop := ∀ sz : Nat, Met Y.1 y ws rm (va_Pc As (PB S Y σ sz)) (va_Qv Post (BW S Y (AA S Y sz)) (AA S Y sz)) 0 0 (AA S Y sz)
def Kq (S : Sd) (Y : CY) (y : MethodName) (ws : List Cond) (rm : Room) (As : List Value) (σ : St) (Post : Option Nat → St → Prop) : Prop := ∀ sz : Nat, Met Y.1 y ws rm (va_Pc As (PB S Y σ sz)) (va_Qe (qa Y) Post (BW S Y (AA S Y sz)) (AA S Y sz)) 0 0 (AA S Y sz)
theorem K_of {S : Sd} {Y : CY} {y : MethodName} {ws ws' : List Cond} {rm : Room} {As : List Value} {σ : St} {cc : ByteArray} {nL : Nat} {ret : Option FieldType} {Qc : Nat → Array Value → State → Outcome → State → Prop} (hy : plainName y.cls = true) (hw : ws = Cond.code y cc nL ret :: ws') (hl : (lg_sl As).length ≤ nL)
    (body : ∀ Z : CZ, cx S nL Y Z cc y.cls ws ret rm → Z.2.2.2.2.1 = MQ Z.2.1.2.2.2 (Qc Z.2.1.1.heap.size) Z.2.1.2.2.1 Z.2.1.1 0 0 Z.2.2.2.2.2 → Z.2.2.2.2.2 = AA S Y Z.2.1.1.heap.size → WW S nL Y Z σ 0 (lv_args 0 As) []) : ∀ sz : Nat, Met Y.1 y ws rm (va_Pc As (PB S Y σ sz)) (Qc sz) 0 0 (AA S Y sz) := by
  intro sz
  refine Met.ofW (cc := cc) (maxL := nL) (ret := ret) hy hw ?_
  intro p e s m args below meth c s₁ B hml hv
  obtain ⟨rfl, hsz, hP, hK, hD0, hN⟩ := hv
  subst hsz
  have hts := atoms_spec (ws := ws) B.pre
  have hown : s.vm.findClass y.cls = some m.cls := findClass_of_methodNamed B.named
  rw [lg_entry_eq]
  have hl2 := lv_entry As (n := nL) hl
  exact body ((p, e, (headSpec ws rm).room), (s, m, As.toArray, below), (meth, c, _, AA S Y s.heap.size)) ⟨B.exec, B.bytes, hown, hts, hml, B.notSynchronized, hK, fun q h => Or.inr h, fun σ' => wd_D hD0 (fun i hi => Or.inl ⟨i, hi, rfl⟩), B.returns, rfl, hN⟩ rfl rfl s.heap [] _ hl2 hP va_S.rf
section CON
variable {S : Sd} {nL : Nat} {Y : CY} {Z : CZ} {cc : ByteArray} {own : String} {Ts : List Cond} {ret : Option FieldType} {rm : Room} {σ : St} {pc : Nat} {lv lv' : List (Nat × Value)} {st : List Value}
theorem Ki_of {y : MethodName} {ws ws' : List Cond} {As : List Value} {Post : Int32 → St → Prop} (hy : plainName y.cls = true) (hw : ws = Cond.code y cc nL ret :: ws') (hl : (lg_sl As).length ≤ nL)
    (body : ∀ Z : CZ, cx S nL Y Z cc y.cls ws ret rm → Qi S Y Z Post → WW S nL Y Z σ 0 (lv_args 0 As) []) : Ki S Y y ws rm As σ Post :=
  K_of (Qc := fun sz => va_Qi Post (BW S Y (AA S Y sz)) (AA S Y sz)) hy hw hl (fun Z C h1 h2 => body Z C (by unfold Qi; rw [h1, h2]))
theorem Kv_of {y : MethodName} {ws ws' : List Cond} {As : List Value} {Post : St → Prop} (hy : plainName y.cls = true) (hw : ws = Cond.code y cc nL ret :: ws') (hl : (lg_sl As).length ≤ nL)
    (body : ∀ Z : CZ, cx S nL Y Z cc y.cls ws ret rm → Qv S Y Z Post → WW S nL Y Z σ 0 (lv_args 0 As) []) : Kv S Y y ws rm As σ Post :=
  K_of (Qc := fun sz => va_Qv Post (BW S Y (AA S Y sz)) (AA S Y sz)) hy hw hl (fun Z C h1 h2 => body Z C (by unfold Qv; rw [h1, h2]))
theorem Kq_of {y : MethodName} {ws ws' : List Cond} {As : List Value} {Post : Option Nat → St → Prop} (hy : plainName y.cls = true) (hw : ws = Cond.code y cc nL ret :: ws') (hl : (lg_sl As).length ≤ nL)
    (body : ∀ Z : CZ, cx S nL Y Z cc y.cls ws ret rm → Qq S Y Z Post → WW S nL Y Z σ 0 (lv_args 0 As) []) : Kq S Y y ws rm As σ Post :=
  K_of (Qc := fun sz => va_Qe (qa Y) Post (BW S Y (AA S Y sz)) (AA S Y sz)) hy hw hl (fun Z C h1 h2 => body Z C (by unfold Qq; rw [h1, h2]))
theorem q_iret (C : cx S nL Y Z cc own Ts (some .int) rm) {Post : Int32 → St → Prop} (hQ : Qi S Y Z Post) {v : Int32} (hdg : decode cc pc = .ok (.ireturn, 1)) (h : Post v σ) : WW S nL Y Z σ pc lv [.int v] := by
  intro H locs ls h1 h2 h3
  obtain ⟨hx, hb, hown, hts, hml, hlk, hK, hA, hD, hr, hR, hN⟩ := C
  rw [show Z.2.2.2.2.1 = _ from hQ]
  exact W.iret hx hb hr (fun t ht hW => ⟨⟨v, σ, rfl, h, by rw [ht]; exact h2, va_K.moved hW.alike hK, hD σ⟩, h3.F ht⟩) h3.2.2 hdg hlk
theorem q_zret (C : cx S nL Y Z cc own Ts (some .boolean) rm) {Post : Int32 → St → Prop} (hQ : Qi S Y Z Post) {v : Int32} (hn : narrow .boolean (.int v) = .int v) (hdg : decode cc pc = .ok (.ireturn, 1)) (h : Post v σ) : WW S nL Y Z σ pc lv [.int v] := by
  intro H locs ls h1 h2 h3
  obtain ⟨hx, hb, hown, hts, hml, hlk, hK, hA, hD, hr, hR, hN⟩ := C
  rw [show Z.2.2.2.2.1 = _ from hQ]
  exact W.zret hx hb hr hn (fun t ht hW => ⟨⟨v, σ, rfl, h, by rw [ht]; exact h2, va_K.moved hW.alike hK, hD σ⟩, h3.F ht⟩) h3.2.2 hdg hlk
theorem q_vret (C : cx S nL Y Z cc own Ts none rm) {Post : St → Prop} (hQ : Qv S Y Z Post) (hdg : decode cc pc = .ok (.return_, 1)) (h : Post σ) : WW S nL Y Z σ pc lv [] := by
  intro H locs ls h1 h2 h3
  obtain ⟨hx, hb, hown, hts, hml, hlk, hK, hA, hD, hr, hR, hN⟩ := C
  rw [show Z.2.2.2.2.1 = _ from hQ]
  exact W.vret hx hb hr (fun t ht hW => ⟨⟨σ, rfl, h, by rw [ht]; exact h2, va_K.moved hW.alike hK, hD σ⟩, h3.F ht⟩) h3.2.2 hdg hlk
theorem q_qret {Cn : String} (C : cx S nL Y Z cc own Ts (some (.object Cn)) rm) {Post : Option Nat → St → Prop} (hQ : Qq S Y Z Post) {r : Option Nat} (hdg : decode cc pc = .ok (.areturn, 1)) (h : Post r σ) : WW S nL Y Z σ pc lv [va_re (qa Y) r] := by
  intro H locs ls h1 h2 h3
  obtain ⟨hx, hb, hown, hts, hml, hlk, hK, hA, hD, hr, hR, hN⟩ := C
  rw [show Z.2.2.2.2.1 = _ from hQ]
  exact W.aret hx hb hr (Or.inl ⟨_, rfl⟩) (va_re_or _ _) (fun t ht hW => ⟨⟨r, σ, rfl, h, by rw [ht]; exact h2, va_K.moved hW.alike hK, hD σ⟩, h3.F ht⟩) h3.2.2 hdg hlk
theorem PB_blind {As : List Value} {sz : Nat} : FrameBlind (va_Pc As (PB S Y σ sz)) := fun _ U g mk q => ⟨q.1, q.2.1, q.2.2.1, va_K.moved (u := U) (U := U.calling g mk _) (Vm.Alike.refl U.vm) q.2.2.2.1, q.2.2.2.2.1, va_Nw.same (w := nwW) rfl (rfl : U.vm = (U.calling g mk _).vm) q.2.2.2.2.2⟩
theorem AA_in {H : Heap} {locs : List Loc} (C : cx S nL Y Z cc own Ts ret rm) (h3 : va_S Z.2.2.2.2.2 Z.2.1.1.heap H locs) : ∀ q, AA S Y H.size q → Z.2.2.2.2.2 q := by
  obtain ⟨hx, hb, hown, hts, hml, hlk, hK, hA, hD, hr, hR, hN⟩ := C
  rintro q (⟨j, hj, rfl⟩ | hq)
  · exact (hD (fun _ _ => 0)).2 j _ (wd_at hj)
  · exact hA q (Nat.le_trans h3.1 hq)
/-- what a call asks of the callee's room -/
abbrev RmOk (rm' rm : Room) (maxL : Nat) : Prop := rm'.cells = 0 ∧ rm'.slots = 0 ∧ rm'.frames + 1 ≤ rm.frames ∧ 8 + (maxL + 11) + rm'.locals ≤ rm.locals
abbrev NmOk (y : MethodName) (n : Nat) : Prop := y.cls ≠ "java/lang/invoke/MethodHandle" ∧ y.cls ≠ "java/lang/invoke/VarHandle" ∧ (parseMethodDescriptor y.desc).map (fun d => d.parameters.length) = some n
theorem q_runV (C : cx S nL Y Z cc own Ts ret rm) {i ci N idx n maxL : Nat} {fl : List (Nat ⊕ Nat)} {Cn : String} {T : u_T} {y : MethodName} {bytes : ByteArray} {ws ws' : List Cond} {rm' : Room} {As : List Value} {rt : Option FieldType} {Qc : Array Value → State → Outcome → State → Prop} {H : Heap} {locs : List Loc} {ls : Array Slot}
    (hM : Met Y.1 y ws rm' (va_Pc (.ref (qa Y i) :: As) (PB S Y σ H.size)) Qc 0 0 (AA S Y H.size)) (hG : GoodIn Ts (wsV own idx Cn y ws)) (hw : ws = Cond.code y bytes maxL rt :: ws') (hd : y.cls = Cn ∧ NmOk y n) (hrm : RmOk rm' rm maxL) (hk : S.1 i = .inr (.inl (ci, fl))) (hi : i < S.2) (hc : vwCl[ci]? = some (Cn, T, N)) (hn : As.length = n) (hst : (st.map fun v => v.category).sum ≤ 8) (hdg : decode cc pc = .ok (.invokevirtual idx, 3)) (h1 : lv_has ls nL lv) (h2 : va_P Y.2.1 vwCl (WD S Y σ) H) (h3 : va_S Z.2.2.2.2.2 Z.2.1.1.heap H locs) :
    va_Run Z.1.1 Y.1 Z.1.2.1 Z.1.2.2 Z.2.1.1 Z.2.1.2.1 Z.2.1.2.2.1 Z.2.1.2.2.2 Z.2.2.1 Z.2.2.2.1 H locs 0 0 0 0 (F0 Z.2.1.2.1 pc ls (As.reverse ++ .ref (qa Y i) :: st)) st (Qc (Value.ref (qa Y i) :: As).toArray) (AA S Y H.size) := by
  obtain ⟨hx, hb, hown, hts, hml, hlk, hK, hA, hD, hr, hR, hN⟩ := C
  have he := wd_at (cy := Y.2.2.2) (q := Y.2.2.1) (σ := σ) hi
  rw [hk] at he
  exact va_runV (As := As) (rest := st) ⟨hx, hb, hml, hown, hts⟩ hM (cwV n hts hG hw hrm.1 hrm.2.1 hd ⟨by rw [hR]; exact hrm.2.2.1, by rw [hR]; exact hrm.2.2.2⟩) ⟨PB_blind, va_recv hK h2 (ci := ci) (q0 := i) hc he, fun U hU hW => ⟨rfl, by rw [hU], by rw [hU]; exact h2, va_K.moved hW.alike hK, wd_D (hD σ) (fun _ _ => trivial), va_Nw.warmM hW hN⟩⟩ rfl hn h1.1 rfl (lv_room hst) hdg ⟨Nat.zero_le _, Nat.zero_le _⟩
theorem q_runS (C : cx S nL Y Z cc own Ts ret rm) {idx n maxL : Nat} {y : MethodName} {bytes : ByteArray} {ws ws' : List Cond} {rm' : Room} {As : List Value} {rt : Option FieldType} {Qc : Array Value → State → Outcome → State → Prop} {H : Heap} {locs : List Loc} {ls : Array Slot}
    (hM : Met Y.1 y ws rm' (va_Pc As (PB S Y σ H.size)) Qc 0 0 (AA S Y H.size)) (hG : GoodIn Ts (va_wsS own idx y ws)) (hw : ws = Cond.code y bytes maxL rt :: ws') (hd : NmOk y n) (hrm : RmOk rm' rm maxL) (hn : As.length = n) (hst : (st.map fun v => v.category).sum ≤ 8) (hdg : decode cc pc = .ok (.invokestatic idx, 3)) (h1 : lv_has ls nL lv) (h2 : va_P Y.2.1 vwCl (WD S Y σ) H) (h3 : va_S Z.2.2.2.2.2 Z.2.1.1.heap H locs) :
    va_Run Z.1.1 Y.1 Z.1.2.1 Z.1.2.2 Z.2.1.1 Z.2.1.2.1 Z.2.1.2.2.1 Z.2.1.2.2.2 Z.2.2.1 Z.2.2.2.1 H locs 0 0 0 0 (F0 Z.2.1.2.1 pc ls (As.reverse ++ st)) st (Qc As.toArray) (AA S Y H.size) := by
  obtain ⟨hx, hb, hown, hts, hml, hlk, hK, hA, hD, hr, hR, hN⟩ := C
  exact va_runS (As := As) (rest := st) ⟨hx, hb, hml, hown, hts⟩ hM (va_cwS n hts hG hw hrm.1 hrm.2.1 hd ⟨by rw [hR]; exact hrm.2.2.1, by rw [hR]; exact hrm.2.2.2⟩) ⟨PB_blind, fun U hU hW => ⟨rfl, by rw [hU], by rw [hU]; exact h2, va_K.moved hW.alike hK, wd_D (hD σ) (fun _ _ => trivial), va_Nw.warmM hW hN⟩⟩ rfl hn h1.1 rfl (lv_room hst) hdg ⟨Nat.zero_le _, Nat.zero_le _⟩
theorem q_callVi (C : cx S nL Y Z cc own Ts ret rm) {i ci N idx n maxL : Nat} {fl : List (Nat ⊕ Nat)} {Cn : String} {T : u_T} {y : MethodName} {bytes : ByteArray} {ws ws' : List Cond} {rm' : Room} {As st0 : List Value} {rt : Option FieldType} {Post : Int32 → St → Prop}
    (hM : Ki S Y y ws rm' (.ref (qa Y i) :: As) σ Post) (hG : GoodIn Ts (wsV own idx Cn y ws)) (hw : ws = Cond.code y bytes maxL rt :: ws') (hd : y.cls = Cn ∧ NmOk y n) (hrm : RmOk rm' rm maxL) (hk : S.1 i = .inr (.inl (ci, fl))) (hi : i < S.2) (hc : vwCl[ci]? = some (Cn, T, N)) (hn : As.length = n) (hst : (st.map fun v => v.category).sum ≤ 8) (hdg : decode cc pc = .ok (.invokevirtual idx, 3)) (hs : st0 = As.reverse ++ .ref (qa Y i) :: st)
    (kk : ∀ (r : Int32) (σ' : St), Post r σ' → WW S nL Y Z σ' (pc + 3) lv (.int r :: st)) : WW S nL Y Z σ pc lv st0 := by
  intro H locs ls h1 h2 h3
  subst hs
  refine va_calli (q_runV C (hM H.size) hG hw hd hrm hk hi hc hn hst hdg h1 h2 h3) h3 (fun q _ h => AA_in C h3 q h) (AA_in C h3) (fun r u t H1 locs1 ht hvm hw2 hB _ _ hS => ?_)
  obtain ⟨hP1, -, -⟩ := hB
  rw [ht] at hP1
  exact kk r u hw2 H1 locs1 ls h1 hP1 hS
theorem q_callVv (C : cx S nL Y Z cc own Ts ret rm) {i ci N idx n maxL : Nat} {fl : List (Nat ⊕ Nat)} {Cn : String} {T : u_T} {y : MethodName} {bytes : ByteArray} {ws ws' : List Cond} {rm' : Room} {As st0 : List Value} {rt : Option FieldType} {Post : St → Prop}
    (hM : Kv S Y y ws rm' (.ref (qa Y i) :: As) σ Post) (hG : GoodIn Ts (wsV own idx Cn y ws)) (hw : ws = Cond.code y bytes maxL rt :: ws') (hd : y.cls = Cn ∧ NmOk y n) (hrm : RmOk rm' rm maxL) (hk : S.1 i = .inr (.inl (ci, fl))) (hi : i < S.2) (hc : vwCl[ci]? = some (Cn, T, N)) (hn : As.length = n) (hst : (st.map fun v => v.category).sum ≤ 8) (hdg : decode cc pc = .ok (.invokevirtual idx, 3)) (hs : st0 = As.reverse ++ .ref (qa Y i) :: st)
    (kk : ∀ (σ' : St), Post σ' → WW S nL Y Z σ' (pc + 3) lv st) : WW S nL Y Z σ pc lv st0 := by
  intro H locs ls h1 h2 h3
  subst hs
  refine va_callv (q_runV C (hM H.size) hG hw hd hrm hk hi hc hn hst hdg h1 h2 h3) h3 (fun q _ h => AA_in C h3 q h) (AA_in C h3) (fun u t H1 locs1 ht hvm hw2 hB _ _ hS => ?_)
  obtain ⟨hP1, -, -⟩ := hB
  rw [ht] at hP1
  exact kk u hw2 H1 locs1 ls h1 hP1 hS
theorem q_callVq (C : cx S nL Y Z cc own Ts ret rm) {i ci N idx n maxL : Nat} {fl : List (Nat ⊕ Nat)} {Cn : String} {T : u_T} {y : MethodName} {bytes : ByteArray} {ws ws' : List Cond} {rm' : Room} {As st0 : List Value} {rt : Option FieldType} {Post : Option Nat → St → Prop}
    (hM : Kq S Y y ws rm' (.ref (qa Y i) :: As) σ Post) (hG : GoodIn Ts (wsV own idx Cn y ws)) (hw : ws = Cond.code y bytes maxL rt :: ws') (hd : y.cls = Cn ∧ NmOk y n) (hrm : RmOk rm' rm maxL) (hk : S.1 i = .inr (.inl (ci, fl))) (hi : i < S.2) (hc : vwCl[ci]? = some (Cn, T, N)) (hn : As.length = n) (hst : (st.map fun v => v.category).sum ≤ 8) (hdg : decode cc pc = .ok (.invokevirtual idx, 3)) (hs : st0 = As.reverse ++ .ref (qa Y i) :: st)
    (kk : ∀ (r : Option Nat) (σ' : St), Post r σ' → WW S nL Y Z σ' (pc + 3) lv (va_re (qa Y) r :: st)) : WW S nL Y Z σ pc lv st0 := by
  intro H locs ls h1 h2 h3
  subst hs
  refine va_calle (q_runV C (hM H.size) hG hw hd hrm hk hi hc hn hst hdg h1 h2 h3) h3 (fun q _ h => AA_in C h3 q h) (AA_in C h3) (fun r u t H1 locs1 ht hvm hw2 hB _ _ hS => ?_)
  obtain ⟨hP1, -, -⟩ := hB
  rw [ht] at hP1
  exact kk r u hw2 H1 locs1 ls h1 hP1 hS
theorem q_callSi (C : cx S nL Y Z cc own Ts ret rm) {idx n maxL : Nat} {y : MethodName} {bytes : ByteArray} {ws ws' : List Cond} {rm' : Room} {As st0 : List Value} {rt : Option FieldType} {Post : Int32 → St → Prop}
    (hM : Ki S Y y ws rm' As σ Post) (hG : GoodIn Ts (va_wsS own idx y ws)) (hw : ws = Cond.code y bytes maxL rt :: ws') (hd : NmOk y n) (hrm : RmOk rm' rm maxL) (hn : As.length = n) (hst : (st.map fun v => v.category).sum ≤ 8) (hdg : decode cc pc = .ok (.invokestatic idx, 3)) (hs : st0 = As.reverse ++ st)
    (kk : ∀ (r : Int32) (σ' : St), Post r σ' → WW S nL Y Z σ' (pc + 3) lv (.int r :: st)) : WW S nL Y Z σ pc lv st0 := by
  intro H locs ls h1 h2 h3
  subst hs
  refine va_calli (q_runS C (hM H.size) hG hw hd hrm hn hst hdg h1 h2 h3) h3 (fun q _ h => AA_in C h3 q h) (AA_in C h3) (fun r u t H1 locs1 ht hvm hw2 hB _ _ hS => ?_)
  obtain ⟨hP1, -, -⟩ := hB
  rw [ht] at hP1
  exact kk r u hw2 H1 locs1 ls h1 hP1 hS
/-- a nest mate's static method -/
theorem q_callNi (C : cx S nL Y Z cc own Ts ret rm) {idx n maxL : Nat} {host : String} {y : MethodName} {bytes : ByteArray} {ws ws' : List Cond} {rm' : Room} {As st0 : List Value} {rt : Option FieldType} {Post : Int32 → St → Prop}
    (hM : Ki S Y y ws rm' As σ Post) (hG : GoodIn Ts ws) (hw : ws = Cond.code y bytes maxL rt :: ws') (hnw : nwW = .methodLinkNest own idx y host) (hini : Cond.initialized y.cls ∈ Ts) (hsta : Cond.static y ∈ Ts) (hd : NmOk y n) (hrm : RmOk rm' rm maxL) (hn : As.length = n) (hst : (st.map fun v => v.category).sum ≤ 8) (hdg : decode cc pc = .ok (.invokestatic idx, 3)) (hs : st0 = As.reverse ++ st)
    (kk : ∀ (r : Int32) (σ' : St), Post r σ' → WW S nL Y Z σ' (pc + 3) lv (.int r :: st)) : WW S nL Y Z σ pc lv st0 := by
  intro H locs ls h1 h2 h3
  subst hs
  have hAA := AA_in C h3
  obtain ⟨hx, hb, hown, hts, hml, hlk, hK, hA, hD, hr, hR, hN⟩ := C
  have hrun : va_Run Z.1.1 Y.1 Z.1.2.1 Z.1.2.2 Z.2.1.1 Z.2.1.2.1 Z.2.1.2.2.1 Z.2.1.2.2.2 Z.2.2.1 Z.2.2.2.1 H locs 0 0 0 0 (F0 Z.2.1.2.1 pc ls (As.reverse ++ st)) st (va_Qi Post (BW S Y (AA S Y H.size)) (AA S Y H.size) As.toArray) (AA S Y H.size) :=
    va_runSN (As := As) (rest := st) ⟨hx, hb, hml, hown, hts⟩ (hM H.size) ⟨va_cnB n hts hG hw hrm.1 hrm.2.1 (by rw [← hnw]; exact hN) (hts _ hini) hd ⟨by rw [hR]; exact hrm.2.2.1, by rw [hR]; exact hrm.2.2.2⟩, hts _ hsta, trivial⟩ ⟨PB_blind, fun U hU hW => ⟨rfl, by rw [hU], by rw [hU]; exact h2, va_K.moved hW.alike hK, wd_D (hD σ) (fun _ _ => trivial), va_Nw.warmM hW hN⟩⟩ rfl hn h1.1 rfl (lv_room hst) hdg ⟨Nat.zero_le _, Nat.zero_le _⟩
  refine va_calli hrun h3 (fun q _ h => hAA q h) hAA (fun r u t H1 locs1 ht hvm hw2 hB _ _ hS => ?_)
  obtain ⟨hP1, -, -⟩ := hB
  rw [ht] at hP1
  exact kk r u hw2 H1 locs1 ls h1 hP1 hS
end CON
