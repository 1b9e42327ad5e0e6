/-! THE CLAIM OUT OF ONE WALK OF THE LAW'S BODY. Your part is whole_start (and what it stands on); all else here is the same for every law, but numbers. -/
def R_law : String := "HeldOnCrossLaw"
def lw_P (b : Addr) (xs : List Int32) (args : Array Value) (s : State) : Prop := args = #[.ref b] ∧ s.IntsAt b xs ∧ xs.length ≤ 448 ∧ (Jvm.Cond.and given_1 narrow_1).before args s = true
def lw_Q (_ : Array Value) (s : State) (o : Outcome) (t : State) : Prop := o = .returned (some (.int 1)) ∧ Framed s o t [] 600000 7302250
def lw_Z (below : List Frame) (a : Array Value) (s : State) : State → Prop := fun t => ∃ o, t.status = .running ∧ Ended t below o ∧ lw_Q a s o t
/-- the law's own end, with 1 on the stack, nothing written that was there before, its room as the claim has it -/
theorem lw_ret {p : Program} {l : Launch} {e : Env} {s : State} {m : MethodId} {below : List Frame} {meth : Method} {c : Code} {b : Nat} (hx : p.tables.exec = Jvm.exec) (hb : c.code = code) (hr : meth.sig.returnType = ret) (hlocks : meth.locks = false) {pc : Nat} {H : Heap} {ls : Array Slot} (hdg : decode code pc = .ok (.ireturn, 1)) : W p l e room_1 s m #[Value.ref b] below meth c H [] 600000 7302250 (lw_Z below #[Value.ref b] s) (F0 m pc ls [.int 1]) := by
  intro T hT X
  obtain ⟨fs, hret, hrun, hended, hW, hframe⟩ := X.leave (v := some (.int 1)) (hlocks := hlocks) (fun h => by rw [hr] at h; cases h)
  have hmeth' : T.vm.method? m = some meth := X.method'
  refine ⟨T.setFrames fs, ?_, .returned (some (.int 1)), hrun, hended, rfl, ⟨_, rfl⟩, hW, hframe⟩
  jvm_step X.here [X.here.top, hx, hb, hdg, hmeth', hr, ret, narrow_b1]
  (try refine ⟨rfl, ?_⟩); (try refine ⟨rfl, ?_⟩)
  first | (intro acts; rw [hret _ acts rfl rfl rfl]) | rw [hret _ _ rfl rfl rfl]
  exact Steps.refl _
/-- what holds at the law's entry: the machine, the code, the tables' words (any of lw_tbl by 'hts w (by decide +kernel)'), the script of L ints xs at the cell b, what the Statement gives of the start (any of its parts by flat_of_before) -/
def lw_At (p : Program) (s : State) (m : MethodId) (meth : Method) (c : Code) (b L : Nat) (xs : Nat → Int32) : Prop :=
  p.tables.exec = Jvm.exec ∧ c.code = code ∧ meth.sig.returnType = ret ∧ c.maxLocals = 4 ∧ s.vm.findClass R_law = some m.cls ∧ (∀ w ∈ lw_tbl, w.before #[Value.ref b] s = true) ∧ va_X b L xs s s.heap ∧ b < s.heap.size ∧ meth.locks = false ∧ (Jvm.Cond.and given_1 narrow_1).before #[Value.ref b] s = true
/-! ===== the law's rows, over the two worlds ===== -/
def A0 (s : State) : Nat → Prop := fun q => s.heap.size ≤ q
theorem wd_get {S : Sd} {cy : Nat → ClassId} {q : Nat → Nat} {σ : St} {k : Nat} {x : Nat × va_E} (h : (wd S cy q σ)[k]? = some x) : k < S.2 ∧ x.1 = q k := by
  have hk : k < S.2 := by
    have := (List.getElem?_eq_some_iff.mp h).1
    simpa [wd] using this
  rw [wd_at hk] at h
  cases h
  exact ⟨hk, rfl⟩
section LAW
variable {p : Program} {l : Launch} {e : Env} {s : State} {m : MethodId} {below : List Frame} {meth : Method} {c : Code} {b L : Nat} {xs : Nat → Int32} {D : va_G} {cy : Nat → ClassId} {qc qm : Nat → Nat} {σc σm : St} {pc : Nat} {lv : List (Nat × Value)} {st : List Value}
def LX (p : Program) (l : Launch) (s : State) (m : MethodId) (meth : Method) (c : Code) (b L : Nat) (xs : Nat → Int32) (D : va_G) (cy : Nat → ClassId) (qc qm : Nat → Nat) : Prop :=
  L ≤ 448 ∧ lw_At p s m meth c b L xs ∧ va_K D vwCl (tyA cy) s ∧ (∀ σ : St, va_D (A0 s) (WD SC (l, D, qc, cy) σ)) ∧ (∀ σ : St, va_D (A0 s) (WD SM (l, D, qm, cy) σ)) ∧ (∀ i j : Nat, i < 48 → j < 23 → qc i ≠ qm j) ∧ va_Nw nwW s
def LW (p : Program) (l : Launch) (e : Env) (s : State) (m : MethodId) (below : List Frame) (meth : Method) (c : Code) (b : Nat) (D : va_G) (cy : Nat → ClassId) (qc qm : Nat → Nat) (σc σm : St) (pc : Nat) (lv : List (Nat × Value)) (st : List Value) : Prop :=
  ∀ (H : Heap) (locs : List Loc) (ls : Array Slot), lv_has ls 4 lv → va_P D vwCl (WD SC (l, D, qc, cy) σc) H → va_P D vwCl (WD SM (l, D, qm, cy) σm) H → va_S (A0 s) s.heap H locs →
    W p l e room_1 s m #[Value.ref b] below meth c H locs 600000 7302250 (lw_Z below #[Value.ref b] s) (F0 m pc ls st)
abbrev lvL (qc qm : Nat → Nat) (b i : Nat) : List (Nat × Value) := [(3, .int (nI i)), (2, .ref (qm 0)), (1, .ref (qc 0)), (0, .ref b)]
theorem l_al (X : LX p l s m meth c b L xs D cy qc qm) {k : Fin 4} {a : Nat} (j : Nat) (hdg : decode cL_law pc = .ok (.aload_n k, 1)) (hl : lv[j]? = some ((k : Nat), .ref a)) (kk : LW p l e s m below meth c b D cy qc qm σc σm (pc + 1) lv (.ref a :: st)) : LW p l e s m below meth c b D cy qc qm σc σm pc lv st := fun H locs ls h1 h2 h3 h4 => lv_aload_n X.2.1.1 X.2.1.2.1 hdg rfl (lv_at h1 j hl) (kk H locs ls h1 h2 h3 h4)
theorem l_argG (X : LX p l s m meth c b L xs D cy qc qm) {i k : Nat} (hk : i + k < L) (d4 : decode cL_law (pc + 1) = .ok (.iaload, 1)) (d3 : decode cL_law pc = .ok (.iadd, 1)) (kk : LW p l e s m below meth c b D cy qc qm σc σm (pc + 2) lv (.int (xs (i + k)) :: st)) : LW p l e s m below meth c b D cy qc qm σc σm pc lv (.int (nI k) :: .int (nI i) :: .ref b :: st) := by
  intro H locs ls h1 h2 h3 h4
  obtain ⟨hL, ⟨hx, hb, hr, hml, hown, hts, hX, hbl, hlocks, hgv⟩, hK, hDc, hDm, hsep, hN⟩ := X
  refine lv_iadd hx hb d3 ?_
  rw [nI_add]
  refine va_sld hx hb hX hbl (Nat.not_le.mpr hbl) h4 (vp_in_nI hk (by omega)) d4 ?_
  rw [nI_clamp (by omega)]
  exact kk H locs ls h1 h2 h3 h4
theorem l_arg (X : LX p l s m meth c b L xs D cy qc qm) {i k : Nat} {n : Int} (hk : i + k < L) (hn : Int32.ofInt n = nI k) (d0 : decode cL_law pc = .ok (.aload_n 0, 1)) (d1 : decode cL_law (pc + 1) = .ok (.iload_n 3, 1)) (d2 : decode cL_law (pc + 2) = .ok (.iconst n, 1)) (d3 : decode cL_law (pc + 3) = .ok (.iadd, 1)) (d4 : decode cL_law (pc + 4) = .ok (.iaload, 1))
    (kk : LW p l e s m below meth c b D cy qc qm σc σm (pc + 5) (lvL qc qm b i) (.int (xs (i + k)) :: st)) : LW p l e s m below meth c b D cy qc qm σc σm pc (lvL qc qm b i) st := by
  intro H locs ls h1 h2 h3 h4
  refine lv_aload_n X.2.1.1 X.2.1.2.1 d0 rfl (lv_at h1 3 rfl) ?_
  refine lv_iload_n X.2.1.1 X.2.1.2.1 d1 rfl (lv_at h1 0 rfl) ?_
  refine lv_iconst X.2.1.1 X.2.1.2.1 d2 hn ?_
  exact l_argG X hk d4 d3 kk H locs ls h1 h2 h3 h4
theorem l_arg6 (X : LX p l s m meth c b L xs D cy qc qm) {i k : Nat} {n : Int} (hk : i + k < L) (hn : (Int8.ofInt n).toInt32 = nI k) (d0 : decode cL_law pc = .ok (.aload_n 0, 1)) (d1 : decode cL_law (pc + 1) = .ok (.iload_n 3, 1)) (d2 : decode cL_law (pc + 2) = .ok (.bipush n, 2)) (d3 : decode cL_law (pc + 4) = .ok (.iadd, 1)) (d4 : decode cL_law (pc + 5) = .ok (.iaload, 1))
    (kk : LW p l e s m below meth c b D cy qc qm σc σm (pc + 6) (lvL qc qm b i) (.int (xs (i + k)) :: st)) : LW p l e s m below meth c b D cy qc qm σc σm pc (lvL qc qm b i) st := by
  intro H locs ls h1 h2 h3 h4
  refine lv_aload_n X.2.1.1 X.2.1.2.1 d0 rfl (lv_at h1 3 rfl) ?_
  refine lv_iload_n X.2.1.1 X.2.1.2.1 d1 rfl (lv_at h1 0 rfl) ?_
  refine lv_bipush X.2.1.1 X.2.1.2.1 d2 hn ?_
  exact l_argG X hk d4 d3 kk H locs ls h1 h2 h3 h4
theorem l_callC (X : LX p l s m meth c b L xs D cy qc qm) {idx n maxL : Nat} {y : MethodName} {bytes : ByteArray} {ws ws' : List Cond} {rm' : Room} {As st0 : List Value} {rt : Option FieldType} {Post : Int32 → St → Prop}
    (hM : Ki SC (l, D, qc, cy) y ws rm' (.ref (qc 0) :: As) σc Post) (hG : GoodIn wsL_law (wsV RL idx RX8 y ws)) (hw : ws = Cond.code y bytes maxL rt :: ws') (hd : y.cls = RX8 ∧ NmOk y n) (hrm : RmOk rm' room_1 maxL) (hn : As.length = n) (hst : (st.map fun v => v.category).sum ≤ 8) (hdg : decode cL_law pc = .ok (.invokevirtual idx, 3)) (hs : st0 = As.reverse ++ .ref (qc 0) :: st)
    (kk : ∀ (r : Int32) (σ' : St), Post r σ' → LW p l e s m below meth c b D cy qc qm σ' σm (pc + 3) lv (.int r :: st)) : LW p l e s m below meth c b D cy qc qm σc σm pc lv st0 := by
  intro H locs ls h1 h2c h2m h3
  subst hs
  obtain ⟨hL, ⟨hx, hb, hr, hml, hown, hts0, hX, hbl, hlocks, hgv⟩, hK, hDc, hDm, hsep, hN⟩ := X
  have hts : ∀ w ∈ wsL_law, w.before #[Value.ref b] s = true := fun w hw => hts0 w (wsL_law_in w hw)
  have he := wd_at (cy := cy) (q := qc) (σ := σc) (S := SC) (i := 0) (by decide)
  have hF : ∀ q, AA SC (l, D, qc, cy) H.size q → A0 s q := by
    rintro q (⟨i, hi, rfl⟩ | hq)
    · exact (hDc σc).2 i _ (wd_at hi)
    · exact Nat.le_trans h3.1 hq
  refine va_calli (va_runV (As := As) (rest := st) ⟨hx, hb, hml, hown, hts⟩ (hM H.size) (cwV n hts hG hw hrm.1 hrm.2.1 hd ⟨hrm.2.2.1, hrm.2.2.2⟩) ⟨PB_blind, va_recv hK h2c (ci := 8) (q0 := 0) rfl he, fun U hU hW => ⟨rfl, by rw [hU], by rw [hU]; exact h2c, va_K.moved hW.alike hK, wd_D (hDc σc) (fun _ _ => trivial), va_Nw.warmM hW hN⟩⟩ rfl hn h1.1 rfl (lv_room hst) hdg ⟨Nat.le_refl _, Nat.le_refl _⟩) h3 (fun q _ h => hF q h) hF (fun r u t H1 locs1 ht hvm hw2 hB hz hk hS => ?_)
  obtain ⟨hP1, -, -⟩ := hB
  rw [ht] at hP1
  have keep := h2m.kept (H1 := H1) (fun k x hx2 => hk x.1 ((h2m k x hx2).lt) (by
    obtain ⟨hk2, ex⟩ := wd_get hx2
    rintro (⟨i, hi, ei⟩ | hq)
    · exact hsep i k hi hk2 (ei.symm.trans ex)
    · exact absurd ((h2m k x hx2).lt) (Nat.not_lt.mpr hq)))
  exact kk r u hw2 H1 locs1 ls h1 hP1 keep hS
theorem l_callM (X : LX p l s m meth c b L xs D cy qc qm) {idx n maxL : Nat} {y : MethodName} {bytes : ByteArray} {ws ws' : List Cond} {rm' : Room} {As st0 : List Value} {rt : Option FieldType} {Post : Int32 → St → Prop}
    (hM : Ki SM (l, D, qm, cy) y ws rm' (.ref (qm 0) :: As) σm Post) (hG : GoodIn wsL_law (wsV RL idx RX9 y ws)) (hw : ws = Cond.code y bytes maxL rt :: ws') (hd : y.cls = RX9 ∧ NmOk y n) (hrm : RmOk rm' room_1 maxL) (hn : As.length = n) (hst : (st.map fun v => v.category).sum ≤ 8) (hdg : decode cL_law pc = .ok (.invokevirtual idx, 3)) (hs : st0 = As.reverse ++ .ref (qm 0) :: st)
    (kk : ∀ (r : Int32) (σ' : St), Post r σ' → LW p l e s m below meth c b D cy qc qm σc σ' (pc + 3) lv (.int r :: st)) : LW p l e s m below meth c b D cy qc qm σc σm pc lv st0 := by
  intro H locs ls h1 h2c h2m h3
  subst hs
  obtain ⟨hL, ⟨hx, hb, hr, hml, hown, hts0, hX, hbl, hlocks, hgv⟩, hK, hDc, hDm, hsep, hN⟩ := X
  have hts : ∀ w ∈ wsL_law, w.before #[Value.ref b] s = true := fun w hw => hts0 w (wsL_law_in w hw)
  have he := wd_at (cy := cy) (q := qm) (σ := σm) (S := SM) (i := 0) (by decide)
  have hF : ∀ q, AA SM (l, D, qm, cy) H.size q → A0 s q := by
    rintro q (⟨i, hi, rfl⟩ | hq)
    · exact (hDm σm).2 i _ (wd_at hi)
    · exact Nat.le_trans h3.1 hq
  refine va_calli (va_runV (As := As) (rest := st) ⟨hx, hb, hml, hown, hts⟩ (hM H.size) (cwV n hts hG hw hrm.1 hrm.2.1 hd ⟨hrm.2.2.1, hrm.2.2.2⟩) ⟨PB_blind, va_recv hK h2m (ci := 9) (q0 := 0) rfl he, fun U hU hW => ⟨rfl, by rw [hU], by rw [hU]; exact h2m, va_K.moved hW.alike hK, wd_D (hDm σm) (fun _ _ => trivial), va_Nw.warmM hW hN⟩⟩ rfl hn h1.1 rfl (lv_room hst) hdg ⟨Nat.le_refl _, Nat.le_refl _⟩) h3 (fun q _ h => hF q h) hF (fun r u t H1 locs1 ht hvm hw2 hB hz hk hS => ?_)
  obtain ⟨hP1, -, -⟩ := hB
  rw [ht] at hP1
  have keep := h2c.kept (H1 := H1) (fun k x hx2 => hk x.1 ((h2c k x hx2).lt) (by
    obtain ⟨hk2, ex⟩ := wd_get hx2
    rintro (⟨i, hi, ei⟩ | hq)
    · exact hsep k i hk2 hi (ex.symm.trans ei)
    · exact absurd ((h2c k x hx2).lt) (Nat.not_lt.mpr hq)))
  exact kk r u hw2 H1 locs1 ls h1 keep hP1 hS

theorem l_end (X : LX p l s m meth c b L xs D cy qc qm) {off : Int} {tgt : Nat} {r r' : Int32} (hdg : decode cL_law pc = .ok (.if_icmp .eq off, 3)) (ht : (pc : Int) + off = (tgt : Int)) (hr : r = r') (kk : LW p l e s m below meth c b D cy qc qm σc σm tgt lv []) : LW p l e s m below meth c b D cy qc qm σc σm pc lv [.int r', .int r] := fun H locs ls h1 h2 h3 h4 =>
  lv_icmp_eq (tgt := tgt) X.2.1.1 X.2.1.2.1 hdg ht (fun _ => kk H locs ls h1 h2 h3 h4) (fun q => absurd hr q)
theorem l_bool (X : LX p l s m meth c b L xs D cy qc qm) {x : Int32} (d0 : decode cL_law pc = .ok (.ifCond .eq 7, 3)) (d1 : decode cL_law (pc + 3) = .ok (.iconst 1, 1)) (d2 : decode cL_law (pc + 4) = .ok (.goto 4, 3)) (d3 : decode cL_law (pc + 7) = .ok (.iconst 0, 1)) (kd : ∀ v : Int32, v = (if x = 0 then 0 else 1) → LW p l e s m below meth c b D cy qc qm σc σm (pc + 8) lv (.int v :: st)) : LW p l e s m below meth c b D cy qc qm σc σm pc lv (.int x :: st) := by
  intro H locs ls h1 h2 h3 h4
  refine lv_if_eq (tgt := pc + 7) X.2.1.1 X.2.1.2.1 d0 (by push_cast; omega) (fun q => ?_) (fun q => ?_)
  · refine lv_iconst (v := 0) X.2.1.1 X.2.1.2.1 d3 (by decide) ?_
    exact kd 0 (by rw [if_pos q]) H locs ls h1 h2 h3 h4
  · refine lv_iconst (v := 1) X.2.1.1 X.2.1.2.1 d1 (by decide) ?_
    refine lv_goto (tgt := pc + 8) X.2.1.1 X.2.1.2.1 d2 (by push_cast; omega) ?_
    exact kd 1 (by rw [if_neg q]) H locs ls h1 h2 h3 h4
end LAW
