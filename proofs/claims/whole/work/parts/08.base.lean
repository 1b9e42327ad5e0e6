/-! ===== base: worlds by number, and the rows over them ===== -/
abbrev St : Type := Nat → Nat → Int32
/-- what a component is: an array of ints (type's number, length); an object (class's number, its fields: a number by its slot, a reference by the component's number); a fixed array of references (length, first component) -/
abbrev KD : Type := (Nat × Nat) ⊕ ((Nat × List (Nat ⊕ Nat)) ⊕ (Nat × Nat))
abbrev Sd : Type := (Nat → KD) × Nat
def upc (σ : St) (i : Nat) (f : Nat → Int32) : St := fun a => if a = i then f else σ a
def up (σ : St) (i k : Nat) (x : Int32) : St := upc σ i (upd (σ i) k x)
def fcel (q : Nat → Nat) (f : Nat → Int32) (e : Nat ⊕ Nat) : Value := match e with
  | .inl k => .int (f k)
  | .inr j => .ref (q j)
def cel (cy : Nat → ClassId) (q : Nat → Nat) (k : KD) (f : Nat → Int32) : va_E := match k with
  | .inl (t, n) => .inl (cy t, n, .inl f)
  | .inr (.inl (ci, fl)) => .inr (ci, fl.map (fcel q f))
  | .inr (.inr (n, b)) => .inl (cy 2, n, .inr (.inr (.inr (.inr (fun j => if j < n then some (q (b + j)) else none)))))
def wd (S : Sd) (cy : Nat → ClassId) (q : Nat → Nat) (σ : St) : va_W := (List.range S.2).map (fun i => (q i, cel cy q (S.1 i) (σ i)))
theorem wd_at {S : Sd} {cy : Nat → ClassId} {q : Nat → Nat} {σ : St} {i : Nat} (hi : i < S.2) : (wd S cy q σ)[i]? = some (q i, cel cy q (S.1 i) (σ i)) := by
  simp [wd, hi]
theorem upc_same {σ : St} {i : Nat} {f : Nat → Int32} : upc σ i f i = f := by simp [upc]
theorem upc_ne {σ : St} {i j : Nat} {f : Nat → Int32} (h : j ≠ i) : upc σ i f j = σ j := by simp [upc, h]
theorem wd_set {S : Sd} {cy : Nat → ClassId} {q : Nat → Nat} {σ : St} {i : Nat} {f : Nat → Int32} : (wd S cy q σ).set i (q i, cel cy q (S.1 i) f) = wd S cy q (upc σ i f) := by
  apply List.ext_getElem?
  intro j
  rw [List.getElem?_set]
  by_cases hij : i = j
  · subst hij
    by_cases hi : i < S.2
    · simp [wd, hi, upc_same]
    · simp [wd, hi]
  · rw [if_neg hij]
    by_cases hj : j < S.2
    · simp [wd, hj, upc_ne (Ne.symm hij)]
    · simp [wd, hj]
def tyA (cy : Nat → ClassId) : List (ClassId × FieldType) := [(cy 0, .int), (cy 1, .boolean), (cy 2, .object RX4)]
/-- a world's own: the launch, where the classes lie, where the components lie, the arrays' classes -/
abbrev CY : Type := Launch × va_G × (Nat → Nat) × (Nat → ClassId)
abbrev CZ : Type := (Program × Env × Room) × (State × MethodId × Array Value × List Frame) × (Method × Code × (State → Prop) × (Nat → Prop))
/-- the one word of a nest mate's call, that a method's own words don't hold -/
def nwW : Cond := .methodLinkNest RX6 123 yX8_isWithin RX8
abbrev qa (Y : CY) : Nat → Nat := Y.2.2.1
abbrev WD (S : Sd) (Y : CY) (σ : St) : va_W := wd S Y.2.2.2 Y.2.2.1 σ
def AA (S : Sd) (Y : CY) (sz : Nat) : Nat → Prop := fun x => (∃ i, i < S.2 ∧ x = qa Y i) ∨ sz ≤ x
def WW (S : Sd) (nL : Nat) (Y : CY) (Z : CZ) (σ : St) (pc : Nat) (lv : List (Nat × Value)) (st : List Value) : Prop :=
  ∀ (H : Heap) (locs : List Loc) (ls : Array Slot), lv_has ls nL lv → va_P Y.2.1 vwCl (WD S Y σ) H → va_S Z.2.2.2.2.2 Z.2.1.1.heap H locs →
    W Z.1.1 Y.1 Z.1.2.1 Z.1.2.2 Z.2.1.1 Z.2.1.2.1 Z.2.1.2.2.1 Z.2.1.2.2.2 Z.2.2.1 Z.2.2.2.1 H locs 0 0 Z.2.2.2.2.1 (F0 Z.2.1.2.1 pc ls st)
/-- what holds all through a method's run -/
def cx (S : Sd) (nL : Nat) (Y : CY) (Z : CZ) (cc : ByteArray) (own : String) (Ts : List Cond) (ret : Option FieldType) (rm : Room) : Prop :=
  Z.1.1.tables.exec = Jvm.exec ∧ Z.2.2.2.1.code = cc ∧ Z.2.1.1.vm.findClass own = some Z.2.1.2.1.cls ∧ (∀ w ∈ Ts, w.before Z.2.1.2.2.1 Z.2.1.1 = true) ∧ Z.2.2.2.1.maxLocals = nL ∧
  Z.2.2.1.locks = false ∧ va_K Y.2.1 vwCl (tyA Y.2.2.2) Z.2.1.1 ∧ (∀ q : Nat, Z.2.1.1.heap.size ≤ q → Z.2.2.2.2.2 q) ∧ (∀ σ : St, va_D Z.2.2.2.2.2 (WD S Y σ)) ∧ Z.2.2.1.sig.returnType = ret ∧ Z.1.2.2 = rm ∧ va_Nw nwW Z.2.1.1
section ROWS
variable {S : Sd} {nL : Nat} {Y : CY} {Z : CZ} {cc : ByteArray} {own : String} {Ts : List Cond} {ret : Option FieldType} {rm : Room} {σ : St} {pc : Nat} {lv lv' : List (Nat × Value)} {st : List Value}
theorem q_sub (ks : List Nat) (hl : lv_pick lv ks = lv') (kk : WW S nL Y Z σ pc lv' st) : WW S nL Y Z σ pc lv st := fun H locs ls h1 h2 h3 => kk H locs ls (lv_sub h1 ks hl) h2 h3
theorem q_iconst (C : cx S nL Y Z cc own Ts ret rm) {n : Int} {v : Int32} (hdg : decode cc pc = .ok (.iconst n, 1)) (hv : Int32.ofInt n = v) (kk : WW S nL Y Z σ (pc + 1) lv (.int v :: st)) : WW S nL Y Z σ pc lv st := fun H locs ls h1 h2 h3 => lv_iconst C.1 C.2.1 hdg hv (kk H locs ls h1 h2 h3)
theorem q_bipush (C : cx S nL Y Z cc own Ts ret rm) {n : Int} {v : Int32} (hdg : decode cc pc = .ok (.bipush n, 2)) (hv : (Int8.ofInt n).toInt32 = v) (kk : WW S nL Y Z σ (pc + 2) lv (.int v :: st)) : WW S nL Y Z σ pc lv st := fun H locs ls h1 h2 h3 => lv_bipush C.1 C.2.1 hdg hv (kk H locs ls h1 h2 h3)
theorem q_sipush (C : cx S nL Y Z cc own Ts ret rm) {n : Int} {v : Int32} (hdg : decode cc pc = .ok (.sipush n, 3)) (hv : (Int16.ofInt n).toInt32 = v) (kk : WW S nL Y Z σ (pc + 3) lv (.int v :: st)) : WW S nL Y Z σ pc lv st := fun H locs ls h1 h2 h3 => lv_sipush C.1 C.2.1 hdg hv (kk H locs ls h1 h2 h3)
theorem q_lconst (C : cx S nL Y Z cc own Ts ret rm) {n : Fin 2} {v : Int64} (hdg : decode cc pc = .ok (.lconst n, 1)) (hv : Int64.ofNat (n : Nat) = v) (kk : WW S nL Y Z σ (pc + 1) lv (.long v :: st)) : WW S nL Y Z σ pc lv st := fun H locs ls h1 h2 h3 => lv_lconst C.1 C.2.1 hdg hv (kk H locs ls h1 h2 h3)
theorem q_ldc (C : cx S nL Y Z cc own Ts ret rm) {index : Nat} {v : Int32} (hw : Cond.constant own index v ∈ Ts) (hdg : decode cc pc = .ok (.ldc index, 2)) (kk : WW S nL Y Z σ (pc + 2) lv (.int v :: st)) : WW S nL Y Z σ pc lv st := fun H locs ls h1 h2 h3 => lv_ldc C.1 C.2.1 C.2.2.1 (C.2.2.2.1 _ hw) hdg (kk H locs ls h1 h2 h3)
theorem q_ldc2 (C : cx S nL Y Z cc own Ts ret rm) {index : Nat} {v : Int64} (hw : Cond.constantLong own index v ∈ Ts) (hdg : decode cc pc = .ok (.ldc2_w index, 3)) (kk : WW S nL Y Z σ (pc + 3) lv (.long v :: st)) : WW S nL Y Z σ pc lv st := fun H locs ls h1 h2 h3 => lv_ldc2 C.1 C.2.1 C.2.2.1 (C.2.2.2.1 _ hw) hdg (kk H locs ls h1 h2 h3)
theorem q_iload_n (C : cx S nL Y Z cc own Ts ret rm) {k : Fin 4} {x : Int32} (j : Nat) (hdg : decode cc pc = .ok (.iload_n k, 1)) (hl : lv[j]? = some ((k : Nat), .int x)) (kk : WW S nL Y Z σ (pc + 1) lv (.int x :: st)) : WW S nL Y Z σ pc lv st := fun H locs ls h1 h2 h3 => lv_iload_n C.1 C.2.1 hdg rfl (lv_at h1 j hl) (kk H locs ls h1 h2 h3)
theorem q_iload (C : cx S nL Y Z cc own Ts ret rm) {k : Nat} {x : Int32} (j : Nat) (hdg : decode cc pc = .ok (.iload k, 2)) (hl : lv[j]? = some (k, .int x)) (kk : WW S nL Y Z σ (pc + 2) lv (.int x :: st)) : WW S nL Y Z σ pc lv st := fun H locs ls h1 h2 h3 => lv_iload C.1 C.2.1 hdg (lv_at h1 j hl) (kk H locs ls h1 h2 h3)
theorem q_lload_n (C : cx S nL Y Z cc own Ts ret rm) {k : Fin 4} {x : Int64} (j : Nat) (hdg : decode cc pc = .ok (.lload_n k, 1)) (hl : lv[j]? = some ((k : Nat), .long x)) (kk : WW S nL Y Z σ (pc + 1) lv (.long x :: st)) : WW S nL Y Z σ pc lv st := fun H locs ls h1 h2 h3 => lv_lload_n C.1 C.2.1 hdg rfl (lv_at h1 j hl) (kk H locs ls h1 h2 h3)
theorem q_lload (C : cx S nL Y Z cc own Ts ret rm) {k : Nat} {x : Int64} (j : Nat) (hdg : decode cc pc = .ok (.lload k, 2)) (hl : lv[j]? = some (k, .long x)) (kk : WW S nL Y Z σ (pc + 2) lv (.long x :: st)) : WW S nL Y Z σ pc lv st := fun H locs ls h1 h2 h3 => lv_lload C.1 C.2.1 hdg (lv_at h1 j hl) (kk H locs ls h1 h2 h3)
theorem q_aload_n (C : cx S nL Y Z cc own Ts ret rm) {k : Fin 4} {x : Nat} (j : Nat) (hdg : decode cc pc = .ok (.aload_n k, 1)) (hl : lv[j]? = some ((k : Nat), .ref x)) (kk : WW S nL Y Z σ (pc + 1) lv (.ref x :: st)) : WW S nL Y Z σ pc lv st := fun H locs ls h1 h2 h3 => lv_aload_n C.1 C.2.1 hdg rfl (lv_at h1 j hl) (kk H locs ls h1 h2 h3)
theorem q_aload (C : cx S nL Y Z cc own Ts ret rm) {k : Nat} {x : Nat} (j : Nat) (hdg : decode cc pc = .ok (.aload k, 2)) (hl : lv[j]? = some (k, .ref x)) (kk : WW S nL Y Z σ (pc + 2) lv (.ref x :: st)) : WW S nL Y Z σ pc lv st := fun H locs ls h1 h2 h3 => lv_aload C.1 C.2.1 hdg (lv_at h1 j hl) (kk H locs ls h1 h2 h3)
/-- a null, or a reference: out of a local, and into one -/
theorem q_aload_nq (C : cx S nL Y Z cc own Ts ret rm) {k : Fin 4} {r : Option Nat} (j : Nat) (hdg : decode cc pc = .ok (.aload_n k, 1)) (hl : lv[j]? = some ((k : Nat), va_re (qa Y) r)) (kk : WW S nL Y Z σ (pc + 1) lv (va_re (qa Y) r :: st)) : WW S nL Y Z σ pc lv st := by
  intro H locs ls h1 h2 h3
  cases r with
  | none => exact lv_aload_nN C.1 C.2.1 hdg rfl (lv_at h1 j hl) (kk H locs ls h1 h2 h3)
  | some r => exact lv_aload_n C.1 C.2.1 hdg rfl (lv_at h1 j hl) (kk H locs ls h1 h2 h3)
theorem q_istore_n (C : cx S nL Y Z cc own Ts ret rm) {k : Fin 4} {x : Int32} (lv' : List (Nat × Value)) (hdg : decode cc pc = .ok (.istore_n k, 1)) (hn : (k : Nat) < nL) (hl : ((k : Nat), Value.int x) :: lv.filter (fun q => !(q.1 == (k : Nat)) && !(q.1 + 1 == (k : Nat) && q.2.category == 2)) = lv') (kk : WW S nL Y Z σ (pc + 1) lv' st) : WW S nL Y Z σ pc lv (.int x :: st) := fun H locs _ h1 h2 h3 => lv_istore_n C.1 C.2.1 hdg rfl h1 hn hl (fun ls h1 => kk H locs ls h1 h2 h3)
theorem q_istore (C : cx S nL Y Z cc own Ts ret rm) {k : Nat} {x : Int32} (lv' : List (Nat × Value)) (hdg : decode cc pc = .ok (.istore k, 2)) (hn : k < nL) (hl : (k, Value.int x) :: lv.filter (fun q => !(q.1 == k) && !(q.1 + 1 == k && q.2.category == 2)) = lv') (kk : WW S nL Y Z σ (pc + 2) lv' st) : WW S nL Y Z σ pc lv (.int x :: st) := fun H locs _ h1 h2 h3 => lv_istore C.1 C.2.1 hdg h1 hn hl (fun ls h1 => kk H locs ls h1 h2 h3)
theorem q_lstore_n (C : cx S nL Y Z cc own Ts ret rm) {k : Fin 4} {x : Int64} (lv' : List (Nat × Value)) (hdg : decode cc pc = .ok (.lstore_n k, 1)) (hn : (k : Nat) + 1 < nL) (hl : ((k : Nat), Value.long x) :: lv.filter (fun q => !(q.1 == (k : Nat)) && (!(q.1 == (k : Nat) + 1) && !(q.1 + 1 == (k : Nat) && q.2.category == 2))) = lv') (kk : WW S nL Y Z σ (pc + 1) lv' st) : WW S nL Y Z σ pc lv (.long x :: st) := fun H locs _ h1 h2 h3 => lv_lstore_n C.1 C.2.1 hdg rfl h1 hn hl (fun ls h1 => kk H locs ls h1 h2 h3)
theorem q_astore_n (C : cx S nL Y Z cc own Ts ret rm) {k : Fin 4} {x : Nat} (lv' : List (Nat × Value)) (hdg : decode cc pc = .ok (.astore_n k, 1)) (hn : (k : Nat) < nL) (hl : ((k : Nat), Value.ref x) :: lv.filter (fun q => !(q.1 == (k : Nat)) && !(q.1 + 1 == (k : Nat) && q.2.category == 2)) = lv') (kk : WW S nL Y Z σ (pc + 1) lv' st) : WW S nL Y Z σ pc lv (.ref x :: st) := fun H locs _ h1 h2 h3 => lv_astore_n C.1 C.2.1 hdg rfl h1 hn hl (fun ls h1 => kk H locs ls h1 h2 h3)
theorem q_astore_nq (C : cx S nL Y Z cc own Ts ret rm) {k : Fin 4} {r : Option Nat} (lv0 : List (Nat × Value)) (hdg : decode cc pc = .ok (.astore_n k, 1)) (hn : (k : Nat) < nL) (hl : lv.filter (fun q => !(q.1 == (k : Nat)) && !(q.1 + 1 == (k : Nat) && q.2.category == 2)) = lv0) (kk : WW S nL Y Z σ (pc + 1) (((k : Nat), va_re (qa Y) r) :: lv0) st) : WW S nL Y Z σ pc lv (va_re (qa Y) r :: st) := by
  subst hl
  intro H locs ls0 h1 h2 h3
  cases r with
  | none => exact lv_astore_nN C.1 C.2.1 hdg rfl h1 hn rfl (fun ls h1 => kk H locs ls h1 h2 h3)
  | some r => exact lv_astore_n C.1 C.2.1 hdg rfl h1 hn rfl (fun ls h1 => kk H locs ls h1 h2 h3)
theorem q_iinc (C : cx S nL Y Z cc own Ts ret rm) {i : Nat} {n : Int} {x : Int32} (v : Int32) (j : Nat) (lv' : List (Nat × Value)) (hdg : decode cc pc = .ok (.iinc i n, 3)) (hk : lv[j]? = some (i, .int x)) (hv : x + Int32.ofInt n = v) (hn : i < nL) (hl : (i, Value.int v) :: lv.filter (fun q => !(q.1 == i) && !(q.1 + 1 == i && q.2.category == 2)) = lv') (kk : WW S nL Y Z σ (pc + 3) lv' st) : WW S nL Y Z σ pc lv st := fun H locs _ h1 h2 h3 => lv_iinc C.1 C.2.1 hdg h1 hk hv hn hl (fun ls h1 => kk H locs ls h1 h2 h3)
theorem q_iadd (C : cx S nL Y Z cc own Ts ret rm) {x y : Int32} (hdg : decode cc pc = .ok (.iadd, 1)) (kk : WW S nL Y Z σ (pc + 1) lv (.int (x + y) :: st)) : WW S nL Y Z σ pc lv (.int y :: .int x :: st) := fun H locs ls h1 h2 h3 => lv_iadd C.1 C.2.1 hdg (kk H locs ls h1 h2 h3)
theorem q_isub (C : cx S nL Y Z cc own Ts ret rm) {x y : Int32} (hdg : decode cc pc = .ok (.isub, 1)) (kk : WW S nL Y Z σ (pc + 1) lv (.int (x - y) :: st)) : WW S nL Y Z σ pc lv (.int y :: .int x :: st) := fun H locs ls h1 h2 h3 => lv_isub C.1 C.2.1 hdg (kk H locs ls h1 h2 h3)
theorem q_imul (C : cx S nL Y Z cc own Ts ret rm) {x y : Int32} (hdg : decode cc pc = .ok (.imul, 1)) (kk : WW S nL Y Z σ (pc + 1) lv (.int (x * y) :: st)) : WW S nL Y Z σ pc lv (.int y :: .int x :: st) := fun H locs ls h1 h2 h3 => lv_imul C.1 C.2.1 hdg (kk H locs ls h1 h2 h3)
theorem q_iand (C : cx S nL Y Z cc own Ts ret rm) {x y : Int32} (hdg : decode cc pc = .ok (.iand, 1)) (kk : WW S nL Y Z σ (pc + 1) lv (.int (x &&& y) :: st)) : WW S nL Y Z σ pc lv (.int y :: .int x :: st) := fun H locs ls h1 h2 h3 => lv_iand C.1 C.2.1 hdg (kk H locs ls h1 h2 h3)
theorem q_ior (C : cx S nL Y Z cc own Ts ret rm) {x y : Int32} (hdg : decode cc pc = .ok (.ior, 1)) (kk : WW S nL Y Z σ (pc + 1) lv (.int (x ||| y) :: st)) : WW S nL Y Z σ pc lv (.int y :: .int x :: st) := fun H locs ls h1 h2 h3 => lv_ior C.1 C.2.1 hdg (kk H locs ls h1 h2 h3)
theorem q_ishl (C : cx S nL Y Z cc own Ts ret rm) {x y : Int32} (hdg : decode cc pc = .ok (.ishl, 1)) (kk : WW S nL Y Z σ (pc + 1) lv (.int (x <<< (y &&& 31)) :: st)) : WW S nL Y Z σ pc lv (.int y :: .int x :: st) := fun H locs ls h1 h2 h3 => lv_ishl C.1 C.2.1 hdg (kk H locs ls h1 h2 h3)
theorem q_ishr (C : cx S nL Y Z cc own Ts ret rm) {x y : Int32} (hdg : decode cc pc = .ok (.ishr, 1)) (kk : WW S nL Y Z σ (pc + 1) lv (.int (x >>> (y &&& 31)) :: st)) : WW S nL Y Z σ pc lv (.int y :: .int x :: st) := fun H locs ls h1 h2 h3 => lv_ishr C.1 C.2.1 hdg (kk H locs ls h1 h2 h3)
theorem q_ineg (C : cx S nL Y Z cc own Ts ret rm) {x : Int32} (hdg : decode cc pc = .ok (.ineg, 1)) (kk : WW S nL Y Z σ (pc + 1) lv (.int (-x) :: st)) : WW S nL Y Z σ pc lv (.int x :: st) := fun H locs ls h1 h2 h3 => lv_ineg C.1 C.2.1 hdg (kk H locs ls h1 h2 h3)
theorem q_idiv (C : cx S nL Y Z cc own Ts ret rm) {x y : Int32} (hdg : decode cc pc = .ok (.idiv, 1)) (hne : ¬ y = 0) (kk : WW S nL Y Z σ (pc + 1) lv (.int (x / y) :: st)) : WW S nL Y Z σ pc lv (.int y :: .int x :: st) := fun H locs ls h1 h2 h3 => lv_idiv C.1 C.2.1 hdg hne (kk H locs ls h1 h2 h3)
theorem q_irem (C : cx S nL Y Z cc own Ts ret rm) {x y : Int32} (hdg : decode cc pc = .ok (.irem, 1)) (hne : ¬ y = 0) (kk : WW S nL Y Z σ (pc + 1) lv (.int (x - x / y * y) :: st)) : WW S nL Y Z σ pc lv (.int y :: .int x :: st) := fun H locs ls h1 h2 h3 => lv_irem C.1 C.2.1 hdg hne (kk H locs ls h1 h2 h3)
theorem q_ladd (C : cx S nL Y Z cc own Ts ret rm) {x y : Int64} (hdg : decode cc pc = .ok (.ladd, 1)) (kk : WW S nL Y Z σ (pc + 1) lv (.long (x + y) :: st)) : WW S nL Y Z σ pc lv (.long y :: .long x :: st) := fun H locs ls h1 h2 h3 => lv_ladd C.1 C.2.1 hdg (kk H locs ls h1 h2 h3)
theorem q_lmul (C : cx S nL Y Z cc own Ts ret rm) {x y : Int64} (hdg : decode cc pc = .ok (.lmul, 1)) (kk : WW S nL Y Z σ (pc + 1) lv (.long (x * y) :: st)) : WW S nL Y Z σ pc lv (.long y :: .long x :: st) := fun H locs ls h1 h2 h3 => lv_lmul C.1 C.2.1 hdg (kk H locs ls h1 h2 h3)
theorem q_ldiv (C : cx S nL Y Z cc own Ts ret rm) {x y : Int64} (hdg : decode cc pc = .ok (.ldiv, 1)) (hne : ¬ y = 0) (kk : WW S nL Y Z σ (pc + 1) lv (.long (x / y) :: st)) : WW S nL Y Z σ pc lv (.long y :: .long x :: st) := fun H locs ls h1 h2 h3 => lv_ldiv C.1 C.2.1 hdg hne (kk H locs ls h1 h2 h3)
theorem q_lrem (C : cx S nL Y Z cc own Ts ret rm) {x y : Int64} (hdg : decode cc pc = .ok (.lrem, 1)) (hne : ¬ y = 0) (kk : WW S nL Y Z σ (pc + 1) lv (.long (x - x / y * y) :: st)) : WW S nL Y Z σ pc lv (.long y :: .long x :: st) := fun H locs ls h1 h2 h3 => lv_lrem C.1 C.2.1 hdg hne (kk H locs ls h1 h2 h3)
theorem q_lcmp (C : cx S nL Y Z cc own Ts ret rm) {x y : Int64} (hdg : decode cc pc = .ok (.lcmp, 1)) (kk : WW S nL Y Z σ (pc + 1) lv (.int (lg_cmp x y) :: st)) : WW S nL Y Z σ pc lv (.long y :: .long x :: st) := fun H locs ls h1 h2 h3 => W.lcmp C.1 C.2.1 hdg (kk H locs ls h1 h2 h3)
theorem q_i2l (C : cx S nL Y Z cc own Ts ret rm) {x : Int32} (hdg : decode cc pc = .ok (.i2l, 1)) (kk : WW S nL Y Z σ (pc + 1) lv (.long x.toInt64 :: st)) : WW S nL Y Z σ pc lv (.int x :: st) := fun H locs ls h1 h2 h3 => lv_i2l C.1 C.2.1 hdg rfl (kk H locs ls h1 h2 h3)
theorem q_l2i (C : cx S nL Y Z cc own Ts ret rm) {x : Int64} (hdg : decode cc pc = .ok (.l2i, 1)) (kk : WW S nL Y Z σ (pc + 1) lv (.int x.toInt32 :: st)) : WW S nL Y Z σ pc lv (.long x :: st) := fun H locs ls h1 h2 h3 => lv_l2i C.1 C.2.1 hdg rfl (kk H locs ls h1 h2 h3)
theorem q_dup (C : cx S nL Y Z cc own Ts ret rm) {va : Value} (hdg : decode cc pc = .ok (.dup, 1)) (hva : va.category = 1) (kk : WW S nL Y Z σ (pc + 1) lv (va :: va :: st)) : WW S nL Y Z σ pc lv (va :: st) := fun H locs ls h1 h2 h3 => lv_dup C.1 C.2.1 hdg hva (kk H locs ls h1 h2 h3)
theorem q_dup2 (C : cx S nL Y Z cc own Ts ret rm) {va vb : Value} (hdg : decode cc pc = .ok (.dup2, 1)) (hva : va.category = 1) (hvb : vb.category = 1) (kk : WW S nL Y Z σ (pc + 1) lv (va :: vb :: va :: vb :: st)) : WW S nL Y Z σ pc lv (va :: vb :: st) := fun H locs ls h1 h2 h3 => lv_dup2_11 C.1 C.2.1 hdg hva hvb (kk H locs ls h1 h2 h3)
theorem q_goto (C : cx S nL Y Z cc own Ts ret rm) {off : Int} (tgt : Nat) (hdg : decode cc pc = .ok (.goto off, 3)) (ht : (pc : Int) + off = (tgt : Int)) (kk : WW S nL Y Z σ tgt lv st) : WW S nL Y Z σ pc lv st := fun H locs ls h1 h2 h3 => lv_goto C.1 C.2.1 hdg ht (kk H locs ls h1 h2 h3)
theorem q_icmp_eq (C : cx S nL Y Z cc own Ts ret rm) {x y : Int32} {off : Int} (tgt : Nat) (hdg : decode cc pc = .ok (.if_icmp .eq off, 3)) (ht : (pc : Int) + off = (tgt : Int)) (kt : x = y → WW S nL Y Z σ tgt lv st) (kf : ¬ x = y → WW S nL Y Z σ (pc + 3) lv st) : WW S nL Y Z σ pc lv (.int y :: .int x :: st) := fun H locs ls h1 h2 h3 => lv_icmp_eq C.1 C.2.1 hdg ht (fun h => kt h H locs ls h1 h2 h3) (fun h => kf h H locs ls h1 h2 h3)
theorem q_icmp_ne (C : cx S nL Y Z cc own Ts ret rm) {x y : Int32} {off : Int} (tgt : Nat) (hdg : decode cc pc = .ok (.if_icmp .ne off, 3)) (ht : (pc : Int) + off = (tgt : Int)) (kt : ¬ x = y → WW S nL Y Z σ tgt lv st) (kf : x = y → WW S nL Y Z σ (pc + 3) lv st) : WW S nL Y Z σ pc lv (.int y :: .int x :: st) := fun H locs ls h1 h2 h3 => lv_icmp_ne C.1 C.2.1 hdg ht (fun h => kt h H locs ls h1 h2 h3) (fun h => kf h H locs ls h1 h2 h3)
theorem q_icmp_lt (C : cx S nL Y Z cc own Ts ret rm) {x y : Int32} {off : Int} (tgt : Nat) (hdg : decode cc pc = .ok (.if_icmp .lt off, 3)) (ht : (pc : Int) + off = (tgt : Int)) (kt : x < y → WW S nL Y Z σ tgt lv st) (kf : ¬ x < y → WW S nL Y Z σ (pc + 3) lv st) : WW S nL Y Z σ pc lv (.int y :: .int x :: st) := fun H locs ls h1 h2 h3 => lv_icmp_lt C.1 C.2.1 hdg ht (fun h => kt h H locs ls h1 h2 h3) (fun h => kf h H locs ls h1 h2 h3)
theorem q_icmp_ge (C : cx S nL Y Z cc own Ts ret rm) {x y : Int32} {off : Int} (tgt : Nat) (hdg : decode cc pc = .ok (.if_icmp .ge off, 3)) (ht : (pc : Int) + off = (tgt : Int)) (kt : y ≤ x → WW S nL Y Z σ tgt lv st) (kf : ¬ y ≤ x → WW S nL Y Z σ (pc + 3) lv st) : WW S nL Y Z σ pc lv (.int y :: .int x :: st) := fun H locs ls h1 h2 h3 => lv_icmp_ge C.1 C.2.1 hdg ht (fun h => kt h H locs ls h1 h2 h3) (fun h => kf h H locs ls h1 h2 h3)
theorem q_icmp_gt (C : cx S nL Y Z cc own Ts ret rm) {x y : Int32} {off : Int} (tgt : Nat) (hdg : decode cc pc = .ok (.if_icmp .gt off, 3)) (ht : (pc : Int) + off = (tgt : Int)) (kt : y < x → WW S nL Y Z σ tgt lv st) (kf : ¬ y < x → WW S nL Y Z σ (pc + 3) lv st) : WW S nL Y Z σ pc lv (.int y :: .int x :: st) := fun H locs ls h1 h2 h3 => lv_icmp_gt C.1 C.2.1 hdg ht (fun h => kt h H locs ls h1 h2 h3) (fun h => kf h H locs ls h1 h2 h3)
theorem q_icmp_le (C : cx S nL Y Z cc own Ts ret rm) {x y : Int32} {off : Int} (tgt : Nat) (hdg : decode cc pc = .ok (.if_icmp .le off, 3)) (ht : (pc : Int) + off = (tgt : Int)) (kt : x ≤ y → WW S nL Y Z σ tgt lv st) (kf : ¬ x ≤ y → WW S nL Y Z σ (pc + 3) lv st) : WW S nL Y Z σ pc lv (.int y :: .int x :: st) := fun H locs ls h1 h2 h3 => lv_icmp_le C.1 C.2.1 hdg ht (fun h => kt h H locs ls h1 h2 h3) (fun h => kf h H locs ls h1 h2 h3)
theorem q_if_eq (C : cx S nL Y Z cc own Ts ret rm) {x : Int32} {off : Int} (tgt : Nat) (hdg : decode cc pc = .ok (.ifCond .eq off, 3)) (ht : (pc : Int) + off = (tgt : Int)) (kt : x = 0 → WW S nL Y Z σ tgt lv st) (kf : ¬ x = 0 → WW S nL Y Z σ (pc + 3) lv st) : WW S nL Y Z σ pc lv (.int x :: st) := fun H locs ls h1 h2 h3 => lv_if_eq C.1 C.2.1 hdg ht (fun h => kt h H locs ls h1 h2 h3) (fun h => kf h H locs ls h1 h2 h3)
theorem q_if_ne (C : cx S nL Y Z cc own Ts ret rm) {x : Int32} {off : Int} (tgt : Nat) (hdg : decode cc pc = .ok (.ifCond .ne off, 3)) (ht : (pc : Int) + off = (tgt : Int)) (kt : ¬ x = 0 → WW S nL Y Z σ tgt lv st) (kf : x = 0 → WW S nL Y Z σ (pc + 3) lv st) : WW S nL Y Z σ pc lv (.int x :: st) := fun H locs ls h1 h2 h3 => lv_if_ne C.1 C.2.1 hdg ht (fun h => kt h H locs ls h1 h2 h3) (fun h => kf h H locs ls h1 h2 h3)
theorem q_if_lt (C : cx S nL Y Z cc own Ts ret rm) {x : Int32} {off : Int} (tgt : Nat) (hdg : decode cc pc = .ok (.ifCond .lt off, 3)) (ht : (pc : Int) + off = (tgt : Int)) (kt : x < 0 → WW S nL Y Z σ tgt lv st) (kf : ¬ x < 0 → WW S nL Y Z σ (pc + 3) lv st) : WW S nL Y Z σ pc lv (.int x :: st) := fun H locs ls h1 h2 h3 => lv_if_lt C.1 C.2.1 hdg ht (fun h => kt h H locs ls h1 h2 h3) (fun h => kf h H locs ls h1 h2 h3)
theorem q_if_ge (C : cx S nL Y Z cc own Ts ret rm) {x : Int32} {off : Int} (tgt : Nat) (hdg : decode cc pc = .ok (.ifCond .ge off, 3)) (ht : (pc : Int) + off = (tgt : Int)) (kt : 0 ≤ x → WW S nL Y Z σ tgt lv st) (kf : ¬ 0 ≤ x → WW S nL Y Z σ (pc + 3) lv st) : WW S nL Y Z σ pc lv (.int x :: st) := fun H locs ls h1 h2 h3 => lv_if_ge C.1 C.2.1 hdg ht (fun h => kt h H locs ls h1 h2 h3) (fun h => kf h H locs ls h1 h2 h3)
theorem q_if_gt (C : cx S nL Y Z cc own Ts ret rm) {x : Int32} {off : Int} (tgt : Nat) (hdg : decode cc pc = .ok (.ifCond .gt off, 3)) (ht : (pc : Int) + off = (tgt : Int)) (kt : 0 < x → WW S nL Y Z σ tgt lv st) (kf : ¬ 0 < x → WW S nL Y Z σ (pc + 3) lv st) : WW S nL Y Z σ pc lv (.int x :: st) := fun H locs ls h1 h2 h3 => lv_if_gt C.1 C.2.1 hdg ht (fun h => kt h H locs ls h1 h2 h3) (fun h => kf h H locs ls h1 h2 h3)
theorem q_if_le (C : cx S nL Y Z cc own Ts ret rm) {x : Int32} {off : Int} (tgt : Nat) (hdg : decode cc pc = .ok (.ifCond .le off, 3)) (ht : (pc : Int) + off = (tgt : Int)) (kt : x ≤ 0 → WW S nL Y Z σ tgt lv st) (kf : ¬ x ≤ 0 → WW S nL Y Z σ (pc + 3) lv st) : WW S nL Y Z σ pc lv (.int x :: st) := fun H locs ls h1 h2 h3 => lv_if_le C.1 C.2.1 hdg ht (fun h => kt h H locs ls h1 h2 h3) (fun h => kf h H locs ls h1 h2 h3)
theorem q_ifnonnullq (C : cx S nL Y Z cc own Ts ret rm) {r : Option Nat} {off : Int} (tgt : Nat) (hdg : decode cc pc = .ok (.ifnonnull off, 3)) (ht : (pc : Int) + off = (tgt : Int)) (kn : r = none → WW S nL Y Z σ (pc + 3) lv st) (ks : ∀ i, r = some i → WW S nL Y Z σ tgt lv st) : WW S nL Y Z σ pc lv (va_re (qa Y) r :: st) := by
  intro H locs ls h1 h2 h3
  cases r with
  | none => exact lv_ifnonnullN C.1 C.2.1 hdg (kn rfl H locs ls h1 h2 h3)
  | some r => exact lv_ifnonnull C.1 C.2.1 hdg ht (ks r rfl H locs ls h1 h2 h3)
/-! fields and arrays -/
theorem q_geti (C : cx S nL Y Z cc own Ts ret rm) {ref Cn : String} {T : u_T} {N ci index i : Nat} {fl : List (Nat ⊕ Nat)} (hk : S.1 i = .inr (.inl (ci, fl))) (hi : i < S.2) (hin : ∀ w ∈ u_ws Cn T N, w ∈ Ts) (hc : vwCl[ci]? = some (Cn, T, N)) (k : Nat) (hkN : k < N) (hw : Cond.fieldLink own index ref (T k).2.1 (T k).2.2.1 ∈ Ts)
    (hsame : ∀ x, Z.2.1.1.fieldFound? (T k).1 (T k).2.1 (T k).2.2.1 = some x → Z.2.1.1.fieldFound? ref (T k).2.1 (T k).2.2.1 = some x) (hf : fl[k]? = some (.inl k)) (hdg : decode cc pc = .ok (.getfield index, 3)) (kk : WW S nL Y Z σ (pc + 3) lv (.int (σ i k) :: st)) : WW S nL Y Z σ pc lv (.ref (qa Y i) :: st) := by
  intro H locs ls h1 h2 h3
  have he := wd_at (cy := Y.2.2.2) (q := Y.2.2.1) (σ := σ) hi
  rw [hk] at he
  exact va_get C.1 C.2.1 C.2.2.2.1 hin C.2.2.1 C.2.2.2.2.2.2.1 h2 i he hc k hkN (C.2.2.2.1 _ hw) hsame (by rw [List.getElem?_map, hf]; rfl) hdg (kk H locs ls h1 h2 h3)
theorem q_getr (C : cx S nL Y Z cc own Ts ret rm) {ref Cn : String} {T : u_T} {N ci index i j : Nat} {fl : List (Nat ⊕ Nat)} (hk : S.1 i = .inr (.inl (ci, fl))) (hi : i < S.2) (hin : ∀ w ∈ u_ws Cn T N, w ∈ Ts) (hc : vwCl[ci]? = some (Cn, T, N)) (k : Nat) (hkN : k < N) (hw : Cond.fieldLink own index ref (T k).2.1 (T k).2.2.1 ∈ Ts)
    (hsame : ∀ x, Z.2.1.1.fieldFound? (T k).1 (T k).2.1 (T k).2.2.1 = some x → Z.2.1.1.fieldFound? ref (T k).2.1 (T k).2.2.1 = some x) (hf : fl[k]? = some (.inr j)) (hdg : decode cc pc = .ok (.getfield index, 3)) (kk : WW S nL Y Z σ (pc + 3) lv (.ref (qa Y j) :: st)) : WW S nL Y Z σ pc lv (.ref (qa Y i) :: st) := by
  intro H locs ls h1 h2 h3
  have he := wd_at (cy := Y.2.2.2) (q := Y.2.2.1) (σ := σ) hi
  rw [hk] at he
  exact va_get C.1 C.2.1 C.2.2.2.1 hin C.2.2.1 C.2.2.2.2.2.2.1 h2 i he hc k hkN (C.2.2.2.1 _ hw) hsame (by rw [List.getElem?_map, hf]; rfl) hdg (kk H locs ls h1 h2 h3)
theorem q_nmS {σ0 : St} (k : ∀ σ1 : St, σ1 = σ0 → WW S nL Y Z σ1 pc lv st) : WW S nL Y Z σ0 pc lv st := k σ0 rfl
theorem q_topi {x : Int32} (k : ∀ y : Int32, y = x → WW S nL Y Z σ pc lv (.int y :: st)) : WW S nL Y Z σ pc lv (.int x :: st) := k x rfl
theorem q_topl {x : Int64} (k : ∀ y : Int64, y = x → WW S nL Y Z σ pc lv (.long y :: st)) : WW S nL Y Z σ pc lv (.long x :: st) := k x rfl
/-- no two fields of a component share a slot of it: a store into one leaves the others -/
theorem fcel_set {q : Nat → Nat} {f : Nat → Int32} {fl : List (Nat ⊕ Nat)} {k j : Nat} {x : Int32} (hf : fl[k]? = some (.inl j)) (hu : ∀ k2 : Nat, fl[k2]? = some (.inl j) → k2 = k) : (fl.map (fcel q f)).set k (.int x) = fl.map (fcel q (upd f j x)) := by
  apply List.ext_getElem?
  intro k2
  rw [List.getElem?_set, List.getElem?_map, List.getElem?_map, List.length_map]
  by_cases h : k = k2
  · subst h
    have hl : k < fl.length := (List.getElem?_eq_some_iff.mp hf).1
    rw [if_pos rfl, if_pos hl, hf]
    simp [fcel, upd]
  · rw [if_neg h]
    cases hg : fl[k2]? with
    | none => rfl
    | some e =>
      cases e with
      | inr y => rfl
      | inl y =>
        have : y ≠ j := fun e => h (hu k2 (by rw [hg, e])).symm
        simp [fcel, upd, this]
theorem q_puti (C : cx S nL Y Z cc own Ts ret rm) {ref Cn : String} {T : u_T} {N ci index i : Nat} {fl : List (Nat ⊕ Nat)} {x : Int32} (hk : S.1 i = .inr (.inl (ci, fl))) (hi : i < S.2) (hin : ∀ w ∈ u_ws Cn T N, w ∈ Ts) (hc : vwCl[ci]? = some (Cn, T, N)) (ty0 : Nat → FieldType) (hty : ∀ k, k < N → parseFieldDescriptor (T k).2.2.1 = some (ty0 k)) (hnm : ∀ a, a < N → ∀ b, b < N → a ≠ b → (T a).2.1 ≠ (T b).2.1) (k : Nat) (hkN : k < N) (hw : Cond.fieldLink own index ref (T k).2.1 (T k).2.2.1 ∈ Ts)
    (hsame : ∀ x, Z.2.1.1.fieldFound? (T k).1 (T k).2.1 (T k).2.2.1 = some x → Z.2.1.1.fieldFound? ref (T k).2.1 (T k).2.2.1 = some x) (hf : fl[k]? = some (.inl k)) (hu : ∀ k2 j : Nat, fl[k2]? = some (.inl j) → j = k2) (hfin : (T k).2.2.2 = false) (hn : narrow (ty0 k) (.int x) = .int x) (hfit : fits (ty0 k) (.int x) = true) (hdg : decode cc pc = .ok (.putfield index, 3)) (kk : WW S nL Y Z (up σ i k x) (pc + 3) lv st) : WW S nL Y Z σ pc lv (.int x :: .ref (qa Y i) :: st) := by
  intro H locs ls h1 h2 h3
  have he := wd_at (cy := Y.2.2.2) (q := Y.2.2.1) (σ := σ) hi
  have hw2 : ∀ f, cel Y.2.2.2 Y.2.2.1 (S.1 i) f = .inr (ci, fl.map (fcel Y.2.2.1 f)) := fun f => by rw [hk]; rfl
  rw [hk] at he
  refine va_put C.1 C.2.1 C.2.2.2.1 hin ty0 hty hnm C.2.2.1 C.2.2.2.2.2.2.1 h2 (C.2.2.2.2.2.2.2.2.1 σ) h3 i he hc k hkN (C.2.2.2.1 _ hw) hsame hfin (hty k hkN) hn hfit (by rw [List.length_map]; exact (List.getElem?_eq_some_iff.mp hf).1) hdg (fun H1 locs1 g1 _ g3 => kk H1 locs1 ls h1 ?_ g3)
  rw [fcel_set hf (fun k2 h => (hu k2 k h).symm), ← hw2, wd_set] at g1
  exact g1
theorem q_iald (C : cx S nL Y Z cc own Ts ret rm) {a n : Nat} {i : Int32} (hk : S.1 a = .inl (0, n)) (hi : a < S.2) (hin : vp_in i n) (hdg : decode cc pc = .ok (.iaload, 1)) (kk : WW S nL Y Z σ (pc + 1) lv (.int (σ a i.toNatClampNeg) :: st)) : WW S nL Y Z σ pc lv (.int i :: .ref (qa Y a) :: st) := by
  intro H locs ls h1 h2 h3
  have he := wd_at (cy := Y.2.2.2) (q := Y.2.2.1) (σ := σ) hi
  rw [hk] at he
  exact va_iald C.1 C.2.1 C.2.2.2.2.2.2.1 h2 a 0 he rfl hin hdg (kk H locs ls h1 h2 h3)
theorem q_ialdk (C : cx S nL Y Z cc own Ts ret rm) {a n : Nat} {i : Int32} (k : Nat) (hik : i = nI k) (hkn : k < n) (hn : n < 2 ^ 31) (hk : S.1 a = .inl (0, n)) (hi : a < S.2) (hdg : decode cc pc = .ok (.iaload, 1)) (kk : WW S nL Y Z σ (pc + 1) lv (.int (σ a k) :: st)) : WW S nL Y Z σ pc lv (.int i :: .ref (qa Y a) :: st) := by
  subst hik
  refine q_iald C hk hi (vp_in_nI hkn hn) hdg ?_
  rw [nI_clamp (Nat.lt_trans hkn hn)]
  exact kk
theorem q_zald (C : cx S nL Y Z cc own Ts ret rm) {a n : Nat} {i : Int32} (hk : S.1 a = .inl (1, n)) (hi : a < S.2) (hin : vp_in i n) (hdg : decode cc pc = .ok (.baload, 1)) (kk : WW S nL Y Z σ (pc + 1) lv (.int (σ a i.toNatClampNeg) :: st)) : WW S nL Y Z σ pc lv (.int i :: .ref (qa Y a) :: st) := by
  intro H locs ls h1 h2 h3
  have he := wd_at (cy := Y.2.2.2) (q := Y.2.2.1) (σ := σ) hi
  rw [hk] at he
  exact va_zald C.1 C.2.1 C.2.2.2.2.2.2.1 h2 a 1 he rfl hin hdg (kk H locs ls h1 h2 h3)
theorem q_iast (C : cx S nL Y Z cc own Ts ret rm) {a n : Nat} {i x : Int32} (hk : S.1 a = .inl (0, n)) (hi : a < S.2) (hin : vp_in i n) (hdg : decode cc pc = .ok (.iastore, 1)) (kk : WW S nL Y Z (up σ a i.toNatClampNeg x) (pc + 1) lv st) : WW S nL Y Z σ pc lv (.int x :: .int i :: .ref (qa Y a) :: st) := by
  intro H locs ls h1 h2 h3
  have he := wd_at (cy := Y.2.2.2) (q := Y.2.2.1) (σ := σ) hi
  have hw2 : ∀ f, cel Y.2.2.2 Y.2.2.1 (S.1 a) f = .inl (Y.2.2.2 0, n, .inl f) := fun f => by rw [hk]; rfl
  rw [hk] at he
  refine va_iast C.1 C.2.1 C.2.2.2.2.2.2.1 h2 (C.2.2.2.2.2.2.2.2.1 σ) h3 a 0 he rfl hin hdg (fun H1 locs1 g1 _ g3 => kk H1 locs1 ls h1 ?_ g3)
  rw [← hw2, wd_set] at g1
  exact g1
theorem q_iastk (C : cx S nL Y Z cc own Ts ret rm) {a n : Nat} {i x : Int32} (k : Nat) (hik : i = nI k) (hkn : k < n) (hn : n < 2 ^ 31) (hk : S.1 a = .inl (0, n)) (hi : a < S.2) (hdg : decode cc pc = .ok (.iastore, 1)) (kk : WW S nL Y Z (up σ a k x) (pc + 1) lv st) : WW S nL Y Z σ pc lv (.int x :: .int i :: .ref (qa Y a) :: st) := by
  subst hik
  refine q_iast C hk hi (vp_in_nI hkn hn) hdg ?_
  rw [nI_clamp (Nat.lt_trans hkn hn)]
  exact kk
theorem q_zast (C : cx S nL Y Z cc own Ts ret rm) {a n : Nat} {i x : Int32} (hk : S.1 a = .inl (1, n)) (hi : a < S.2) (hin : vp_in i n) (hx : vp_nar .boolean x = x) (hdg : decode cc pc = .ok (.bastore, 1)) (kk : WW S nL Y Z (up σ a i.toNatClampNeg x) (pc + 1) lv st) : WW S nL Y Z σ pc lv (.int x :: .int i :: .ref (qa Y a) :: st) := by
  intro H locs ls h1 h2 h3
  have he := wd_at (cy := Y.2.2.2) (q := Y.2.2.1) (σ := σ) hi
  have hw2 : ∀ f, cel Y.2.2.2 Y.2.2.1 (S.1 a) f = .inl (Y.2.2.2 1, n, .inl f) := fun f => by rw [hk]; rfl
  rw [hk] at he
  refine va_zast C.1 C.2.1 C.2.2.2.2.2.2.1 h2 (C.2.2.2.2.2.2.2.2.1 σ) h3 a 1 he rfl hin hdg (fun H1 locs1 g1 _ g3 => kk H1 locs1 ls h1 ?_ g3)
  rw [hx, ← hw2, wd_set] at g1
  exact g1
theorem q_alen (C : cx S nL Y Z cc own Ts ret rm) {a n : Nat} (hk : S.1 a = .inl (0, n)) (hi : a < S.2) (hdg : decode cc pc = .ok (.arraylength, 1)) (kk : WW S nL Y Z σ (pc + 1) lv (.int (nI n) :: st)) : WW S nL Y Z σ pc lv (.ref (qa Y a) :: st) := by
  intro H locs ls h1 h2 h3
  have he := wd_at (cy := Y.2.2.2) (q := Y.2.2.1) (σ := σ) hi
  rw [hk] at he
  exact va_alen C.1 C.2.1 C.2.2.2.2.2.2.1 h2 a 0 he rfl rfl hdg (kk H locs ls h1 h2 h3)
theorem q_alenq (C : cx S nL Y Z cc own Ts ret rm) {a n b : Nat} (hk : S.1 a = .inr (.inr (n, b))) (hi : a < S.2) (hdg : decode cc pc = .ok (.arraylength, 1)) (kk : WW S nL Y Z σ (pc + 1) lv (.int (nI n) :: st)) : WW S nL Y Z σ pc lv (.ref (qa Y a) :: st) := by
  intro H locs ls h1 h2 h3
  have he := wd_at (cy := Y.2.2.2) (q := Y.2.2.1) (σ := σ) hi
  rw [hk] at he
  exact va_alen C.1 C.2.1 C.2.2.2.2.2.2.1 h2 a 2 he rfl rfl hdg (kk H locs ls h1 h2 h3)
theorem q_aald (C : cx S nL Y Z cc own Ts ret rm) {a n b : Nat} {i : Int32} (hk : S.1 a = .inr (.inr (n, b))) (hi : a < S.2) (hin : vp_in i n) (hdg : decode cc pc = .ok (.aaload, 1)) (kk : WW S nL Y Z σ (pc + 1) lv (va_re (qa Y) (some (b + i.toNatClampNeg)) :: st)) : WW S nL Y Z σ pc lv (.int i :: .ref (qa Y a) :: st) := by
  intro H locs ls h1 h2 h3
  have he := wd_at (cy := Y.2.2.2) (q := Y.2.2.1) (σ := σ) hi
  rw [hk] at he
  have hlt : i.toNatClampNeg < n := Nat.not_le.mp fun q => hin (Or.inr q)
  refine va_aldq C.1 C.2.1 C.2.2.2.2.2.2.1 h2 a 2 he rfl hin hdg ?_
  rw [if_pos hlt]
  exact kk H locs ls h1 h2 h3
theorem q_aconst_null (C : cx S nL Y Z cc own Ts ret rm) (hdg : decode cc pc = .ok (.aconst_null, 1)) (kk : WW S nL Y Z σ (pc + 1) lv (va_re (qa Y) none :: st)) : WW S nL Y Z σ pc lv st := fun H locs ls h1 h2 h3 => lv_null C.1 C.2.1 hdg (kk H locs ls h1 h2 h3)
theorem q_mmax (C : cx S nL Y Z cc own Ts ret rm) {index : Nat} {x y : Int32} (h4 : Cond.methodLink own index Lib.Math.max.name ∈ Ts) (h5 : Cond.static Lib.Math.max.name ∈ Ts) (h6 : Cond.initialized "java/lang/Math" ∈ Ts) (h7 : Cond.code Lib.Math.max.name Lib.Math.max.code 2 (some .int) ∈ Ts) (hf : 1 ≤ rm.frames) (hL : (st.map fun v => v.category).sum + 13 ≤ rm.locals) (hdg : decode cc pc = .ok (.invokestatic index, 3)) (kk : WW S nL Y Z σ (pc + 3) lv (.int (if x < y then y else x) :: st)) : WW S nL Y Z σ pc lv (.int y :: .int x :: st) := by
  intro H locs ls h1 h2 h3
  obtain ⟨hx, hb, hown, hts, hml, -, -, -, -, -, hR, -⟩ := C
  exact va_mmax hx hb (hml.trans h1.1.symm) hown (hts _ h4) (hts _ h5) (hts _ h6) (hts _ h7) (by rw [hR]; exact hf) (by rw [hR]; exact hL) (Nat.zero_le _) (Nat.zero_le _) hdg (kk H locs ls h1 h2 h3)
theorem q_mmin (C : cx S nL Y Z cc own Ts ret rm) {index : Nat} {x y : Int32} (h4 : Cond.methodLink own index Lib.Math.min.name ∈ Ts) (h5 : Cond.static Lib.Math.min.name ∈ Ts) (h6 : Cond.initialized "java/lang/Math" ∈ Ts) (h7 : Cond.code Lib.Math.min.name Lib.Math.min.code 2 (some .int) ∈ Ts) (hf : 1 ≤ rm.frames) (hL : (st.map fun v => v.category).sum + 13 ≤ rm.locals) (hdg : decode cc pc = .ok (.invokestatic index, 3)) (kk : WW S nL Y Z σ (pc + 3) lv (.int (if y < x then y else x) :: st)) : WW S nL Y Z σ pc lv (.int y :: .int x :: st) := by
  intro H locs ls h1 h2 h3
  obtain ⟨hx, hb, hown, hts, hml, -, -, -, -, -, hR, -⟩ := C
  exact va_mmin hx hb (hml.trans h1.1.symm) hown (hts _ h4) (hts _ h5) (hts _ h6) (hts _ h7) (by rw [hR]; exact hf) (by rw [hR]; exact hL) (Nat.zero_le _) (Nat.zero_le _) hdg (kk H locs ls h1 h2 h3)
theorem q_mabs (C : cx S nL Y Z cc own Ts ret rm) {index : Nat} {x : Int32} (h4 : Cond.methodLink own index Lib.Math.abs.name ∈ Ts) (h5 : Cond.static Lib.Math.abs.name ∈ Ts) (h6 : Cond.initialized "java/lang/Math" ∈ Ts) (h7 : Cond.code Lib.Math.abs.name Lib.Math.abs.code 1 (some .int) ∈ Ts) (hf : 1 ≤ rm.frames) (hL : (st.map fun v => v.category).sum + 13 ≤ rm.locals) (hdg : decode cc pc = .ok (.invokestatic index, 3)) (kk : WW S nL Y Z σ (pc + 3) lv (.int (if 0 ≤ x then x else 0 - x) :: st)) : WW S nL Y Z σ pc lv (.int x :: st) := by
  intro H locs ls h1 h2 h3
  obtain ⟨hx, hb, hown, hts, hml, -, -, -, -, -, hR, -⟩ := C
  exact va_mabs hx hb (hml.trans h1.1.symm) hown (hts _ h4) (hts _ h5) (hts _ h6) (hts _ h7) (by rw [hR]; exact hf) (by rw [hR]; exact hL) (Nat.zero_le _) (Nat.zero_le _) hdg (kk H locs ls h1 h2 h3)
theorem q_lookup (C : cx S nL Y Z cc own Ts ret rm) {dflt : Int} {ps : Array (Int × Int)} {len : Nat} {x : Int32} {off : Int} (tgt : Nat) (hdg : decode cc pc = .ok (.lookupswitch dflt ps, len)) (hp : (ps.toList.zip (ps.toList.drop 1)).all (fun (a, next) => a.1 < next.1) = true) (ho : Op.lookupswitch.offset ps.toList dflt x.toInt = off) (ht : (pc : Int) + off = (tgt : Int)) (kk : WW S nL Y Z σ tgt lv st) : WW S nL Y Z σ pc lv (.int x :: st) := fun H locs ls h1 h2 h3 => lv_lookup C.1 C.2.1 hdg hp ho ht (kk H locs ls h1 h2 h3)
theorem q_tableIn (C : cx S nL Y Z cc own Ts ret rm) {dflt lo hi : Int} {offs : Array Int} {len : Nat} {x : Int32} {off : Int} (tgt : Nat) (hdg : decode cc pc = .ok (.tableswitch dflt lo hi offs, len)) (hx1 : ¬ x.toInt < lo) (hx2 : ¬ hi < x.toInt) (ho : offs[(x.toInt - lo).toNat]? = some off) (ht : (pc : Int) + off = (tgt : Int)) (kk : WW S nL Y Z σ tgt lv st) : WW S nL Y Z σ pc lv (.int x :: st) := fun H locs ls h1 h2 h3 => lv_tableIn C.1 C.2.1 hdg hx1 hx2 ho ht (kk H locs ls h1 h2 h3)
theorem q_tableOut (C : cx S nL Y Z cc own Ts ret rm) {dflt lo hi : Int} {offs : Array Int} {len : Nat} {x : Int32} (tgt : Nat) (hdg : decode cc pc = .ok (.tableswitch dflt lo hi offs, len)) (hx : x.toInt < lo ∨ hi < x.toInt) (ht : (pc : Int) + dflt = (tgt : Int)) (kk : WW S nL Y Z σ tgt lv st) : WW S nL Y Z σ pc lv (.int x :: st) := fun H locs ls h1 h2 h3 => lv_tableOut C.1 C.2.1 hdg hx ht (kk H locs ls h1 h2 h3)
end ROWS
