/-! PART judge: abstract heaps, values, the world at a state, the judgement of a method's body, contracts -/
abbrev cm_Sh : Type := Nat ⊕ (Nat × Nat)
abbrev cm_H : Type := List cm_Sh × (Nat → Nat → Int32) × (Nat → Nat → Int64) × (Nat → Nat → Option Nat)
abbrev cm_D : Type := (Nat × Nat × Nat × Nat) × (Nat → Int32) × (Nat → ClassId) × (Nat → Nat → Nat) × (Nat → ClassId)
abbrev cm_M : Type := MethodName × ByteArray × Nat × Option FieldType
def cm_b (D : cm_D) : Nat := D.1.1
def cm_L (D : cm_D) : Nat := D.1.2.1
def cm_lt (D : cm_D) : Nat := D.1.2.2.1
def cm_b0 (D : cm_D) : Nat := D.1.2.2.2
def cm_xs (D : cm_D) : Nat → Int32 := D.2.1
abbrev cm_G (D : cm_D) : va_G := (D.2.2.1, D.2.2.2.1)
def cm_cA (D : cm_D) : Nat → ClassId := D.2.2.2.2
def cm_A (D : cm_D) : Nat → Prop := fun q => cm_b0 D ≤ q
def cm_letters : Nat → Int32 := fun j => match j with
  | 0 => 98
  | 1 => 114
  | 2 => 100
  | 3 => 99
  | 4 => 116
  | _ => 112
/-- the machine's address of an abstract one: 0 the script, 1 the letters, then the cells in the order of their making -/
def cm_ad (D : cm_D) : Nat → Nat
  | 0 => cm_b D
  | 1 => cm_lt D
  | k + 2 => cm_b0 D + k
def cm_v (D : cm_D) : Value → Value
  | .ref k => .ref (cm_ad D k)
  | .int x => .int x
  | .long x => .long x
  | .float x => .float x
  | .double x => .double x
  | .null => .null
  | .retAddr x => .retAddr x
def cm_rf (r : Option Nat) : Value := match r with
  | none => .null
  | some a => .ref a
theorem cm_rf_v (D : cm_D) (r : Option Nat) : cm_v D (cm_rf r) = va_rf (r.map (cm_ad D)) := by cases r <;> rfl
theorem cm_v_cat (D : cm_D) (v : Value) : (cm_v D v).category = v.category := by cases v <;> rfl
/-- an array's kind: the type of its places -/
def cm_et : Nat → FieldType
  | 0 => .int
  | 1 => .long
  | 2 => .object RX4
  | _ => .object RX2
def cm_fv (h : cm_H) (k j t : Nat) : Value := match t with
  | 0 => .int (h.2.1 k j)
  | 1 => .long (h.2.2.1 k j)
  | _ => cm_rf (h.2.2.2 k j)
/-- the kinds of a class's fields: 0 int, 1 long, 2 a reference -/
def cm_ft : Nat → List Nat
  | 0 => [2, 2, 2, 0]
  | 1 => [2, 0]
  | 2 => [0, 0, 0, 0, 2, 2, 2, 2, 2, 2, 2, 2, 2, 2]
  | 3 => [2, 2, 0, 0]
  | 4 => [2, 0]
  | 5 => [2, 2, 0, 0]
  | 6 => [2, 2, 2, 2, 2, 2, 2, 2, 2, 0, 0]
  | 7 => [0, 2, 0, 2, 2, 2, 2, 2, 0, 0, 0, 2, 2, 2, 2, 2, 2, 2, 2, 0, 0, 0, 0, 0, 0, 0, 0, 0, 2, 2, 2, 0, 0, 0, 2, 0, 0, 2, 2, 2, 0, 0, 2, 1]
  | _ => []
def cm_fs (D : cm_D) (h : cm_H) (ci k : Nat) : List Value := (cm_ft ci).mapIdx (fun j t => cm_v D (cm_fv h k j t))
def cm_arr (D : cm_D) (h : cm_H) (k t n : Nat) : vp_A := match t with
  | 0 => (n, .inl (h.2.1 k))
  | 1 => (n, .inr (.inl (h.2.2.1 k)))
  | _ => (n, .inr (.inr (.inr (.inr (fun j => (h.2.2.2 k j).map (cm_ad D))))))
def cm_cell (D : cm_D) (h : cm_H) (k : Nat) : cm_Sh → va_E
  | .inl ci => .inr (ci, cm_fs D h ci k)
  | .inr (t, n) => .inl (cm_cA D t, cm_arr D h k t n)
/-- the heap holds the abstract one -/
def cm_P (D : cm_D) (h : cm_H) (H : Heap) : Prop := (2 ≤ h.1.length ∧ H.size + 2 = cm_b0 D + h.1.length) ∧ ∀ (k : Nat) (q : cm_Sh), h.1[k + 2]? = some q → va_at (cm_G D) vwCl (cm_b0 D + k, cm_cell D h (k + 2) q) H
def cm_isNest : Cond → Bool
  | .methodLinkNest .. => true
  | .fieldLinkNest .. => true
  | _ => false
def cm_nest : List Cond := lw_tbl.filter cm_isNest
def cm_good : List Cond := lw_tbl.filter goodWord
/-- what the tables say, and stays -/
def cm_K0 (D : cm_D) (U : State) : Prop := (∀ (c : Nat) (q : vw_C), vwCl[c]? = some q → u_Kn U q.1 q.2.1 q.2.2 ((cm_G D).1 c) ((cm_G D).2 c)) ∧ (∀ t : Nat, cm_cA D t = (U.vm.findClass ("[" ++ (cm_et t).toString)).getD 0) ∧ (∀ w ∈ cm_nest, va_Nw w U) ∧ va_AO RX4 U ∧ va_AO RX2 U
/-- what is known of the classes of the arrays that are there -/
def cm_K1 (D : cm_D) (h : cm_H) (U : State) : Prop := ∀ (k t n : Nat), h.1[k + 2]? = some (.inr (t, n)) → ArrOfT U (cm_cA D t) (cm_et t) ∧ va_RA U (cm_cA D t) (cm_et t)
/-- what stood before the law began: the script, the letters -/
def cm_X (D : cm_D) (U : State) : Prop := cm_b0 D ≤ U.heap.size ∧ (va_X (cm_b D) (cm_L D) (cm_xs D) U U.heap ∧ cm_b D < cm_b0 D) ∧ va_T .int (cm_lt D) 6 (fun j => .int (cm_letters j)) (cm_A D) U U.heap ∧ va_Z RX3 "LETTERS" "[I" (.ref (cm_lt D)) (cm_A D) U U.heap
def cm_W (D : cm_D) (h : cm_H) (U : State) : Prop := cm_P D h U.heap ∧ cm_K1 D h U ∧ cm_K0 D U ∧ cm_X D U
/-- a method's end -/
def cm_Q (D : cm_D) (Q : Option Value → cm_H → Prop) : Array Value → State → Outcome → State → Prop := fun _ st oc t => (∃ (r : Option Value) (h : cm_H), oc = .returned (r.map (cm_v D)) ∧ Q r h ∧ cm_P D h t.heap ∧ cm_K1 D h t) ∧ va_F (cm_A D) st t
def cm_lv (D : cm_D) (lsA : Array Slot) (nL : Nat) (ls : List (Option Value)) : Prop := lsA.size = nL ∧ lv_wf lsA ∧ ∀ (i : Nat) (v : Value), ls[i]? = some (some v) → lsA[i]? = some (.val (cm_v D v))
/-- a method's own frame, and its room -/
def cm_E (D : cm_D) (M : cm_M) (d rc rs : Nat) (p : Program) (R : Room) (s : State) (m : MethodId) (args : Array Value) (meth : Method) (c : Code) : Prop :=
  p.tables.exec = Jvm.exec ∧ c.code = M.2.1 ∧ meth.sig.returnType = M.2.2.2 ∧ c.maxLocals = M.2.2.1 ∧ s.vm.findClass M.1.cls = some m.cls ∧ (∀ w ∈ cm_good, w.before args s = true) ∧ meth.locks = false ∧ (M.1.name = "<init>" → meth.name = "<init>") ∧ (d ≤ R.frames ∧ 64 * d ≤ R.locals ∧ rc ≤ R.cells ∧ rs ≤ R.slots) ∧ cm_K0 D s ∧ cm_X D s
/-- THE JUDGEMENT: from pc, with these locals, this stack and this abstract heap, the method comes to an end with Q -/
def cm_g (D : cm_D) (M : cm_M) (d rc rs : Nat) (Q : Option Value → cm_H → Prop) (cells slots pc : Nat) (ls : List (Option Value)) (st : List Value) (h : cm_H) : Prop :=
  ∀ (p : Program) (l : Launch) (e : Env) (R : Room) (s : State) (m : MethodId) (args : Array Value) (below : List Frame) (meth : Method) (c : Code) (H : Heap) (locs : List Loc) (lsA : Array Slot), cm_E D M d rc rs p R s m args meth c → cm_P D h H → cm_K1 D h s → va_S (cm_A D) s.heap H locs → cm_lv D lsA M.2.2.1 ls →
    W p l e R s m args below meth c H locs cells slots (MQ below (cm_Q D Q) args s rc rs (cm_A D)) (F0 m pc lsA (st.map (cm_v D)))
abbrev cm_rm (d mc ms : Nat) : Room := { frames := d, cells := mc, slots := ms, locals := 64 * d }
/-- A CONTRACT: called with these arguments at this abstract heap, within d frames, making mc cells of ms slots -/
def cm_ct (D : cm_D) (M : cm_M) (d mc ms : Nat) (as : List Value) (h : cm_H) (Q : Option Value → cm_H → Prop) : Prop :=
  ∀ l : Launch, Met l M.1 (Cond.code M.1 M.2.1 M.2.2.1 M.2.2.2 :: cm_good) (cm_rm d mc ms) (va_Pc (as.map (cm_v D)) (cm_W D h)) (cm_Q D Q) mc ms (cm_A D)
