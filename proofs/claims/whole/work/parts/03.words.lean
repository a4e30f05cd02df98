/-! the words that my machine's rules ask of the tables -/
def xT : List Cond := lw_tbl.filter goodWord
def xnw : Cond → Bool
  | .methodLinkNest _ _ _ _ => true
  | .fieldLinkNest _ _ _ _ _ _ => true
  | _ => false
def xNN : List Cond := lw_tbl.filter xnw
def xnx : Cond → Bool
  | .castable _ _ => true
  | .declares _ => true
  | _ => false
def xNX : List Cond := lw_tbl.filter xnx
/-- an exception that is none of another's kind -/
def xNo : List (String × String) := [("java/lang/IllegalStateException", "java/lang/IllegalArgumentException"), ("java/lang/IndexOutOfBoundsException", "java/lang/IllegalStateException")]
/-- the messages, by their entries in the class's pool -/
def xTx : List (Nat × String) := [(36, "this is no token"), (47, "60 tokens are pending"), (88, "there is no statement"), (104, "there is no row"), (108, "the row has no such column"), (115, "tables are 0 to 9"), (128, "the table is not there"), (134, "there is no such key")]
theorem xT_good : ∀ w ∈ xT, goodWord w = true := fun _ h => (List.mem_filter.mp h).2
/-- a class of the worlds: its number, name, fields, how many, their types -/
def xCls (ci : Nat) (C : String) (T : u_T) (N : Nat) (ty : Nat → FieldType) : Prop := vwCl[ci]? = some (C, T, N) ∧ (∀ w ∈ u_ws C T N, w ∈ xT) ∧ (∀ k, k < N → parseFieldDescriptor (T k).2.2.1 = some (ty k)) ∧ ∀ a, a < N → ∀ b, b < N → a ≠ b → (T a).2.1 ≠ (T b).2.1
/-- a field's reference in the pool of 'own': its own, or a nest mate's -/
def xFl (own : String) (idx : Nat) (C : String) (T : u_T) (N k : Nat) : Prop := k < N ∧ (T k).1 = C ∧ (Cond.fieldLink own idx C (T k).2.1 (T k).2.2.1 ∈ xT ∨ ∃ host : String, Cond.fieldLinkNest own idx C (T k).2.1 (T k).2.2.1 host ∈ xNN)
/-- what a call's instruction needs of the tables: kind 0 virtual, 1 special (a constructor), 2 static; of its own class, or a private one of a nest mate -/
def xLk (own : String) (idx : Nat) (y : MethodName) : Prop := Cond.methodLink own idx y ∈ xT ∨ ∃ host : String, Cond.methodLinkNest own idx y host ∈ xNN
def xY (kind : Nat) (y : MethodName) (cc : ByteArray) (nL : Nat) (ret : Option FieldType) (n : Nat) : Prop :=
  Cond.code y cc nL ret ∈ xT ∧ Cond.initialized y.cls ∈ xT ∧ (y.cls ≠ "java/lang/invoke/MethodHandle" ∧ y.cls ≠ "java/lang/invoke/VarHandle") ∧ (parseMethodDescriptor y.desc).map (fun d => d.parameters.length) = some n ∧
  (kind = 0 → Cond.instanceMethod y ∈ xT ∧ Cond.selects y.cls y y ∈ xT) ∧ (kind = 1 → Cond.instanceMethod y ∈ xT ∧ y.name = "<init>" ∧ ret = none) ∧ (kind = 2 → Cond.static y ∈ xT)
