/-! ===== THE SMALL MACHINE: values, cells, heaps with small addresses; a method's walk is a predicate J closed under rules ===== -/
abbrev GC : Type := (Nat × List Value) ⊕ ((Nat × (Nat → Int32)) ⊕ ((Nat × (Nat → Int64)) ⊕ (Nat × Nat × (Nat → Option Nat))))
abbrev GH : Type := Nat → Option GC
abbrev GE : Type := Nat × Nat × Nat × Bool
abbrev GL : Type := List (Option Value)
abbrev JT : Type := Nat → GL → List Value → GH → GE → Prop
abbrev RT : Type := Option Value → GH → GE → Prop
abbrev CT : Type := MethodName → List Value → GH → GE → RT → Prop
abbrev gob (t : Nat) (fs : List Value) : GC := .inl (t, fs)
abbrev gia (n : Nat) (f : Nat → Int32) : GC := .inr (.inl (n, f))
abbrev gla (n : Nat) (f : Nat → Int64) : GC := .inr (.inr (.inl (n, f)))
abbrev gra (t n : Nat) (f : Nat → Option Nat) : GC := .inr (.inr (.inr (t, n, f)))
def gup (h : GH) (a : Nat) (c : GC) : GH := fun b => if b = a then some c else h b
def galen : GC → Option Nat
  | .inl _ => none
  | .inr (.inl x) => some x.1
  | .inr (.inr (.inl x)) => some x.1
  | .inr (.inr (.inr x)) => some x.2.1
theorem gup_same (h : GH) (a : Nat) (c : GC) : gup h a c a = some c := by simp [gup]
theorem gup_ne (h : GH) {a b : Nat} (c : GC) (hb : b ≠ a) : gup h a c b = h b := by simp [gup, hb]
def gldI (ls : GL) (i : Nat) : Option Value := match ls[i]? with
  | some (some (.int x)) => some (.int x)
  | _ => none
def gldL (ls : GL) (i : Nat) : Option Value := match ls[i]? with
  | some (some (.long x)) => some (.long x)
  | _ => none
def gldA (ls : GL) (i : Nat) : Option Value := match ls[i]? with
  | some (some (.ref x)) => some (.ref x)
  | _ => none
/-- a place of the locals that a value of one word may go to: the one before it holds none of two words -/
def gokS (ls : GL) (i : Nat) : Bool := match i with
  | 0 => true
  | j + 1 => match ls[j]? with
    | some (some (.long _)) => false
    | some (some (.double _)) => false
    | _ => true
def gst1 (ls : GL) (i : Nat) (v : Value) (st : List Value) : Option (GL × List Value) := match decide (i < ls.length) && gokS ls i with
  | true => some (ls.set i (some v), st)
  | false => none
def gst2 (ls : GL) (i : Nat) (v : Value) (st : List Value) : Option (GL × List Value) := match decide (i + 1 < ls.length) && gokS ls i with
  | true => some ((ls.set (i + 1) none).set i (some v), st)
  | false => none
def gpush (o : Option Value) (ls : GL) (st : List Value) : Option (GL × List Value) := match o with
  | some v => some (ls, v :: st)
  | none => none
/-- the steps that touch neither heap nor control -/
def gps (i : Instr) (ls : GL) (st : List Value) : Option (GL × List Value) := match i with
  | .iload n => gpush (gldI ls n) ls st
  | .iload_n n => gpush (gldI ls n.val) ls st
  | .lload n => gpush (gldL ls n) ls st
  | .lload_n n => gpush (gldL ls n.val) ls st
  | .aload n => gpush (gldA ls n) ls st
  | .aload_n n => gpush (gldA ls n.val) ls st
  | .istore n => match st with
    | .int x :: r => gst1 ls n (.int x) r
    | _ => none
  | .istore_n n => match st with
    | .int x :: r => gst1 ls n.val (.int x) r
    | _ => none
  | .astore n => match st with
    | .ref x :: r => gst1 ls n (.ref x) r
    | _ => none
  | .astore_n n => match st with
    | .ref x :: r => gst1 ls n.val (.ref x) r
    | _ => none
  | .lstore n => match st with
    | .long x :: r => gst2 ls n (.long x) r
    | _ => none
  | .lstore_n n => match st with
    | .long x :: r => gst2 ls n.val (.long x) r
    | _ => none
  | .iadd => match st with
    | .int y :: .int x :: r => some (ls, .int (x + y) :: r)
    | _ => none
  | .isub => match st with
    | .int y :: .int x :: r => some (ls, .int (x - y) :: r)
    | _ => none
  | .imul => match st with
    | .int y :: .int x :: r => some (ls, .int (x * y) :: r)
    | _ => none
  | .iand => match st with
    | .int y :: .int x :: r => some (ls, .int (x &&& y) :: r)
    | _ => none
  | .ladd => match st with
    | .long y :: .long x :: r => some (ls, .long (x + y) :: r)
    | _ => none
  | .lmul => match st with
    | .long y :: .long x :: r => some (ls, .long (x * y) :: r)
    | _ => none
  | .land => match st with
    | .long y :: .long x :: r => some (ls, .long (x &&& y) :: r)
    | _ => none
  | .lor => match st with
    | .long y :: .long x :: r => some (ls, .long (x ||| y) :: r)
    | _ => none
  | .lshl => match st with
    | .int y :: .long x :: r => some (ls, .long (x <<< (y.toInt64 &&& 63)) :: r)
    | _ => none
  | .lcmp => match st with
    | .long y :: .long x :: r => some (ls, .int (lg_cmp x y) :: r)
    | _ => none
  | .i2l => match st with
    | .int x :: r => some (ls, .long x.toInt64 :: r)
    | _ => none
  | .l2i => match st with
    | .long x :: r => some (ls, .int x.toInt32 :: r)
    | _ => none
  | .i2b => match st with
    | .int x :: r => some (ls, .int x.toInt8.toInt32 :: r)
    | _ => none
  | .i2c => match st with
    | .int x :: r => some (ls, .int (x.toUInt32 % 65536).toInt32 :: r)
    | _ => none
  | .dup => match st with
    | .int x :: r => some (ls, .int x :: .int x :: r)
    | .ref x :: r => some (ls, .ref x :: .ref x :: r)
    | _ => none
  | .pop => match st with
    | .int _ :: r => some (ls, r)
    | .ref _ :: r => some (ls, r)
    | _ => none
  | .dup2 => match st with
    | .int x :: .ref y :: r => some (ls, .int x :: .ref y :: .int x :: .ref y :: r)
    | _ => none
  | .ishr => match st with
    | .int y :: .int x :: r => some (ls, .int (x >>> (y &&& 31)) :: r)
    | _ => none
  | _ => none
def gics : Instr → Option Int32
  | .iconst n => some (Int32.ofInt n)
  | .bipush n => some (Int8.ofInt n).toInt32
  | .sipush n => some (Int16.ofInt n).toInt32
  | _ => none
def gcz (c : Jvm.ClassFile.Cond) (x y : Int32) : Prop := match c with
  | .eq => x = y
  | .ne => ¬ x = y
  | .lt => x < y
  | .ge => y ≤ x
  | .gt => y < x
  | .le => x ≤ y
def gcf (c : Jvm.ClassFile.Cond) (x y : Int32) : Prop := match c with
  | .eq => ¬ x = y
  | .ne => x = y
  | .lt => ¬ x < y
  | .ge => ¬ y ≤ x
  | .gt => ¬ y < x
  | .le => ¬ x ≤ y
/-- the field that an entry of a class file names: field k of class t -/
def gFL (own : String) (idx t k : Nat) : Prop := ∃ (C : String) (T : u_T) (N : Nat), vwCl[t]? = some (C, T, N) ∧ k < N ∧ Cond.fieldLink own idx (T k).1 (T k).2.1 (T k).2.2.1 ∈ lw_tbl
/-- what may be stored in field k of class t; whether it is final, and of the class own -/
def gFS (own : String) (t k : Nat) (fin : Bool) (v : Value) : Prop := ∃ (C : String) (T : u_T) (N : Nat) (ty : FieldType), vwCl[t]? = some (C, T, N) ∧ (T k).2.2.2 = fin ∧ (T k).1 = own ∧ parseFieldDescriptor (T k).2.2.1 = some ty ∧ narrow ty v = v ∧ fits ty v = true
def gFSn (t k : Nat) (v : Value) : Prop := ∃ (C : String) (T : u_T) (N : Nat) (ty : FieldType), vwCl[t]? = some (C, T, N) ∧ (T k).2.2.2 = false ∧ parseFieldDescriptor (T k).2.2.1 = some ty ∧ narrow ty v = v ∧ fits ty v = true
/-- the String constants: class, entry, text, number -/
def gstrs : List (String × Nat × String × Nat) := [("PatternLanguages", 161, "reverse", 0), ("PatternLanguages", 170, "swap", 1), ("PatternLanguages", 175, "drop", 2), ("PatternLanguages", 180, "collapse", 3), ("PatternLanguages", 182, "forget", 4), ("PatternLanguagesModel", 171, "reverse", 0), ("PatternLanguagesModel", 177, "swap", 1), ("PatternLanguagesModel", 179, "drop", 2), ("PatternLanguagesModel", 181, "collapse", 3), ("PatternLanguagesModel", 183, "forget", 4)]
def gbyt : List (List Int32) := [[114, 101, 118, 101, 114, 115, 101], [115, 119, 97, 112], [100, 114, 111, 112], [99, 111, 108, 108, 97, 112, 115, 101], [102, 111, 114, 103, 101, 116]]
def glen : List Nat := [7, 4, 4, 8, 6]
def gnestW : List Cond := [.methodLinkNest "PatternLanguages" 42 ⟨"PatternLanguages$Matcher", "<init>", "()V"⟩ "PatternLanguages", .methodLinkNest "PatternLanguages" 49 ⟨"PatternLanguages$Search", "<init>", "()V"⟩ "PatternLanguages", .methodLinkNest "PatternLanguages$Search" 11 ⟨"PatternLanguages$Matcher", "<init>", "()V"⟩ "PatternLanguages", .methodLinkNest "PatternLanguages" 60 ⟨"PatternLanguages$Slot", "<init>", "()V"⟩ "PatternLanguages", .methodLinkNest "PatternLanguages$Matcher" 52 ⟨"PatternLanguages", "isVariable", "(I)Z"⟩ "PatternLanguages"]
def gNH (y : MethodName) (n : Nat) : Prop := y.cls ≠ "java/lang/invoke/MethodHandle" ∧ y.cls ≠ "java/lang/invoke/VarHandle" ∧ (parseMethodDescriptor y.desc).map (fun d => d.parameters.length) = some n
/-- calls: what the tables say of an entry -/
def gMV (own : String) (idx : Nat) (y : MethodName) (n : Nat) : Prop := Cond.methodLink own idx y ∈ lw_tbl ∧ Cond.instanceMethod y ∈ lw_tbl ∧ Cond.selects y.cls y y ∈ lw_tbl ∧ Cond.initialized y.cls ∈ lw_tbl ∧ gNH y n
def gMS (own : String) (idx : Nat) (y : MethodName) (n : Nat) : Prop := Cond.methodLink own idx y ∈ lw_tbl ∧ Cond.static y ∈ lw_tbl ∧ Cond.initialized y.cls ∈ lw_tbl ∧ gNH y n
def gMSN (own : String) (idx : Nat) (y : MethodName) (n : Nat) : Prop := Cond.methodLinkNest own idx y "PatternLanguages" ∈ gnestW ∧ Cond.static y ∈ lw_tbl ∧ Cond.initialized y.cls ∈ lw_tbl ∧ gNH y n
def gMI (own : String) (idx : Nat) (y : MethodName) (n : Nat) : Prop := Cond.methodLink own idx y ∈ lw_tbl ∧ Cond.instanceMethod y ∈ lw_tbl ∧ Cond.initialized y.cls ∈ lw_tbl ∧ y.name = "<init>" ∧ (parseMethodDescriptor y.desc).map (fun d => d.returnType) = some none ∧ gNH y n
def gMIN (own : String) (idx : Nat) (y : MethodName) (n : Nat) : Prop := Cond.methodLinkNest own idx y "PatternLanguages" ∈ gnestW ∧ Cond.instanceMethod y ∈ lw_tbl ∧ Cond.initialized y.cls ∈ lw_tbl ∧ y.name = "<init>" ∧ (parseMethodDescriptor y.desc).map (fun d => d.returnType) = some none ∧ gNH y n
def gcat (st : List Value) : Nat := (st.map fun v => v.category).sum
/-- behind a call: the answer on the stack, what was allotted to the callee is spent -/
def gaft (J : JT) (nx : Nat) (ls : GL) (st : List Value) (e : GE) (mc ms : Nat) : RT := fun r h' e' => J nx ls (r.toList ++ st) h' (e'.1, e.2.1 - mc, e.2.2.1 - ms, e'.2.2.2)
def gsz : Instr → Nat
  | .iload _ => 2
  | .lload _ => 2
  | .aload _ => 2
  | .istore _ => 2
  | .lstore _ => 2
  | .astore _ => 2
  | .bipush _ => 2
  | .sipush _ => 3
  | _ => 1
/-- the place of a name in the order of making: the cells 126 to 129 are made fifth behind 80 -/
def gphi (a : Nat) : Nat := if a < 81 then a else if a < 126 then a + 4 else if a < 130 then a - 45 else a
/-- the rules -/
def gRule (own : String) (cc : ByteArray) (ret : Option FieldType) (ini : Bool) (call : CT) (J : JT) (P : RT) : Nat → Prop
  | 0 => ∀ (pc : Nat) (i : Instr) (nx : Nat) (ls : GL) (st : List Value) (ls' : GL) (st' : List Value) (h : GH) (e : GE), decode cc pc = .ok (i, gsz i) → pc + gsz i = nx → gps i ls st = some (ls', st') → J nx ls' st' h e → J pc ls st h e
  | 1 => ∀ (pc : Nat) (i : Instr) (nx : Nat) (v : Int32) (ls : GL) (st : List Value) (h : GH) (e : GE), decode cc pc = .ok (i, gsz i) → pc + gsz i = nx → gics i = some v → J nx ls (.int v :: st) h e → J pc ls st h e
  | 2 => ∀ (pc : Nat) (n : Fin 2) (nx : Nat) (v : Int64) (ls : GL) (st : List Value) (h : GH) (e : GE), decode cc pc = .ok (.lconst n, 1) → pc + 1 = nx → Int64.ofNat n.val = v → J nx ls (.long v :: st) h e → J pc ls st h e
  | 3 => ∀ (pc n : Nat) (z : Int) (nx : Nat) (x v : Int32) (ls ls' : GL) (st : List Value) (h : GH) (e : GE), decode cc pc = .ok (.iinc n z, 3) → pc + 3 = nx → gldI ls n = some (.int x) → x + Int32.ofInt z = v → gst1 ls n (.int v) st = some (ls', st) → J nx ls' st h e → J pc ls st h e
  | 4 => ∀ (pc : Nat) (off : Int) (tgt : Nat) (ls : GL) (st : List Value) (h : GH) (e : GE), decode cc pc = .ok (.goto off, 3) → (pc : Int) + off = (tgt : Int) → J tgt ls st h e → J pc ls st h e
  | 5 => ∀ (pc : Nat) (c : Jvm.ClassFile.Cond) (off : Int) (nx tgt : Nat) (x : Int32) (ls : GL) (st : List Value) (h : GH) (e : GE), decode cc pc = .ok (.ifCond c off, 3) → pc + 3 = nx → (pc : Int) + off = (tgt : Int) → (gcz c x 0 → J tgt ls st h e) → (gcf c x 0 → J nx ls st h e) → J pc ls (.int x :: st) h e
  | 6 => ∀ (pc : Nat) (c : Jvm.ClassFile.Cond) (off : Int) (nx tgt : Nat) (x y : Int32) (ls : GL) (st : List Value) (h : GH) (e : GE), decode cc pc = .ok (.if_icmp c off, 3) → pc + 3 = nx → (pc : Int) + off = (tgt : Int) → (gcz c x y → J tgt ls st h e) → (gcf c x y → J nx ls st h e) → J pc ls (.int y :: .int x :: st) h e
  | 7 => ∀ (pc idx nx : Nat) (v : Int32) (ls : GL) (st : List Value) (h : GH) (e : GE), decode cc pc = .ok (.ldc idx, 2) → pc + 2 = nx → Cond.constant own idx v ∈ lw_tbl → J nx ls (.int v :: st) h e → J pc ls st h e
  | 8 => ∀ (pc idx nx : Nat) (v : Int64) (ls : GL) (st : List Value) (h : GH) (e : GE), decode cc pc = .ok (.ldc2_w idx, 3) → pc + 3 = nx → Cond.constantLong own idx v ∈ lw_tbl → J nx ls (.long v :: st) h e → J pc ls st h e
  | 9 => ∀ (pc idx nx i : Nat) (tx : String) (ls : GL) (st : List Value) (h : GH) (e : GE), decode cc pc = .ok (.ldc idx, 2) → pc + 2 = nx → (own, idx, tx, i) ∈ gstrs → J nx ls (.ref (1000000 + i) :: st) h e → J pc ls st h e
  | 10 => ∀ (pc : Nat) (dflt lo hi : Int) (offs : Array Int) (len tgt : Nat) (x : Int32) (ls : GL) (st : List Value) (h : GH) (e : GE), decode cc pc = .ok (.tableswitch dflt lo hi offs, len) → (x.toInt < lo ∨ hi < x.toInt) → (pc : Int) + dflt = (tgt : Int) → J tgt ls st h e → J pc ls (.int x :: st) h e
  | 11 => ∀ (pc : Nat) (dflt lo hi : Int) (offs : Array Int) (off : Int) (len tgt : Nat) (x : Int32) (ls : GL) (st : List Value) (h : GH) (e : GE), decode cc pc = .ok (.tableswitch dflt lo hi offs, len) → ¬ x.toInt < lo → ¬ hi < x.toInt → offs[(x.toInt - lo).toNat]? = some off → (pc : Int) + off = (tgt : Int) → J tgt ls st h e → J pc ls (.int x :: st) h e
  | 12 => ∀ (pc nx : Nat) (x y : Int32) (ls : GL) (st : List Value) (h : GH) (e : GE), decode cc pc = .ok (.idiv, 1) → pc + 1 = nx → ¬ y = 0 → J nx ls (.int (x / y) :: st) h e → J pc ls (.int y :: .int x :: st) h e
  | 13 => ∀ (pc nx : Nat) (x y : Int32) (ls : GL) (st : List Value) (h : GH) (e : GE), decode cc pc = .ok (.irem, 1) → pc + 1 = nx → ¬ y = 0 → J nx ls (.int (x - x / y * y) :: st) h e → J pc ls (.int y :: .int x :: st) h e
  | 14 => ∀ (pc idx nx t j a : Nat) (fs : List Value) (v : Value) (ls : GL) (st : List Value) (h : GH) (e : GE), decode cc pc = .ok (.getfield idx, 3) → pc + 3 = nx → gFL own idx t j → h a = some (gob t fs) → fs[j]? = some v → J nx ls (v :: st) h e → J pc ls (.ref a :: st) h e
  | 15 => ∀ (pc idx nx t j a : Nat) (fs : List Value) (v : Value) (ls : GL) (st : List Value) (h : GH) (e : GE), decode cc pc = .ok (.putfield idx, 3) → pc + 3 = nx → gFL own idx t j → gFSn t j v → h a = some (gob t fs) → j < fs.length → J nx ls st (gup h a (gob t (fs.set j v))) e → J pc ls (v :: .ref a :: st) h e
  | 16 => ∀ (pc idx nx t j a : Nat) (fs : List Value) (v : Value) (ls : GL) (st : List Value) (h : GH) (e : GE), decode cc pc = .ok (.putfield idx, 3) → pc + 3 = nx → gFL own idx t j → ini = true → gFS own t j true v → h a = some (gob t fs) → j < fs.length → J nx ls st (gup h a (gob t (fs.set j v))) e → J pc ls (v :: .ref a :: st) h e
  | 17 => ∀ (pc nx n a : Nat) (f : Nat → Int32) (i : Int32) (ls : GL) (st : List Value) (h : GH) (e : GE), decode cc pc = .ok (.iaload, 1) → pc + 1 = nx → h a = some (gia n f) → vp_in i n → J nx ls (.int (f i.toNatClampNeg) :: st) h e → J pc ls (.int i :: .ref a :: st) h e
  | 18 => ∀ (pc nx n a : Nat) (f : Nat → Int32) (i x : Int32) (ls : GL) (st : List Value) (h : GH) (e : GE), decode cc pc = .ok (.iastore, 1) → pc + 1 = nx → h a = some (gia n f) → vp_in i n → J nx ls st (gup h a (gia n (upd f i.toNatClampNeg x))) e → J pc ls (.int x :: .int i :: .ref a :: st) h e
  | 19 => ∀ (pc nx n a : Nat) (f : Nat → Int64) (i : Int32) (ls : GL) (st : List Value) (h : GH) (e : GE), decode cc pc = .ok (.laload, 1) → pc + 1 = nx → h a = some (gla n f) → vp_in i n → J nx ls (.long (f i.toNatClampNeg) :: st) h e → J pc ls (.int i :: .ref a :: st) h e
  | 20 => ∀ (pc nx n a : Nat) (f : Nat → Int64) (i : Int32) (x : Int64) (ls : GL) (st : List Value) (h : GH) (e : GE), decode cc pc = .ok (.lastore, 1) → pc + 1 = nx → h a = some (gla n f) → vp_in i n → J nx ls st (gup h a (gla n (vp_updL f i.toNatClampNeg x))) e → J pc ls (.long x :: .int i :: .ref a :: st) h e
  | 21 => ∀ (pc nx t n a : Nat) (f : Nat → Option Nat) (i : Int32) (ls : GL) (st : List Value) (h : GH) (e : GE), decode cc pc = .ok (.aaload, 1) → pc + 1 = nx → h a = some (gra t n f) → vp_in i n → (t = 2 ∨ t = 4) → J nx ls (va_rf (f i.toNatClampNeg) :: st) h e → J pc ls (.int i :: .ref a :: st) h e
  | 22 => ∀ (pc nx t n a v : Nat) (vs : List Value) (f : Nat → Option Nat) (i : Int32) (ls : GL) (st : List Value) (h : GH) (e : GE), decode cc pc = .ok (.aastore, 1) → pc + 1 = nx → h a = some (gra t n f) → h v = some (gob t vs) → vp_in i n → (t = 2 ∨ t = 4) → J nx ls st (gup h a (gra t n (va_up f i.toNatClampNeg (some v)))) e → J pc ls (.ref v :: .int i :: .ref a :: st) h e
  | 23 => ∀ (pc nx n a : Nat) (c : GC) (ls : GL) (st : List Value) (h : GH) (e : GE), decode cc pc = .ok (.arraylength, 1) → pc + 1 = nx → h a = some c → galen c = some n → (∀ t m f, c = gra t m f → t = 2 ∨ t = 4) → J nx ls (.int (nI n) :: st) h e → J pc ls (.ref a :: st) h e
  | 24 => ∀ (pc idx nx t n bc bs a : Nat) (C : String) (T : u_T) (N : Nat) (ty : Nat → FieldType) (fs : List Value) (ls : GL) (st : List Value) (h : GH), decode cc pc = .ok (.new idx, 3) → pc + 3 = nx → Cond.classLink own idx C ∈ lw_tbl → Cond.instantiable C N ∈ lw_tbl → Cond.initialized C ∈ lw_tbl → vwCl[t]? = some (C, T, N) → (∀ j, j < N → parseFieldDescriptor (T j).2.2.1 = some (ty j)) → (∀ j, j < N → defaultValue (ty j) = vp_V fs j) → (∀ v ∈ fs, ∀ a, v ≠ .ref a) → gphi a = n → n + 1 ≤ 1000000 → J nx ls (.ref a :: st) (gup h a (gob t fs)) (n + 1, bc, bs, true) → J pc ls st h (n, bc + 1, bs + N, true)
  | 25 => ∀ (pc nx n m bc bs a : Nat) (i : Int32) (ls : GL) (st : List Value) (h : GH), decode cc pc = .ok (.newarray .int, 2) → pc + 2 = nx → ¬ i < 0 → i.toNatClampNeg = m → m ≤ 1000 → gphi a = n → n + 1 ≤ 1000000 → J nx ls (.ref a :: st) (gup h a (gia m (fun _ => 0))) (n + 1, bc, bs, true) → J pc ls (.int i :: st) h (n, bc + 1, bs + m, true)
  | 26 => ∀ (pc nx n m bc bs a : Nat) (i : Int32) (ls : GL) (st : List Value) (h : GH), decode cc pc = .ok (.newarray .long, 2) → pc + 2 = nx → ¬ i < 0 → i.toNatClampNeg = m → m ≤ 1000 → gphi a = n → n + 1 ≤ 1000000 → J nx ls (.ref a :: st) (gup h a (gla m (fun _ => 0))) (n + 1, bc, bs, true) → J pc ls (.int i :: st) h (n, bc + 1, bs + m, true)
  | 27 => ∀ (pc idx nx t n m bc bs a : Nat) (C : String) (T : u_T) (N : Nat) (i : Int32) (ls : GL) (st : List Value) (h : GH), decode cc pc = .ok (.anewarray idx, 3) → pc + 3 = nx → Cond.classLink own idx C ∈ lw_tbl → vwCl[t]? = some (C, T, N) → (t = 2 ∨ t = 4) → ¬ i < 0 → i.toNatClampNeg = m → m ≤ 1000 → gphi a = n → n + 1 ≤ 1000000 → J nx ls (.ref a :: st) (gup h a (gra t m (fun _ => none))) (n + 1, bc, bs, true) → J pc ls (.int i :: st) h (n, bc + 1, bs + m, true)
  | 28 => ∀ (pc idx nx t a mc ms : Nat) (fs : List Value) (y : MethodName) (As : List Value) (ls : GL) (st st0 : List Value) (h : GH) (e : GE), decode cc pc = .ok (.invokevirtual idx, 3) → pc + 3 = nx → gMV own idx y As.length → h a = some (gob t fs) → (vwCl[t]?).map (fun q => q.1) = some y.cls → gcat st ≤ 8 → st0 = As.reverse ++ .ref a :: st → mc ≤ e.2.1 → ms ≤ e.2.2.1 → call y (.ref a :: As) h (e.1, mc, ms, e.2.2.2) (gaft J nx ls st e mc ms) → J pc ls st0 h e
  | 29 => ∀ (pc idx nx i mc ms : Nat) (y : MethodName) (As : List Value) (ls : GL) (st st0 : List Value) (h : GH) (e : GE), decode cc pc = .ok (.invokevirtual idx, 3) → pc + 3 = nx → gMV own idx y As.length → i < 5 → y.cls = "java/lang/String" → gcat st ≤ 8 → st0 = As.reverse ++ .ref (1000000 + i) :: st → mc ≤ e.2.1 → ms ≤ e.2.2.1 → call y (.ref (1000000 + i) :: As) h (e.1, mc, ms, e.2.2.2) (gaft J nx ls st e mc ms) → J pc ls st0 h e
  | 30 => ∀ (pc idx nx mc ms : Nat) (y : MethodName) (As : List Value) (ls : GL) (st st0 : List Value) (h : GH) (e : GE), decode cc pc = .ok (.invokestatic idx, 3) → pc + 3 = nx → gMS own idx y As.length → gcat st ≤ 8 → st0 = As.reverse ++ st → mc ≤ e.2.1 → ms ≤ e.2.2.1 → call y As h (e.1, mc, ms, e.2.2.2) (gaft J nx ls st e mc ms) → J pc ls st0 h e
  | 31 => ∀ (pc idx nx mc ms : Nat) (y : MethodName) (As : List Value) (ls : GL) (st st0 : List Value) (h : GH) (e : GE), decode cc pc = .ok (.invokestatic idx, 3) → pc + 3 = nx → gMSN own idx y As.length → gcat st ≤ 8 → st0 = As.reverse ++ st → mc ≤ e.2.1 → ms ≤ e.2.2.1 → call y As h (e.1, mc, ms, e.2.2.2) (gaft J nx ls st e mc ms) → J pc ls st0 h e
  | 32 => ∀ (pc idx nx a mc ms : Nat) (y : MethodName) (As : List Value) (ls : GL) (st st0 : List Value) (h : GH) (e : GE), decode cc pc = .ok (.invokespecial idx, 3) → pc + 3 = nx → gMI own idx y As.length → gcat st ≤ 8 → st0 = As.reverse ++ .ref a :: st → mc ≤ e.2.1 → ms ≤ e.2.2.1 → call y (.ref a :: As) h (e.1, mc, ms, e.2.2.2) (gaft J nx ls st e mc ms) → J pc ls st0 h e
  | 33 => ∀ (pc idx nx a mc ms : Nat) (y : MethodName) (As : List Value) (ls : GL) (st st0 : List Value) (h : GH) (e : GE), decode cc pc = .ok (.invokespecial idx, 3) → pc + 3 = nx → gMIN own idx y As.length → gcat st ≤ 8 → st0 = As.reverse ++ .ref a :: st → mc ≤ e.2.1 → ms ≤ e.2.2.1 → call y (.ref a :: As) h (e.1, mc, ms, e.2.2.2) (gaft J nx ls st e mc ms) → J pc ls st0 h e
  | 34 => ∀ (pc idx nx a : Nat) (ls : GL) (st : List Value) (h : GH) (e : GE), decode cc pc = .ok (.invokespecial idx, 3) → pc + 3 = nx → Cond.methodLink own idx objectInit ∈ lw_tbl → gcat st ≤ 8 → J nx ls st h e → J pc ls (.ref a :: st) h e
  | 35 => ∀ (pc idx nx a0 a n0 n1 : Nat) (f g : Nat → Int32) (sp dp n : Int32) (ls : GL) (st : List Value) (h : GH) (e : GE), decode cc pc = .ok (.invokestatic idx, 3) → pc + 3 = nx → Cond.methodLink own idx arraycopyName ∈ lw_tbl → gcat st ≤ 8 → h a0 = some (gia n0 f) → h a = some (gia n1 g) → ¬ sp < 0 → ¬ dp < 0 → ¬ n < 0 → sp.toNatClampNeg + n.toNatClampNeg ≤ n0 → dp.toNatClampNeg + n.toNatClampNeg ≤ n1 → J nx ls st (gup h a (gia n1 (va_cpy f g sp.toNatClampNeg dp.toNatClampNeg n.toNatClampNeg))) (e.1, e.2.1, e.2.2.1, false) → J pc ls (.int n :: .int dp :: .ref a :: .int sp :: .ref a0 :: st) h e
  | 36 => ∀ (pc : Nat) (v : Int32) (ls : GL) (h : GH) (e : GE), decode cc pc = .ok (.ireturn, 1) → (∃ ty, ret = some ty ∧ narrow ty (.int v) = .int v) → P (some (.int v)) h e → J pc ls [.int v] h e
  | 37 => ∀ (pc : Nat) (v : Int64) (ls : GL) (h : GH) (e : GE), decode cc pc = .ok (.lreturn, 1) → ret = some .long → P (some (.long v)) h e → J pc ls [.long v] h e
  | 38 => ∀ (pc : Nat) (ls : GL) (h : GH) (e : GE), decode cc pc = .ok (.return_, 1) → ret = none → P none h e → J pc ls [] h e
  | 39 => ∀ (pc idx nx : Nat) (ls : GL) (st : List Value) (h : GH) (e : GE), decode cc pc = .ok (.getstatic idx, 3) → pc + 3 = nx → Cond.fieldLink own idx "java/lang/String" "COMPACT_STRINGS" "Z" ∈ lw_tbl → J nx ls (.int 1 :: st) h e → J pc ls st h e
  | 40 => ∀ (pc idx nx : Nat) (ls : GL) (st : List Value) (h : GH) (e : GE), decode cc pc = .ok (.getstatic idx, 3) → pc + 3 = nx → Cond.fieldLink own idx "jdk/internal/util/Preconditions" "SIOOBE_FORMATTER" "Ljava/util/function/BiFunction;" ∈ lw_tbl → J nx ls (.null :: st) h e → J nx ls (.ref 1000200 :: st) h e → J pc ls st h e
  | 41 => ∀ (pc idx nx i : Nat) (ls : GL) (st : List Value) (h : GH) (e : GE), decode cc pc = .ok (.getfield idx, 3) → pc + 3 = nx → Cond.fieldLink own idx "java/lang/String" "coder" "B" ∈ lw_tbl → i < 5 → J nx ls (.int 0 :: st) h e → J pc ls (.ref (1000000 + i) :: st) h e
  | 42 => ∀ (pc idx nx i : Nat) (ls : GL) (st : List Value) (h : GH) (e : GE), decode cc pc = .ok (.getfield idx, 3) → pc + 3 = nx → Cond.fieldLink own idx "java/lang/String" "value" "[B" ∈ lw_tbl → i < 5 → J nx ls (.ref (1000100 + i) :: st) h e → J pc ls (.ref (1000000 + i) :: st) h e
  | 43 => ∀ (pc nx i : Nat) (ls : GL) (st : List Value) (h : GH) (e : GE), decode cc pc = .ok (.arraylength, 1) → pc + 1 = nx → i < 5 → J nx ls (.int (nI (glen.getD i 0)) :: st) h e → J pc ls (.ref (1000100 + i) :: st) h e
  | 44 => ∀ (pc nx i j : Nat) (ls : GL) (st : List Value) (h : GH) (e : GE), decode cc pc = .ok (.baload, 1) → pc + 1 = nx → i < 5 → j < glen.getD i 0 → J nx ls (.int ((gbyt.getD i []).getD j 0) :: st) h e → J pc ls (.int (nI j) :: .ref (1000100 + i) :: st) h e
  | 45 => ∀ (pc idx nx : Nat) (x y : Int32) (ls : GL) (st : List Value) (h : GH) (e : GE), decode cc pc = .ok (.invokestatic idx, 3) → pc + 3 = nx → Cond.methodLink own idx Lib.Math.max.name ∈ lw_tbl → gcat st ≤ 8 → J nx ls (.int (if x < y then y else x) :: st) h e → J pc ls (.int y :: .int x :: st) h e
  | 46 => ∀ (pc idx nx : Nat) (x y : Int32) (ls : GL) (st : List Value) (h : GH) (e : GE), decode cc pc = .ok (.invokestatic idx, 3) → pc + 3 = nx → Cond.methodLink own idx Lib.Math.min.name ∈ lw_tbl → gcat st ≤ 8 → J nx ls (.int (if y < x then y else x) :: st) h e → J pc ls (.int y :: .int x :: st) h e
  | 47 => ∀ (pc a t n : Nat) (f g : Nat → Option Nat) (ls : GL) (st : List Value) (h : GH) (e : GE), h a = some (gra t n f) → (∀ i, i < n → f i = g i) → J pc ls st (gup h a (gra t n g)) e → J pc ls st h e
  | 48 => ∀ (pc n bc bs : Nat) (fl : Bool) (ls : GL) (st : List Value) (h : GH), J pc ls st h (n, 0, 0, false) → J pc ls st h (n, bc, bs, fl)
  | _ => True
def gCl (own : String) (cc : ByteArray) (ret : Option FieldType) (ini : Bool) (call : CT) (J : JT) (P : RT) : Prop := ∀ k : Nat, gRule own cc ret ini call J P k
def gent (vs : List Value) (n : Nat) : GL := (vs.flatMap fun v => if v.category = 2 then [some v, none] else [some v]) ++ List.replicate (n - (lg_sl vs).length) none
def gMth (y : MethodName) (cc : ByteArray) (maxL : Nat) (ret : Option FieldType) : Prop := Cond.code y cc maxL ret ∈ lw_tbl ∧ maxL ≤ 40 ∧ plainName y.cls = true ∧ (parseMethodDescriptor y.desc).map (fun d => d.returnType) = some ret
/-- method y, called with vs in the heap h, returns with P; d calls deep at most -/
def gRuns : Nat → CT
  | 0 => fun _ _ _ _ _ => False
  | d + 1 => fun y vs h e P => ∃ (cc : ByteArray) (maxL : Nat) (ret : Option FieldType), gMth y cc maxL ret ∧ (lg_sl vs).length ≤ maxL ∧ ∀ J : JT, gCl y.cls cc ret (y.name == "<init>") (gRuns d) J P → J 0 (gent vs maxL) [] h e
