/-! ===== rows of the small machine ===== -/
theorem gCl_post {own : String} {cc : ByteArray} {ret : Option FieldType} {ini : Bool} {call : CT} {J : JT} {P P' : RT} (hJ : gCl own cc ret ini call J P') (hP : ∀ r h e, P r h e → P' r h e) : gCl own cc ret ini call J P := by
  intro k
  match k with
  | 0 => exact hJ 0
  | 1 => exact hJ 1
  | 2 => exact hJ 2
  | 3 => exact hJ 3
  | 4 => exact hJ 4
  | 5 => exact hJ 5
  | 6 => exact hJ 6
  | 7 => exact hJ 7
  | 8 => exact hJ 8
  | 9 => exact hJ 9
  | 10 => exact hJ 10
  | 11 => exact hJ 11
  | 12 => exact hJ 12
  | 13 => exact hJ 13
  | 14 => exact hJ 14
  | 15 => exact hJ 15
  | 16 => exact hJ 16
  | 17 => exact hJ 17
  | 18 => exact hJ 18
  | 19 => exact hJ 19
  | 20 => exact hJ 20
  | 21 => exact hJ 21
  | 22 => exact hJ 22
  | 23 => exact hJ 23
  | 24 => exact hJ 24
  | 25 => exact hJ 25
  | 26 => exact hJ 26
  | 27 => exact hJ 27
  | 28 => exact hJ 28
  | 29 => exact hJ 29
  | 30 => exact hJ 30
  | 31 => exact hJ 31
  | 32 => exact hJ 32
  | 33 => exact hJ 33
  | 34 => exact hJ 34
  | 35 => exact hJ 35
  | 36 => exact fun pc v ls h e hd hty hp => hJ 36 pc v ls h e hd hty (hP _ _ _ hp)
  | 37 => exact fun pc v ls h e hd hty hp => hJ 37 pc v ls h e hd hty (hP _ _ _ hp)
  | 38 => exact fun pc ls h e hd hty hp => hJ 38 pc ls h e hd hty (hP _ _ _ hp)
  | 39 => exact hJ 39
  | 40 => exact hJ 40
  | 41 => exact hJ 41
  | 42 => exact hJ 42
  | 43 => exact hJ 43
  | 44 => exact hJ 44
  | 45 => exact hJ 45
  | 46 => exact hJ 46
  | 47 => exact hJ 47
  | 48 => exact hJ 48
  | _ + 49 => exact trivial
theorem gRuns_post {d : Nat} {y : MethodName} {vs : List Value} {h : GH} {e : GE} {P P' : RT} (hr : gRuns d y vs h e P) (hP : ∀ r h e, P r h e → P' r h e) : gRuns d y vs h e P' := by
  cases d with
  | zero => exact hr.elim
  | succ d =>
    obtain ⟨cc, maxL, ret, hM, hf, hJ⟩ := hr
    exact ⟨cc, maxL, ret, hM, hf, fun J hc => hJ J (gCl_post hc hP)⟩
/-- a method that makes nothing -/
def gN (fl : Bool) (d : Nat) (y : MethodName) (vs : List Value) (h : GH) (P : Option Value → GH → Prop) : Prop := ∀ n : Nat, gRuns d y vs h (n, 0, 0, fl) (fun r h' e' => e' = (n, 0, 0, fl) ∧ P r h')
/-- a method that only reads -/
def gR (fl : Bool) (d : Nat) (y : MethodName) (vs : List Value) (h : GH) (v : Value) : Prop := gN fl d y vs h (fun r h' => r = some v ∧ h' = h)
theorem gN.of {fl : Bool} {d : Nat} {y : MethodName} {vs : List Value} {h : GH} {P : Option Value → GH → Prop} {cc : ByteArray} {maxL : Nat} {ret : Option FieldType} (hM : gMth y cc maxL ret) (hf : (lg_sl vs).length ≤ maxL)
    (body : ∀ (J : JT) (n : Nat), gCl y.cls cc ret (y.name == "<init>") (gRuns d) J (fun r h' e' => e' = (n, 0, 0, fl) ∧ P r h') → J 0 (gent vs maxL) [] h (n, 0, 0, fl)) : gN fl (d + 1) y vs h P :=
  fun n => ⟨cc, maxL, ret, hM, hf, fun J hJ => body J n hJ⟩
theorem gN.mono {fl : Bool} {d : Nat} {y : MethodName} {vs : List Value} {h : GH} {P P' : Option Value → GH → Prop} (hN : gN fl d y vs h P) (hP : ∀ r h', P r h' → P' r h') : gN fl d y vs h P' := fun n => gRuns_post (hN n) (fun _ _ _ q => ⟨q.1, hP _ _ q.2⟩)
def gb (b : Bool) : Int32 := match b with
  | true => 1
  | false => 0
theorem gb_nar (b : Bool) : narrow .boolean (.int (gb b)) = .int (gb b) := by cases b <;> rfl
section GROW
variable {own : String} {cc : ByteArray} {ret : Option FieldType} {ini : Bool} {call : CT} {J : JT} {P : RT}
theorem j_p (hJ : gCl own cc ret ini call J P) {pc : Nat} {i : Instr} {nx : Nat} {ls : GL} {st : List Value} {ls' : GL} {st' : List Value} {h : GH} {e : GE} (hd : decode cc pc = .ok (i, gsz i)) (hn : pc + gsz i = nx) (hp : gps i ls st = some (ls', st')) (k : J nx ls' st' h e) : J pc ls st h e := hJ 0 _ _ _ _ _ _ _ _ _ hd hn hp k
theorem j_c (hJ : gCl own cc ret ini call J P) {pc : Nat} {i : Instr} {nx : Nat} {v : Int32} {ls : GL} {st : List Value} {h : GH} {e : GE} (hd : decode cc pc = .ok (i, gsz i)) (hn : pc + gsz i = nx) (hp : gics i = some v) (k : J nx ls (.int v :: st) h e) : J pc ls st h e := hJ 1 _ _ _ _ _ _ _ _ hd hn hp k
theorem j_lc (hJ : gCl own cc ret ini call J P) {pc : Nat} {n : Fin 2} {nx : Nat} {v : Int64} {ls : GL} {st : List Value} {h : GH} {e : GE} (hd : decode cc pc = .ok (.lconst n, 1)) (hn : pc + 1 = nx) (hp : Int64.ofNat n.val = v) (k : J nx ls (.long v :: st) h e) : J pc ls st h e := hJ 2 _ _ _ _ _ _ _ _ hd hn hp k
theorem j_inc (hJ : gCl own cc ret ini call J P) {pc n : Nat} {z : Int} {nx : Nat} {x v : Int32} {ls ls' : GL} {st : List Value} {h : GH} {e : GE} (hd : decode cc pc = .ok (.iinc n z, 3)) (hn : pc + 3 = nx) (hl : gldI ls n = some (.int x)) (hv : x + Int32.ofInt z = v) (hs : gst1 ls n (.int v) st = some (ls', st)) (k : J nx ls' st h e) : J pc ls st h e := hJ 3 _ _ _ _ _ _ _ _ _ _ _ hd hn hl hv hs k
theorem j_go (hJ : gCl own cc ret ini call J P) {pc : Nat} {off : Int} {tgt : Nat} {ls : GL} {st : List Value} {h : GH} {e : GE} (hd : decode cc pc = .ok (.goto off, 3)) (ht : (pc : Int) + off = (tgt : Int)) (k : J tgt ls st h e) : J pc ls st h e := hJ 4 _ _ _ _ _ _ _ hd ht k
theorem j_if_eq (hJ : gCl own cc ret ini call J P) {pc : Nat} {off : Int} {nx tgt : Nat} {x : Int32} {ls : GL} {st : List Value} {h : GH} {e : GE} (hd : decode cc pc = .ok (.ifCond .eq off, 3)) (hn : pc + 3 = nx) (ht : (pc : Int) + off = (tgt : Int)) (kt : x = 0 → J tgt ls st h e) (kf : ¬ x = 0 → J nx ls st h e) : J pc ls (.int x :: st) h e := hJ 5 _ _ _ _ _ _ _ _ _ _ hd hn ht kt kf
theorem j_if_ne (hJ : gCl own cc ret ini call J P) {pc : Nat} {off : Int} {nx tgt : Nat} {x : Int32} {ls : GL} {st : List Value} {h : GH} {e : GE} (hd : decode cc pc = .ok (.ifCond .ne off, 3)) (hn : pc + 3 = nx) (ht : (pc : Int) + off = (tgt : Int)) (kt : ¬ x = 0 → J tgt ls st h e) (kf : x = 0 → J nx ls st h e) : J pc ls (.int x :: st) h e := hJ 5 _ _ _ _ _ _ _ _ _ _ hd hn ht kt kf
theorem j_if_lt (hJ : gCl own cc ret ini call J P) {pc : Nat} {off : Int} {nx tgt : Nat} {x : Int32} {ls : GL} {st : List Value} {h : GH} {e : GE} (hd : decode cc pc = .ok (.ifCond .lt off, 3)) (hn : pc + 3 = nx) (ht : (pc : Int) + off = (tgt : Int)) (kt : x < 0 → J tgt ls st h e) (kf : ¬ x < 0 → J nx ls st h e) : J pc ls (.int x :: st) h e := hJ 5 _ _ _ _ _ _ _ _ _ _ hd hn ht kt kf
theorem j_if_ge (hJ : gCl own cc ret ini call J P) {pc : Nat} {off : Int} {nx tgt : Nat} {x : Int32} {ls : GL} {st : List Value} {h : GH} {e : GE} (hd : decode cc pc = .ok (.ifCond .ge off, 3)) (hn : pc + 3 = nx) (ht : (pc : Int) + off = (tgt : Int)) (kt : 0 ≤ x → J tgt ls st h e) (kf : ¬ 0 ≤ x → J nx ls st h e) : J pc ls (.int x :: st) h e := hJ 5 _ _ _ _ _ _ _ _ _ _ hd hn ht kt kf
theorem j_if_gt (hJ : gCl own cc ret ini call J P) {pc : Nat} {off : Int} {nx tgt : Nat} {x : Int32} {ls : GL} {st : List Value} {h : GH} {e : GE} (hd : decode cc pc = .ok (.ifCond .gt off, 3)) (hn : pc + 3 = nx) (ht : (pc : Int) + off = (tgt : Int)) (kt : 0 < x → J tgt ls st h e) (kf : ¬ 0 < x → J nx ls st h e) : J pc ls (.int x :: st) h e := hJ 5 _ _ _ _ _ _ _ _ _ _ hd hn ht kt kf
theorem j_if_le (hJ : gCl own cc ret ini call J P) {pc : Nat} {off : Int} {nx tgt : Nat} {x : Int32} {ls : GL} {st : List Value} {h : GH} {e : GE} (hd : decode cc pc = .ok (.ifCond .le off, 3)) (hn : pc + 3 = nx) (ht : (pc : Int) + off = (tgt : Int)) (kt : x ≤ 0 → J tgt ls st h e) (kf : ¬ x ≤ 0 → J nx ls st h e) : J pc ls (.int x :: st) h e := hJ 5 _ _ _ _ _ _ _ _ _ _ hd hn ht kt kf
theorem j_ic_eq (hJ : gCl own cc ret ini call J P) {pc : Nat} {off : Int} {nx tgt : Nat} {x y : Int32} {ls : GL} {st : List Value} {h : GH} {e : GE} (hd : decode cc pc = .ok (.if_icmp .eq off, 3)) (hn : pc + 3 = nx) (ht : (pc : Int) + off = (tgt : Int)) (kt : x = y → J tgt ls st h e) (kf : ¬ x = y → J nx ls st h e) : J pc ls (.int y :: .int x :: st) h e := hJ 6 _ _ _ _ _ _ _ _ _ _ _ hd hn ht kt kf
theorem j_ic_ne (hJ : gCl own cc ret ini call J P) {pc : Nat} {off : Int} {nx tgt : Nat} {x y : Int32} {ls : GL} {st : List Value} {h : GH} {e : GE} (hd : decode cc pc = .ok (.if_icmp .ne off, 3)) (hn : pc + 3 = nx) (ht : (pc : Int) + off = (tgt : Int)) (kt : ¬ x = y → J tgt ls st h e) (kf : x = y → J nx ls st h e) : J pc ls (.int y :: .int x :: st) h e := hJ 6 _ _ _ _ _ _ _ _ _ _ _ hd hn ht kt kf
theorem j_ic_lt (hJ : gCl own cc ret ini call J P) {pc : Nat} {off : Int} {nx tgt : Nat} {x y : Int32} {ls : GL} {st : List Value} {h : GH} {e : GE} (hd : decode cc pc = .ok (.if_icmp .lt off, 3)) (hn : pc + 3 = nx) (ht : (pc : Int) + off = (tgt : Int)) (kt : x < y → J tgt ls st h e) (kf : ¬ x < y → J nx ls st h e) : J pc ls (.int y :: .int x :: st) h e := hJ 6 _ _ _ _ _ _ _ _ _ _ _ hd hn ht kt kf
theorem j_ic_ge (hJ : gCl own cc ret ini call J P) {pc : Nat} {off : Int} {nx tgt : Nat} {x y : Int32} {ls : GL} {st : List Value} {h : GH} {e : GE} (hd : decode cc pc = .ok (.if_icmp .ge off, 3)) (hn : pc + 3 = nx) (ht : (pc : Int) + off = (tgt : Int)) (kt : y ≤ x → J tgt ls st h e) (kf : ¬ y ≤ x → J nx ls st h e) : J pc ls (.int y :: .int x :: st) h e := hJ 6 _ _ _ _ _ _ _ _ _ _ _ hd hn ht kt kf
theorem j_ic_gt (hJ : gCl own cc ret ini call J P) {pc : Nat} {off : Int} {nx tgt : Nat} {x y : Int32} {ls : GL} {st : List Value} {h : GH} {e : GE} (hd : decode cc pc = .ok (.if_icmp .gt off, 3)) (hn : pc + 3 = nx) (ht : (pc : Int) + off = (tgt : Int)) (kt : y < x → J tgt ls st h e) (kf : ¬ y < x → J nx ls st h e) : J pc ls (.int y :: .int x :: st) h e := hJ 6 _ _ _ _ _ _ _ _ _ _ _ hd hn ht kt kf
theorem j_ic_le (hJ : gCl own cc ret ini call J P) {pc : Nat} {off : Int} {nx tgt : Nat} {x y : Int32} {ls : GL} {st : List Value} {h : GH} {e : GE} (hd : decode cc pc = .ok (.if_icmp .le off, 3)) (hn : pc + 3 = nx) (ht : (pc : Int) + off = (tgt : Int)) (kt : x ≤ y → J tgt ls st h e) (kf : ¬ x ≤ y → J nx ls st h e) : J pc ls (.int y :: .int x :: st) h e := hJ 6 _ _ _ _ _ _ _ _ _ _ _ hd hn ht kt kf
theorem j_ldc (hJ : gCl own cc ret ini call J P) {pc idx nx : Nat} {v : Int32} {ls : GL} {st : List Value} {h : GH} {e : GE} (hd : decode cc pc = .ok (.ldc idx, 2)) (hn : pc + 2 = nx) (hw : Cond.constant own idx v ∈ lw_tbl) (k : J nx ls (.int v :: st) h e) : J pc ls st h e := hJ 7 _ _ _ _ _ _ _ _ hd hn hw k
theorem j_ldc2 (hJ : gCl own cc ret ini call J P) {pc idx nx : Nat} {v : Int64} {ls : GL} {st : List Value} {h : GH} {e : GE} (hd : decode cc pc = .ok (.ldc2_w idx, 3)) (hn : pc + 3 = nx) (hw : Cond.constantLong own idx v ∈ lw_tbl) (k : J nx ls (.long v :: st) h e) : J pc ls st h e := hJ 8 _ _ _ _ _ _ _ _ hd hn hw k
theorem j_ldcS (hJ : gCl own cc ret ini call J P) {pc idx nx i : Nat} {tx : String} {ls : GL} {st : List Value} {h : GH} {e : GE} (hd : decode cc pc = .ok (.ldc idx, 2)) (hn : pc + 2 = nx) (hw : (own, idx, tx, i) ∈ gstrs) (k : J nx ls (.ref (1000000 + i) :: st) h e) : J pc ls st h e := hJ 9 _ _ _ _ _ _ _ _ _ hd hn hw k
theorem j_tbO (hJ : gCl own cc ret ini call J P) {pc : Nat} {dflt lo hi : Int} {offs : Array Int} {len tgt : Nat} {x : Int32} {ls : GL} {st : List Value} {h : GH} {e : GE} (hd : decode cc pc = .ok (.tableswitch dflt lo hi offs, len)) (hw : x.toInt < lo ∨ hi < x.toInt) (ht : (pc : Int) + dflt = (tgt : Int)) (k : J tgt ls st h e) : J pc ls (.int x :: st) h e := hJ 10 _ _ _ _ _ _ _ _ _ _ _ _ hd hw ht k
theorem j_tbI (hJ : gCl own cc ret ini call J P) {pc : Nat} {dflt lo hi : Int} {offs : Array Int} {off : Int} {len tgt : Nat} {x : Int32} {ls : GL} {st : List Value} {h : GH} {e : GE} (hd : decode cc pc = .ok (.tableswitch dflt lo hi offs, len)) (h1 : ¬ x.toInt < lo) (h2 : ¬ hi < x.toInt) (ho : offs[(x.toInt - lo).toNat]? = some off) (ht : (pc : Int) + off = (tgt : Int)) (k : J tgt ls st h e) : J pc ls (.int x :: st) h e := hJ 11 _ _ _ _ _ _ _ _ _ _ _ _ _ hd h1 h2 ho ht k
theorem j_div (hJ : gCl own cc ret ini call J P) {pc nx : Nat} {x y : Int32} {ls : GL} {st : List Value} {h : GH} {e : GE} (hd : decode cc pc = .ok (.idiv, 1)) (hn : pc + 1 = nx) (hy : ¬ y = 0) (k : J nx ls (.int (x / y) :: st) h e) : J pc ls (.int y :: .int x :: st) h e := hJ 12 _ _ _ _ _ _ _ _ hd hn hy k
theorem j_rem (hJ : gCl own cc ret ini call J P) {pc nx : Nat} {x y : Int32} {ls : GL} {st : List Value} {h : GH} {e : GE} (hd : decode cc pc = .ok (.irem, 1)) (hn : pc + 1 = nx) (hy : ¬ y = 0) (k : J nx ls (.int (x - x / y * y) :: st) h e) : J pc ls (.int y :: .int x :: st) h e := hJ 13 _ _ _ _ _ _ _ _ hd hn hy k
theorem j_get (hJ : gCl own cc ret ini call J P) {pc idx nx t j a : Nat} {fs : List Value} {v : Value} {ls : GL} {st : List Value} {h : GH} {e : GE} (hd : decode cc pc = .ok (.getfield idx, 3)) (hn : pc + 3 = nx) (hF : gFL own idx t j) (ha : h a = some (gob t fs)) (hv : fs[j]? = some v) (k : J nx ls (v :: st) h e) : J pc ls (.ref a :: st) h e := hJ 14 _ _ _ _ _ _ _ _ _ _ _ _ hd hn hF ha hv k
theorem j_put (hJ : gCl own cc ret ini call J P) {pc idx nx t j a : Nat} {fs : List Value} {v : Value} {ls : GL} {st : List Value} {h : GH} {e : GE} (hd : decode cc pc = .ok (.putfield idx, 3)) (hn : pc + 3 = nx) (hF : gFL own idx t j) (hS : gFSn t j v) (ha : h a = some (gob t fs)) (hl : j < fs.length) (k : J nx ls st (gup h a (gob t (fs.set j v))) e) : J pc ls (v :: .ref a :: st) h e := hJ 15 _ _ _ _ _ _ _ _ _ _ _ _ hd hn hF hS ha hl k
theorem j_putF (hJ : gCl own cc ret ini call J P) {pc idx nx t j a : Nat} {fs : List Value} {v : Value} {ls : GL} {st : List Value} {h : GH} {e : GE} (hd : decode cc pc = .ok (.putfield idx, 3)) (hn : pc + 3 = nx) (hF : gFL own idx t j) (hi : ini = true) (hS : gFS own t j true v) (ha : h a = some (gob t fs)) (hl : j < fs.length) (k : J nx ls st (gup h a (gob t (fs.set j v))) e) : J pc ls (v :: .ref a :: st) h e := hJ 16 _ _ _ _ _ _ _ _ _ _ _ _ hd hn hF hi hS ha hl k
theorem j_iald0 (hJ : gCl own cc ret ini call J P) {pc nx n a : Nat} {f : Nat → Int32} {i : Int32} {ls : GL} {st : List Value} {h : GH} {e : GE} (hd : decode cc pc = .ok (.iaload, 1)) (hn : pc + 1 = nx) (ha : h a = some (gia n f)) (hi : vp_in i n) (k : J nx ls (.int (f i.toNatClampNeg) :: st) h e) : J pc ls (.int i :: .ref a :: st) h e := hJ 17 _ _ _ _ _ _ _ _ _ _ hd hn ha hi k
theorem j_iald (hJ : gCl own cc ret ini call J P) {pc nx n a : Nat} {f : Nat → Int32} (j : Nat) {i : Int32} {ls : GL} {st : List Value} {h : GH} {e : GE} (hd : decode cc pc = .ok (.iaload, 1)) (hn : pc + 1 = nx) (ha : h a = some (gia n f)) (hi : i = nI j) (hj : j < n) (hb : n < 2 ^ 31) (k : J nx ls (.int (f j) :: st) h e) : J pc ls (.int i :: .ref a :: st) h e := by
  subst hi
  refine j_iald0 hJ hd hn ha (vp_in_nI hj hb) ?_
  rw [nI_clamp (by omega)]
  exact k
theorem j_iast0 (hJ : gCl own cc ret ini call J P) {pc nx n a : Nat} {f : Nat → Int32} {i x : Int32} {ls : GL} {st : List Value} {h : GH} {e : GE} (hd : decode cc pc = .ok (.iastore, 1)) (hn : pc + 1 = nx) (ha : h a = some (gia n f)) (hi : vp_in i n) (k : J nx ls st (gup h a (gia n (upd f i.toNatClampNeg x))) e) : J pc ls (.int x :: .int i :: .ref a :: st) h e := hJ 18 _ _ _ _ _ _ _ _ _ _ _ hd hn ha hi k
theorem j_iast (hJ : gCl own cc ret ini call J P) {pc nx n a : Nat} {f : Nat → Int32} (j : Nat) {i x : Int32} {ls : GL} {st : List Value} {h : GH} {e : GE} (hd : decode cc pc = .ok (.iastore, 1)) (hn : pc + 1 = nx) (ha : h a = some (gia n f)) (hi : i = nI j) (hj : j < n) (hb : n < 2 ^ 31) (k : J nx ls st (gup h a (gia n (upd f j x))) e) : J pc ls (.int x :: .int i :: .ref a :: st) h e := by
  subst hi
  refine j_iast0 hJ hd hn ha (vp_in_nI hj hb) ?_
  rw [nI_clamp (by omega)]
  exact k
theorem j_lald (hJ : gCl own cc ret ini call J P) {pc nx n a : Nat} {f : Nat → Int64} (j : Nat) {i : Int32} {ls : GL} {st : List Value} {h : GH} {e : GE} (hd : decode cc pc = .ok (.laload, 1)) (hn : pc + 1 = nx) (ha : h a = some (gla n f)) (hi : i = nI j) (hj : j < n) (hb : n < 2 ^ 31) (k : J nx ls (.long (f j) :: st) h e) : J pc ls (.int i :: .ref a :: st) h e := by
  subst hi
  refine hJ 19 _ _ _ _ _ _ _ _ _ _ hd hn ha (vp_in_nI hj hb) ?_
  rw [nI_clamp (by omega)]
  exact k
theorem j_last (hJ : gCl own cc ret ini call J P) {pc nx n a : Nat} {f : Nat → Int64} (j : Nat) {i : Int32} {x : Int64} {ls : GL} {st : List Value} {h : GH} {e : GE} (hd : decode cc pc = .ok (.lastore, 1)) (hn : pc + 1 = nx) (ha : h a = some (gla n f)) (hi : i = nI j) (hj : j < n) (hb : n < 2 ^ 31) (k : J nx ls st (gup h a (gla n (vp_updL f j x))) e) : J pc ls (.long x :: .int i :: .ref a :: st) h e := by
  subst hi
  refine hJ 20 _ _ _ _ _ _ _ _ _ _ _ hd hn ha (vp_in_nI hj hb) ?_
  rw [nI_clamp (by omega)]
  exact k
theorem j_aald (hJ : gCl own cc ret ini call J P) {pc nx t n a b : Nat} {f : Nat → Option Nat} (j : Nat) {i : Int32} {ls : GL} {st : List Value} {h : GH} {e : GE} (hd : decode cc pc = .ok (.aaload, 1)) (hn : pc + 1 = nx) (ha : h a = some (gra t n f)) (hi : i = nI j) (hj : j < n) (hb : n < 2 ^ 31) (ht : t = 2 ∨ t = 4) (hf : f j = some b) (k : J nx ls (.ref b :: st) h e) : J pc ls (.int i :: .ref a :: st) h e := by
  subst hi
  refine hJ 21 _ _ _ _ _ _ _ _ _ _ _ hd hn ha (vp_in_nI hj hb) ht ?_
  rw [nI_clamp (by omega), hf]
  exact k
theorem j_aast (hJ : gCl own cc ret ini call J P) {pc nx t n a v : Nat} {vs : List Value} {f : Nat → Option Nat} (j : Nat) {i : Int32} {ls : GL} {st : List Value} {h : GH} {e : GE} (hd : decode cc pc = .ok (.aastore, 1)) (hn : pc + 1 = nx) (ha : h a = some (gra t n f)) (hv : h v = some (gob t vs)) (hi : i = nI j) (hj : j < n) (hb : n < 2 ^ 31) (ht : t = 2 ∨ t = 4) (k : J nx ls st (gup h a (gra t n (va_up f j (some v)))) e) : J pc ls (.ref v :: .int i :: .ref a :: st) h e := by
  subst hi
  refine hJ 22 _ _ _ _ _ _ _ _ _ _ _ _ _ hd hn ha hv (vp_in_nI hj hb) ht ?_
  rw [nI_clamp (by omega)]
  exact k
theorem j_len (hJ : gCl own cc ret ini call J P) {pc nx n a : Nat} {f : Nat → Int32} {ls : GL} {st : List Value} {h : GH} {e : GE} (hd : decode cc pc = .ok (.arraylength, 1)) (hn : pc + 1 = nx) (ha : h a = some (gia n f)) (k : J nx ls (.int (nI n) :: st) h e) : J pc ls (.ref a :: st) h e := hJ 23 _ _ _ _ _ _ _ _ _ hd hn ha rfl (fun _ _ _ q => by cases q) k
theorem j_lenR (hJ : gCl own cc ret ini call J P) {pc nx t n a : Nat} {f : Nat → Option Nat} {ls : GL} {st : List Value} {h : GH} {e : GE} (hd : decode cc pc = .ok (.arraylength, 1)) (hn : pc + 1 = nx) (ha : h a = some (gra t n f)) (ht : t = 2 ∨ t = 4) (k : J nx ls (.int (nI n) :: st) h e) : J pc ls (.ref a :: st) h e := hJ 23 _ _ _ _ _ _ _ _ _ hd hn ha rfl (fun _ _ _ q => by cases q; exact ht) k
theorem j_acp (hJ : gCl own cc ret ini call J P) {pc idx nx a0 a n0 n1 : Nat} {f g : Nat → Int32} (s t m : Nat) {sp dp n : Int32} {ls : GL} {st : List Value} {h : GH} {e : GE} (hd : decode cc pc = .ok (.invokestatic idx, 3)) (hn : pc + 3 = nx) (hw : Cond.methodLink own idx arraycopyName ∈ lw_tbl) (hc : gcat st ≤ 8) (h0 : h a0 = some (gia n0 f)) (h1 : h a = some (gia n1 g)) (es : sp = nI s) (et : dp = nI t) (em : n = nI m) (b0 : s + m ≤ n0) (b1 : t + m ≤ n1) (c0 : n0 < 2 ^ 31) (c1 : n1 < 2 ^ 31)
    (k : J nx ls st (gup h a (gia n1 (va_cpy f g s t m))) (e.1, e.2.1, e.2.2.1, false)) : J pc ls (.int n :: .int dp :: .ref a :: .int sp :: .ref a0 :: st) h e := by
  subst es et em
  refine hJ 35 _ _ _ _ _ _ _ _ _ _ _ _ _ _ _ _ hd hn hw hc h0 h1 (nI_pos (by omega)) (nI_pos (by omega)) (nI_pos (by omega)) (by rw [nI_clamp (by omega), nI_clamp (by omega)]; exact b0) (by rw [nI_clamp (by omega), nI_clamp (by omega)]; exact b1) ?_
  rw [nI_clamp (show s < 2 ^ 31 by omega), nI_clamp (show t < 2 ^ 31 by omega), nI_clamp (show m < 2 ^ 31 by omega)]
  exact k
theorem j_max (hJ : gCl own cc ret ini call J P) {pc idx nx : Nat} {x y : Int32} {ls : GL} {st : List Value} {h : GH} {e : GE} (hd : decode cc pc = .ok (.invokestatic idx, 3)) (hn : pc + 3 = nx) (hw : Cond.methodLink own idx Lib.Math.max.name ∈ lw_tbl) (hc : gcat st ≤ 8) (k : J nx ls (.int (if x < y then y else x) :: st) h e) : J pc ls (.int y :: .int x :: st) h e := hJ 45 _ _ _ _ _ _ _ _ _ hd hn hw hc k
theorem j_min (hJ : gCl own cc ret ini call J P) {pc idx nx : Nat} {x y : Int32} {ls : GL} {st : List Value} {h : GH} {e : GE} (hd : decode cc pc = .ok (.invokestatic idx, 3)) (hn : pc + 3 = nx) (hw : Cond.methodLink own idx Lib.Math.min.name ∈ lw_tbl) (hc : gcat st ≤ 8) (k : J nx ls (.int (if y < x then y else x) :: st) h e) : J pc ls (.int y :: .int x :: st) h e := hJ 46 _ _ _ _ _ _ _ _ _ hd hn hw hc k
end GROW
section GROWR
variable {own : String} {cc : ByteArray} {ret : Option FieldType} {ini : Bool} {call : CT} {J : JT} {n : Nat} {fl : Bool} {P : Option Value → GH → Prop}
theorem j_iret (hJ : gCl own cc (some .int) ini call J (fun r h' e' => e' = (n, 0, 0, fl) ∧ P r h')) {pc : Nat} {v : Int32} {ls : GL} {h : GH} (hd : decode cc pc = .ok (.ireturn, 1)) (hP : P (some (.int v)) h) : J pc ls [.int v] h (n, 0, 0, fl) := hJ 36 _ _ _ _ _ hd ⟨.int, rfl, rfl⟩ ⟨rfl, hP⟩
theorem j_zret (hJ : gCl own cc (some .boolean) ini call J (fun r h' e' => e' = (n, 0, 0, fl) ∧ P r h')) {pc : Nat} (b : Bool) {v : Int32} {ls : GL} {h : GH} (hd : decode cc pc = .ok (.ireturn, 1)) (hv : v = gb b) (hP : P (some (.int (gb b))) h) : J pc ls [.int v] h (n, 0, 0, fl) := by
  subst hv
  exact hJ 36 _ _ _ _ _ hd ⟨.boolean, rfl, gb_nar b⟩ ⟨rfl, hP⟩
theorem j_lret (hJ : gCl own cc (some .long) ini call J (fun r h' e' => e' = (n, 0, 0, fl) ∧ P r h')) {pc : Nat} {v : Int64} {ls : GL} {h : GH} (hd : decode cc pc = .ok (.lreturn, 1)) (hP : P (some (.long v)) h) : J pc ls [.long v] h (n, 0, 0, fl) := hJ 37 _ _ _ _ _ hd rfl ⟨rfl, hP⟩
theorem j_vret (hJ : gCl own cc none ini call J (fun r h' e' => e' = (n, 0, 0, fl) ∧ P r h')) {pc : Nat} {ls : GL} {h : GH} (hd : decode cc pc = .ok (.return_, 1)) (hP : P none h) : J pc ls [] h (n, 0, 0, fl) := hJ 38 _ _ _ _ hd rfl ⟨rfl, hP⟩
end GROWR
section GROWC
variable {own : String} {cc : ByteArray} {ret : Option FieldType} {ini : Bool} {d : Nat} {J : JT} {P : RT} {Pc : Option Value → GH → Prop}
theorem j_cv (hJ : gCl own cc ret ini (gRuns d) J P) {pc idx nx t a n bc bs : Nat} {fl : Bool} {fs : List Value} {y : MethodName} {As : List Value} {ls : GL} {st st0 : List Value} {h : GH} (hd : decode cc pc = .ok (.invokevirtual idx, 3)) (hn : pc + 3 = nx) (hc : gN fl d y (.ref a :: As) h Pc) (hM : gMV own idx y As.length) (ha : h a = some (gob t fs)) (ht : (vwCl[t]?).map (fun q => q.1) = some y.cls) (hst : st0 = As.reverse ++ .ref a :: st) (hcat : gcat st ≤ 8)
    (kk : ∀ r h', Pc r h' → J nx ls (r.toList ++ st) h' (n, bc, bs, fl)) : J pc ls st0 h (n, bc, bs, fl) := by
  refine hJ 28 _ _ _ _ _ 0 0 _ _ _ _ _ _ _ _ hd hn hM ha ht hcat hst (Nat.zero_le _) (Nat.zero_le _) (gRuns_post (hc n) (fun r h' e' q => ?_))
  obtain ⟨rfl, q2⟩ := q
  exact kk r h' q2
theorem j_cvR (hJ : gCl own cc ret ini (gRuns d) J P) {pc idx nx t a n bc bs : Nat} {fl : Bool} {fs : List Value} {y : MethodName} {As : List Value} {v : Value} {ls : GL} {st st0 : List Value} {h : GH} (hd : decode cc pc = .ok (.invokevirtual idx, 3)) (hn : pc + 3 = nx) (hc : gR fl d y (.ref a :: As) h v) (hM : gMV own idx y As.length) (ha : h a = some (gob t fs)) (ht : (vwCl[t]?).map (fun q => q.1) = some y.cls) (hst : st0 = As.reverse ++ .ref a :: st) (hcat : gcat st ≤ 8)
    (kk : J nx ls (v :: st) h (n, bc, bs, fl)) : J pc ls st0 h (n, bc, bs, fl) :=
  j_cv hJ hd hn hc hM ha ht hst hcat (fun r h' q => by obtain ⟨rfl, rfl⟩ := q; exact kk)
theorem j_cs (hJ : gCl own cc ret ini (gRuns d) J P) {pc idx nx n bc bs : Nat} {fl : Bool} {y : MethodName} {As : List Value} {ls : GL} {st st0 : List Value} {h : GH} (hd : decode cc pc = .ok (.invokestatic idx, 3)) (hn : pc + 3 = nx) (hc : gN fl d y As h Pc) (hM : gMS own idx y As.length) (hst : st0 = As.reverse ++ st) (hcat : gcat st ≤ 8)
    (kk : ∀ r h', Pc r h' → J nx ls (r.toList ++ st) h' (n, bc, bs, fl)) : J pc ls st0 h (n, bc, bs, fl) := by
  refine hJ 30 _ _ _ 0 0 _ _ _ _ _ _ _ hd hn hM hcat hst (Nat.zero_le _) (Nat.zero_le _) (gRuns_post (hc n) (fun r h' e' q => ?_))
  obtain ⟨rfl, q2⟩ := q
  exact kk r h' q2
theorem j_csR (hJ : gCl own cc ret ini (gRuns d) J P) {pc idx nx n bc bs : Nat} {fl : Bool} {y : MethodName} {As : List Value} {v : Value} {ls : GL} {st st0 : List Value} {h : GH} (hd : decode cc pc = .ok (.invokestatic idx, 3)) (hn : pc + 3 = nx) (hc : gR fl d y As h v) (hM : gMS own idx y As.length) (hst : st0 = As.reverse ++ st) (hcat : gcat st ≤ 8)
    (kk : J nx ls (v :: st) h (n, bc, bs, fl)) : J pc ls st0 h (n, bc, bs, fl) :=
  j_cs hJ hd hn hc hM hst hcat (fun r h' q => by obtain ⟨rfl, rfl⟩ := q; exact kk)
theorem j_csNR (hJ : gCl own cc ret ini (gRuns d) J P) {pc idx nx n bc bs : Nat} {fl : Bool} {y : MethodName} {As : List Value} {v : Value} {ls : GL} {st st0 : List Value} {h : GH} (hd : decode cc pc = .ok (.invokestatic idx, 3)) (hn : pc + 3 = nx) (hc : gR fl d y As h v) (hM : gMSN own idx y As.length) (hst : st0 = As.reverse ++ st) (hcat : gcat st ≤ 8)
    (kk : J nx ls (v :: st) h (n, bc, bs, fl)) : J pc ls st0 h (n, bc, bs, fl) := by
  refine hJ 31 _ _ _ 0 0 _ _ _ _ _ _ _ hd hn hM hcat hst (Nat.zero_le _) (Nat.zero_le _) (gRuns_post (hc n) (fun r h' e' q => ?_))
  obtain ⟨rfl, rfl, rfl⟩ := q
  exact kk
theorem j_cvS (hJ : gCl own cc ret ini (gRuns d) J P) {pc idx nx i n bc bs : Nat} {fl : Bool} {y : MethodName} {As : List Value} {v : Value} {ls : GL} {st st0 : List Value} {h : GH} (hd : decode cc pc = .ok (.invokevirtual idx, 3)) (hn : pc + 3 = nx) (hc : gR fl d y (.ref (1000000 + i) :: As) h v) (hM : gMV own idx y As.length) (hi : i < 5) (hy : y.cls = "java/lang/String") (hst : st0 = As.reverse ++ .ref (1000000 + i) :: st) (hcat : gcat st ≤ 8)
    (kk : J nx ls (v :: st) h (n, bc, bs, fl)) : J pc ls st0 h (n, bc, bs, fl) := by
  refine hJ 29 _ _ _ _ 0 0 _ _ _ _ _ _ _ hd hn hM hi hy hcat hst (Nat.zero_le _) (Nat.zero_le _) (gRuns_post (hc n) (fun r h' e' q => ?_))
  obtain ⟨rfl, rfl, rfl⟩ := q
  exact kk
theorem gle8 {st : List Value} (h : Nat.ble (gcat st) 8 = true) : gcat st ≤ 8 := Nat.le_of_ble_eq_true h
end GROWC
