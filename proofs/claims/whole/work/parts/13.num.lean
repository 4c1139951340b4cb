/-! ===== numbers; a row of the class ===== -/
theorem gnle {a b : Nat} (ha : a < 2 ^ 31) (hb : b < 2 ^ 31) : nI a ≤ nI b ↔ a ≤ b := by
  rw [Int32.le_iff_toInt_le, nI_toInt ha, nI_toInt hb]; omega
theorem gnlt {a b : Nat} (ha : a < 2 ^ 31) (hb : b < 2 ^ 31) : nI a < nI b ↔ a < b := by
  rw [Int32.lt_iff_toInt_lt, nI_toInt ha, nI_toInt hb]; omega
theorem gneq {a b : Nat} (ha : a < 2 ^ 31) (hb : b < 2 ^ 31) : nI a = nI b ↔ a = b := by
  rw [← Int32.toInt_inj, nI_toInt ha, nI_toInt hb]; omega
theorem gi1 (k : Nat) : nI k + Int32.ofInt 1 = nI (k + 1) := (nI_succ k).symm
theorem gadd (a b : Nat) : nI a + nI b = nI (a + b) := by
  unfold nI
  exact (Int32.ofNat_add a b).symm
theorem gsub {a b : Nat} (h : b ≤ a) : nI a - nI b = nI (a - b) := by
  have h1 := gadd (a - b) b
  rw [Nat.sub_add_cancel h] at h1
  rw [← h1, Int32.add_sub_cancel]
theorem gmul (a b : Nat) : nI a * nI b = nI (a * b) := by
  unfold nI
  exact (Int32.ofNat_mul a b).symm
theorem gcz0 {x : Int32} : x < 0 ↔ x.toInt < 0 := by rw [Int32.lt_iff_toInt_lt, Int32.toInt_zero]
/-- an int that is not negative is a small number -/
theorem gnat {x : Int32} (h : 0 ≤ x.toInt) : x = nI x.toInt.toNat := by
  have hb := x.toInt_lt
  have h1 : x.toInt.toNat < 2 ^ 31 := by
    simp at hb
    omega
  rw [← Int32.toInt_inj, nI_toInt h1]
  omega
theorem gnat_lt {x : Int32} : x.toInt.toNat < 2 ^ 31 := by
  have hb := x.toInt_lt
  simp at hb
  omega
def gat (l : List Int32) (i : Int32) : Int32 := if 0 ≤ i.toInt then l.getD i.toInt.toNat (-1) else -1
def gix (l : List Int32) (i : Int32) : Bool := decide (0 ≤ i.toInt ∧ i.toInt < (l.length : Int))
theorem gat_nI {l : List Int32} {k : Nat} (hk : k < 2 ^ 31) : gat l (nI k) = l.getD k (-1) := by
  unfold gat
  rw [nI_toInt hk, if_pos (by omega), Int.toNat_natCast]
def gRow (h : GH) (r q cap : Nat) (l : List Int32) : Prop := r ≠ q ∧ l.length ≤ cap ∧ cap ≤ 1000 ∧ h r = some (gob 2 [.ref q, .int (nI l.length)]) ∧ ∃ f : Nat → Int32, h q = some (gia cap f) ∧ ∀ (i : Nat) (v : Int32), l[i]? = some v → f i = v
/-- two heaps are alike but for two cells -/
def gFr (r q : Nat) (h h' : GH) : Prop := ∀ a, a ≠ r → a ≠ q → h' a = h a
theorem gFr.rf {r q : Nat} {h : GH} : gFr r q h h := fun _ _ _ => rfl
theorem gFr.tr {r q : Nat} {h h1 h2 : GH} (a : gFr r q h h1) (b : gFr r q h1 h2) : gFr r q h h2 := fun x p1 p2 => (b x p1 p2).trans (a x p1 p2)
theorem gRow.fr {h h' : GH} {r q r2 q2 cap : Nat} {l : List Int32} (hR : gRow h r q cap l) (hF : gFr r2 q2 h h') (h1 : r ≠ r2) (h2 : r ≠ q2) (h3 : q ≠ r2) (h4 : q ≠ q2) : gRow h' r q cap l := by
  obtain ⟨a1, a2, a3, a4, f, a5, a6⟩ := hR
  exact ⟨a1, a2, a3, by rw [hF r h1 h2]; exact a4, f, by rw [hF q h3 h4]; exact a5, a6⟩
theorem gix_t {l : List Int32} {i : Int32} (hl : l.length < 2 ^ 31) (h1 : ¬ i < 0) (h2 : ¬ nI l.length ≤ i) : gix l i = true := by
  rw [gcz0] at h1
  rw [Int32.le_iff_toInt_le, nI_toInt hl] at h2
  exact decide_eq_true ⟨by omega, by omega⟩
theorem gix_f1 {l : List Int32} {i : Int32} (h1 : i < 0) : gix l i = false := by
  rw [gcz0] at h1
  exact decide_eq_false (fun q => by omega)
theorem gix_f2 {l : List Int32} {i : Int32} {c : Nat} (hc : c < 2 ^ 31) (hl : l.length ≤ c) (h2 : nI c ≤ i) : gix l i = false := by
  rw [Int32.le_iff_toInt_le, nI_toInt hc] at h2
  exact decide_eq_false (fun q => by omega)
theorem gat_f {l : List Int32} {i : Int32} (h : gix l i = false) : gat l i = -1 := by
  unfold gat
  split
  · next h0 =>
    have h1 := of_decide_eq_false h
    rw [List.getD_eq_getElem?_getD, List.getElem?_eq_none (by omega)]
    rfl
  · rfl
theorem gix_spec {l : List Int32} {i : Int32} (h : gix l i = true) : ∃ k : Nat, i = nI k ∧ k < l.length ∧ gat l i = l.getD k (-1) := by
  have h1 := of_decide_eq_true h
  refine ⟨i.toInt.toNat, gnat h1.1, by omega, ?_⟩
  unfold gat
  rw [if_pos h1.1]
theorem grow_get {l : List Int32} {f : Nat → Int32} (hf : ∀ (i : Nat) (v : Int32), l[i]? = some v → f i = v) {k : Nat} (hk : k < l.length) (x : Int32) : f k = l.getD k x := by
  have h1 : l[k]? = some l[k] := List.getElem?_eq_getElem hk
  rw [hf k _ h1, List.getD_eq_getElem?_getD, h1]
  rfl
/-- a row whose items were written at k -/
theorem gRow.set {h : GH} {r q cap k : Nat} {l : List Int32} {f : Nat → Int32} (hrq : r ≠ q) (hl : l.length ≤ cap) (hc : cap ≤ 1000) (hr : h r = some (gob 2 [.ref q, .int (nI l.length)])) (hf : ∀ (i : Nat) (v : Int32), l[i]? = some v → f i = v) (x : Int32) :
    gRow (gup h q (gia cap (upd f k x))) r q cap (l.set k x) := by
  refine ⟨hrq, by rw [List.length_set]; exact hl, hc, ?_, upd f k x, gup_same _ _ _, fun i v hv => ?_⟩
  · rw [gup_ne _ _ hrq, List.length_set]; exact hr
  · unfold upd
    by_cases hik : i = k
    · subst hik
      rw [if_pos rfl]
      have hlt : i < l.length := by
        have := (List.getElem?_eq_some_iff.mp hv).1
        rwa [List.length_set] at this
      rw [List.getElem?_set_self hlt] at hv
      exact Option.some.inj hv
    · rw [if_neg hik]
      rw [List.getElem?_set_ne (fun q => hik q.symm)] at hv
      exact hf i v hv
theorem gup_fr (h : GH) (r q : Nat) (c : GC) : gFr r q h (gup h q c) := fun a _ h2 => gup_ne h c h2
theorem gup_fr' (h : GH) (r q : Nat) (c : GC) : gFr r q h (gup h r c) := fun a h1 _ => gup_ne h c h1
