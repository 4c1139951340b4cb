def gisR (r : Nat) : Prop := (r % 2 = 1 ∧ (5 ≤ r ∧ r ≤ 35 ∨ 41 ≤ r ∧ r ≤ 73 ∨ 81 ≤ r ∧ r ≤ 85)) ∨ (r % 3 = 1 ∧ 88 ≤ r ∧ r ≤ 97)
def gcp (r : Nat) : Nat := if r = 73 then 20 else if 88 ≤ r then 40 else 8
theorem gcp8 {r : Nat} (h : r ≠ 73) (h2 : r < 88) : gcp r = 8 := by unfold gcp; rw [if_neg h, if_neg (by omega)]
def gU {α : Type} (R : Nat → α) (r : Nat) (l : α) : Nat → α := fun a => if a = r then l else R a
theorem gU_s {α : Type} (R : Nat → α) (r : Nat) (l : α) : gU R r l r = l := by simp [gU]
theorem gU_n {α : Type} (R : Nat → α) {r a : Nat} (l : α) (h : a ≠ r) : gU R r l a = R a := by simp [gU, h]
/-- the class's cells: the rows R (by their addresses), the numbers N -/
def gK (h : GH) (R : Nat → List Int32) (N : Nat → Int32) : Prop :=
  h 0 = some (gob 5 [.ref 1, .ref 37, .int (N 0), .ref 73, .ref 75, .ref 76, .ref 80, .ref 83, .ref 85]) ∧ gBn h 1 (N 1) (N 2) ∧ gBn h 37 (N 37) (N 38) ∧ h 75 = some (gra 4 4 (fun i => some (87 + 3 * i))) ∧ (∀ i, i < 4 → h (87 + 3 * i) = some (gob 4 [.int (N (87 + 3 * i)), .ref (88 + 3 * i)])) ∧ (h 80 = some (gob 3 [.ref 126, .ref 81, .int (N 80), .int (N 81), .int (N 82)]) ∧ gMXS h) ∧ gMX h ∧ ∀ r, gisR r → gRow h r (r + 1) (gcp r) (R r)
/-- the same, with the cells from 99 to 125 as in h0 -/
def gQ (h0 h : GH) (R : Nat → List Int32) (N : Nat → Int32) : Prop := gK h R N ∧ ∀ a, 99 ≤ a ∧ a < 126 → h a = h0 a
theorem gQ.rf {h : GH} {R : Nat → List Int32} {N : Nat → Int32} (hK : gK h R N) : gQ h h R N := ⟨hK, fun _ _ => rfl⟩
theorem gQ.r {h0 h : GH} {R : Nat → List Int32} {N : Nat → Int32} (hQ : gQ h0 h R N) {r : Nat} (hr : gisR r) : gRow h r (r + 1) (gcp r) (R r) := hQ.1.2.2.2.2.2.2.2 r hr
theorem gQ.r8 {h0 h : GH} {R : Nat → List Int32} {N : Nat → Int32} (hQ : gQ h0 h R N) {r : Nat} (hr : gisR r) (h1 : r ≠ 73) (h2 : r < 88) : gRow h r (r + 1) 8 (R r) := gcp8 h1 h2 ▸ hQ.r hr
theorem gQ.rw {h0 h : GH} {R R' : Nat → List Int32} {N N' : Nat → Int32} (hQ : gQ h0 h R N) (e1 : ∀ a, R a = R' a) (e2 : ∀ a, N a = N' a) : gQ h0 h R' N' := by
  rw [← funext e1, ← funext e2]; exact hQ
theorem gQ.row {h0 h h' : GH} {R : Nat → List Int32} {N : Nat → Int32} (hQ : gQ h0 h R N) {r : Nat} {l : List Int32} (hr : gisR r) (hl : gRow h' r (r + 1) (gcp r) l) (hF : gFr r (r + 1) h h') : gQ h0 h' (gU R r l) N := by
  obtain ⟨⟨k1, k2, k3, k4, k5, k6, k7, k8⟩, hi⟩ := hQ
  have hr2 := hr
  unfold gisR at hr2
  refine ⟨⟨(hF 0 (by omega) (by omega)).trans k1, k2.fo (c := r) (e := r + 2) (fun a p => hF a (by omega) (by omega)) (by omega), k3.fo (c := r) (e := r + 2) (fun a p => hF a (by omega) (by omega)) (by omega), (hF 75 (by omega) (by omega)).trans k4, fun i hi => (hF _ (by omega) (by omega)).trans (k5 i hi), ⟨(hF 80 (by omega) (by omega)).trans k6.1, k6.2.fr (fun a p => hF a (by unfold gOmS at p; omega) (by unfold gOmS at p; omega))⟩, k7.fr (fun a p => hF a (by unfold gOm at p; omega) (by unfold gOm at p; omega)), fun s hs => ?_⟩, fun a p => (hF a (by omega) (by omega)).trans (hi a p)⟩
  by_cases e : s = r
  · subst e; rw [gU_s]; exact hl
  · rw [gU_n _ _ e]
    have hs2 := hs
    unfold gisR at hs2
    exact (k8 s hs).fr hF (by omega) (by omega) (by omega) (by omega)
theorem gQ.row8 {h0 h h' : GH} {R : Nat → List Int32} {N : Nat → Int32} (hQ : gQ h0 h R N) {r : Nat} {l : List Int32} (hr : gisR r) (h1 : r ≠ 73) (h2 : r < 88) (hl : gRow h' r (r + 1) 8 l) (hF : gFr r (r + 1) h h') : gQ h0 h' (gU R r l) N := hQ.row hr (by rw [gcp8 h1 h2]; exact hl) hF
theorem gQ.mat {h0 h h' : GH} {R : Nat → List Int32} {N : Nat → Int32} (hQ : gQ h0 h R N) (hX : gMX h') (hF : gFm h h') : gQ h0 h' R N := by
  obtain ⟨⟨k1, k2, k3, k4, k5, k6, k7, k8⟩, hi⟩ := hQ
  have hF2 : ∀ a, a < 76 ∨ 80 ≤ a → h' a = h a := fun a p => hF a (by unfold gOm; omega)
  refine ⟨⟨(hF2 0 (by omega)).trans k1, k2.fo (c := 76) (e := 80) (fun a p => hF2 a (by omega)) (by omega), k3.fo (c := 76) (e := 80) (fun a p => hF2 a (by omega)) (by omega), (hF2 75 (by omega)).trans k4, fun i hi => (hF2 _ (by omega)).trans (k5 i hi), ⟨(hF2 80 (by omega)).trans k6.1, k6.2.fr (fun a p => hF2 a (by unfold gOmS at p; omega))⟩, hX, fun s hs => ?_⟩, fun a p => (hF2 a (by omega)).trans (hi a p)⟩
  have hs2 := hs
  unfold gisR at hs2
  exact (k8 s hs).fm hF (by unfold gOm; omega) (by unfold gOm; omega)
theorem gQ.cell {h0 h : GH} {R : Nat → List Int32} {N : Nat → Int32} (hQ : gQ h0 h R N) (N' : Nat → Int32) (k : Nat) (c : GC) (hk : k = 0 ∨ k = 1 ∨ k = 87 ∨ k = 90 ∨ k = 93 ∨ k = 96)
    (e0 : k = 0 → c = gob 5 [.ref 1, .ref 37, .int (N' 0), .ref 73, .ref 75, .ref 76, .ref 80, .ref 83, .ref 85]) (e1 : k = 1 → c = gob 0 [.int (N' 1), .ref 2, .ref 3, .ref 4, .int (N' 2)]) (e2 : ∀ i, i < 4 → k = 87 + 3 * i → c = gob 4 [.int (N' (87 + 3 * i)), .ref (88 + 3 * i)])
    (f0 : k ≠ 0 → N' 0 = N 0) (f1 : k ≠ 1 → N' 1 = N 1 ∧ N' 2 = N 2) (f2 : ∀ i, i < 4 → k ≠ 87 + 3 * i → N' (87 + 3 * i) = N (87 + 3 * i)) (f3 : N' 37 = N 37 ∧ N' 38 = N 38) (f4 : N' 80 = N 80 ∧ N' 81 = N 81 ∧ N' 82 = N 82) : gQ h0 (gup h k c) R N' := by
  obtain ⟨⟨k1, k2, k3, k4, k5, k6, k7, k8⟩, hi⟩ := hQ
  refine ⟨⟨?_, ?_, ?_, ?_, ?_, ?_, ?_, ?_⟩, fun a p => (gup_ne _ _ (by omega)).trans (hi a p)⟩
  · by_cases q : k = 0
    · rw [e0 q, q, gup_same]
    · rw [gup_ne _ _ (Ne.symm q), f0 q]; exact k1
  · by_cases q : k = 1
    · rw [e1 q, q]; exact k2.up _ _
    · rw [(f1 q).1, (f1 q).2]
      exact k2.fo (c := k) (e := k + 1) (fun a p => gup_ne _ _ (by omega)) (by omega)
  · rw [f3.1, f3.2]; exact k3.fo (c := k) (e := k + 1) (fun a p => gup_ne _ _ (by omega)) (by omega)
  · rw [gup_ne _ _ (by omega)]; exact k4
  · intro i hi
    by_cases q : k = 87 + 3 * i
    · rw [e2 i hi q, q, gup_same]
    · rw [gup_ne _ _ (Ne.symm q), f2 i hi q]; exact k5 i hi
  · rw [f4.1, f4.2.1, f4.2.2]; exact ⟨(gup_ne _ _ (by omega)).trans k6.1, k6.2.fr (fun a p => gup_ne _ _ (by unfold gOmS at p; omega))⟩
  · exact k7.fr (fun a p => gup_ne _ _ (by unfold gOm at p; omega))
  · intro s hs
    have hs2 := hs
    unfold gisR at hs2
    exact (k8 s hs).fr (r2 := k) (q2 := k) (fun a p _ => gup_ne _ _ p) (by omega) (by omega) (by omega) (by omega)
theorem gQ.sn {h0 h : GH} {R : Nat → List Int32} {N : Nat → Int32} (hQ : gQ h0 h R N) (v : Int32) : gQ h0 (gup h 0 (gob 5 [.ref 1, .ref 37, .int v, .ref 73, .ref 75, .ref 76, .ref 80, .ref 83, .ref 85])) R (gU N 0 v) :=
  hQ.cell _ 0 _ (by omega) (fun _ => rfl) (fun q => by omega) (fun i hi q => by omega) (fun q => absurd rfl q) (fun _ => ⟨rfl, rfl⟩) (fun i hi q => gU_n _ _ (by omega)) ⟨rfl, rfl⟩ ⟨rfl, rfl, rfl⟩
theorem gQ.ss {h0 h : GH} {R : Nat → List Int32} {N : Nat → Int32} (hQ : gQ h0 h R N) (v : Int32) : gQ h0 (gup h 1 (gob 0 [.int (N 1), .ref 2, .ref 3, .ref 4, .int v])) R (gU N 2 v) :=
  hQ.cell _ 1 _ (by omega) (fun q => by omega) (fun _ => rfl) (fun i hi q => by omega) (fun _ => rfl) (fun q => absurd rfl q) (fun i hi q => gU_n _ _ (by omega)) ⟨rfl, rfl⟩ ⟨rfl, rfl, rfl⟩
theorem gQ.ty {h0 h : GH} {R : Nat → List Int32} {N : Nat → Int32} (hQ : gQ h0 h R N) {i : Nat} (hi : i < 4) (v : Int32) : gQ h0 (gup h (87 + 3 * i) (gob 4 [.int v, .ref (88 + 3 * i)])) R (gU N (87 + 3 * i) v) :=
  hQ.cell _ (87 + 3 * i) _ (by omega) (fun q => by omega) (fun q => by omega) (fun j hj q => by rw [show j = i by omega, gU_s]) (fun _ => gU_n _ _ (by omega)) (fun _ => ⟨gU_n _ _ (by omega), gU_n _ _ (by omega)⟩) (fun j hj q => gU_n _ _ (by omega)) ⟨gU_n _ _ (by omega), gU_n _ _ (by omega)⟩ ⟨gU_n _ _ (by omega), gU_n _ _ (by omega), gU_n _ _ (by omega)⟩
def gUb (R : Nat → List Int32) (b : Nat) (P I W : Nat → List Int32) : Nat → List Int32 := fun a => if b + 4 ≤ a ∧ a < b + 16 then P ((a - b - 4) / 2) else if b + 16 ≤ a ∧ a < b + 24 then I ((a - b - 16) / 2) else if b + 24 ≤ a ∧ a < b + 36 then W ((a - b - 24) / 2) else R a
theorem gQ.BR {h0 h : GH} {R : Nat → List Int32} {N : Nat → Int32} (hQ : gQ h0 h R N) {b : Nat} (hb : b = 1 ∨ b = 37) : gBR h b (fun i => R (b + 4 + 2 * i)) (fun i => R (b + 16 + 2 * i)) (fun i => R (b + 24 + 2 * i)) :=
  ⟨fun i hi => hQ.r8 (by unfold gisR; omega) (by omega) (by omega), fun i hi => hQ.r8 (by unfold gisR; omega) (by omega) (by omega), fun i hi => hQ.r8 (by unfold gisR; omega) (by omega) (by omega)⟩
theorem gQ.ben {h0 h h' : GH} {R : Nat → List Int32} {N : Nat → Int32} (hQ : gQ h0 h R N) {b : Nat} (hb : b = 1 ∨ b = 37) {P I W : Nat → List Int32} {k s : Int32} (hB : gBn h' b k s) (hR : gBR h' b P I W) (hF : gFo b (b + 36) h h') : gQ h0 h' (gUb R b P I W) (gU (gU N b k) (b + 1) s) := by
  obtain ⟨⟨k1, k2, k3, k4, k5, k6, k7, k8⟩, hi⟩ := hQ
  refine ⟨⟨?_, ?_, ?_, (hF 75 (by omega)).trans k4, ?_, ?_, k7.fr (fun a p => hF a (by unfold gOm at p; omega)), fun r hr => ?_⟩, fun a p => (hF a (by omega)).trans (hi a p)⟩
  · rw [gU_n _ _ (by omega), gU_n _ _ (by omega)]; exact (hF 0 (by omega)).trans k1
  · rcases hb with rfl | rfl
    · exact hB
    · exact k2.fo hF (by omega)
  · rcases hb with rfl | rfl
    · exact k3.fo hF (by omega)
    · exact hB
  · intro i hi
    rw [gU_n _ _ (by omega), gU_n _ _ (by omega)]
    exact (hF _ (by omega)).trans (k5 i hi)
  · rw [gU_n _ _ (by omega), gU_n _ _ (by omega), gU_n _ _ (by omega), gU_n _ _ (by omega), gU_n _ _ (by omega), gU_n _ _ (by omega)]
    exact ⟨(hF 80 (by omega)).trans k6.1, k6.2.fr (fun a p => hF a (by unfold gOmS at p; omega))⟩
  · have hr2 := hr
    unfold gisR at hr2
    unfold gUb
    split
    · next q =>
      have h1 := hR.1 ((r - b - 4) / 2) (by omega)
      rw [show b + 4 + 2 * ((r - b - 4) / 2) = r by omega] at h1
      rw [gcp8 (by omega) (by omega)]; exact h1
    · split
      · next q =>
        have h1 := hR.2.1 ((r - b - 16) / 2) (by omega)
        rw [show b + 16 + 2 * ((r - b - 16) / 2) = r by omega] at h1
        rw [gcp8 (by omega) (by omega)]; exact h1
      · split
        · next q =>
          have h1 := hR.2.2 ((r - b - 24) / 2) (by omega)
          rw [show b + 24 + 2 * ((r - b - 24) / 2) = r by omega] at h1
          rw [gcp8 (by omega) (by omega)]; exact h1
        · exact (k8 r hr).fo hF (by omega)
theorem gsurj (x : Int32) : ∃ n, x = nI n := ⟨x.toBitVec.toNat, by
  unfold nI
  rw [← Int32.toBitVec_inj]
  show x.toBitVec = BitVec.ofNat 32 x.toBitVec.toNat
  simp⟩
theorem gQ.sv {h0 h : GH} {R : Nat → List Int32} {N : Nat → Int32} (hQ : gQ h0 h R N) {k ss : Nat} (hk : N 1 = nI k) (hs : N 2 = nI ss) : ∃ g V, gSv h k ss (fun i => R (25 + 2 * i)) g V (N 82) (R 81) := by
  obtain ⟨g, hg⟩ := gsurj (N 80)
  obtain ⟨V, hV⟩ := gsurj (N 81)
  refine ⟨g, V, by rw [← hg, ← hV]; exact hQ.1.2.2.2.2.2.1.1, by rw [← hk, ← hs]; exact hQ.1.2.1, (hQ.BR (b := 1) (by omega)).2.2, hQ.1.2.2.2.2.2.1.2, hQ.r8 (by unfold gisR; omega) (by omega) (by omega)⟩
theorem gQ.ofSv {h0 h h' : GH} {R : Nat → List Int32} {N : Nat → Int32} (hQ : gQ h0 h R N) {k ss g V : Nat} {W : Nat → List Int32} {mode : Int32} {c : List Int32} (hS : gSv h' k ss W g V mode c) (hF : gFq h h') : gQ h0 h' (gU R 81 c) (gU (gU (gU N 80 (nI g)) 81 (nI V)) 82 mode) := by
  obtain ⟨⟨k1, k2, k3, k4, k5, k6, k7, k8⟩, hi⟩ := hQ
  have hF2 : ∀ a, (a < 80 ∨ 83 ≤ a) ∧ (a < 126 ∨ 130 ≤ a) → h' a = h a := fun a p => hF a (by unfold gOmS; omega) (by omega) (by omega) (by omega)
  refine ⟨⟨(hF2 0 (by omega)).trans k1, k2.fo (c := 80) (e := 130) (fun a p => hF2 a (by omega)) (by omega), k3.fo (c := 80) (e := 130) (fun a p => hF2 a (by omega)) (by omega), (hF2 75 (by omega)).trans k4, fun i hi => ?_, ⟨hS.1, hS.2.2.2.1⟩, k7.fr (fun a p => hF2 a (by unfold gOm at p; omega)), fun r hr => ?_⟩, fun a p => (hF2 a (by omega)).trans (hi a p)⟩
  · rw [gU_n _ _ (by omega), gU_n _ _ (by omega), gU_n _ _ (by omega)]
    exact (hF2 _ (by omega)).trans (k5 i hi)
  · by_cases e : r = 81
    · subst e; rw [gU_s]; exact hS.2.2.2.2
    · rw [gU_n _ _ e]
      have hr2 := hr
      unfold gisR at hr2
      obtain ⟨r1, r2, r3, r4, f9, r5, r6⟩ := k8 r hr
      exact ⟨r1, r2, r3, (hF2 r (by omega)).trans r4, f9, (hF2 (r + 1) (by omega)).trans r5, r6⟩
/-- what a public call leaves: the scratch rows and the search's numbers don't matter -/
def gC (h0 h : GH) (R : Nat → List Int32) (N : Nat → Int32) : Prop := ∃ R2 N2, gQ h0 h R2 N2 ∧ (∀ a, a ≠ 81 → a ≠ 83 → a ≠ 85 → R2 a = R a) ∧ ∀ i, i < 80 ∨ 82 < i → N2 i = N i
theorem gQ.c {h0 h : GH} {R : Nat → List Int32} {N : Nat → Int32} (hQ : gQ h0 h R N) : gC h0 h R N := ⟨R, N, hQ, fun _ _ _ _ => rfl, fun _ _ => rfl⟩
theorem gQ.cc {h0 h : GH} {R R' : Nat → List Int32} {N N' : Nat → Int32} (hQ : gQ h0 h R N) (e : ∀ a, a ≠ 81 → a ≠ 83 → a ≠ 85 → R a = R' a) (f : ∀ i, i < 80 ∨ 82 < i → N i = N' i) : gC h0 h R' N' := ⟨R, N, hQ, e, f⟩
