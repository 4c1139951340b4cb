theorem gBn.lo {h h' : GH} {b : Nat} {k ss : Int32} (hB : gBn h b k ss) (e : ∀ a, b ≤ a → a < b + 4 → h' a = h a) : gBn h' b k ss :=
  ⟨(e b (by omega) (by omega)).trans hB.1, (e (b + 1) (by omega) (by omega)).trans hB.2.1, (e (b + 2) (by omega) (by omega)).trans hB.2.2.1, (e (b + 3) (by omega) (by omega)).trans hB.2.2.2⟩
theorem gK.lo {h h' : GH} {R : Nat → List Int32} {N : Nat → Int32} (hK : gK h R N) (e : ∀ a, a < 99 ∨ 126 ≤ a → h' a = h a) : gK h' R N := by
  obtain ⟨k1, k2, k3, k4, k5, ⟨k6, ⟨gs, gz, gu, x2, y2, z2, n1, n2, n3, n4⟩⟩, ⟨fs, fz, fu, x, y, z, m1, m2, m3, m4⟩, k8⟩ := hK
  refine ⟨(e 0 (by omega)).trans k1, k2.lo (fun a _ p => e a (by omega)), k3.lo (fun a _ p => e a (by omega)), (e 75 (by omega)).trans k4, fun i hi => (e _ (by omega)).trans (k5 i hi), ⟨(e 80 (by omega)).trans k6, ⟨gs, gz, gu, x2, y2, z2, (e 126 (by omega)).trans n1, (e 127 (by omega)).trans n2, (e 128 (by omega)).trans n3, (e 129 (by omega)).trans n4⟩⟩, ⟨fs, fz, fu, x, y, z, (e 76 (by omega)).trans m1, (e 77 (by omega)).trans m2, (e 78 (by omega)).trans m3, (e 79 (by omega)).trans m4⟩, fun r hr => ?_⟩
  have hr2 := hr
  unfold gisR at hr2
  exact (k8 r hr).lo (e r (by omega)) (e (r + 1) (by omega))
theorem gB.lo {h h' : GH} {A : Nat → Nat → Int32} {E : Nat → Nat → Int64} {M : Nat → Int32} {pv tv : Value} (hB : gB h A E M pv tv) (e : ∀ a, 99 ≤ a ∧ a < 126 → h' a = h a) : gB h' A E M pv tv :=
  ⟨(e 99 (by omega)).trans hB.1, fun a ha => (e a (by unfold gia' at ha; omega)).trans (hB.2.1 a ha), (e 118 (by omega)).trans hB.2.2.1, (e 119 (by omega)).trans hB.2.2.2⟩
theorem gG.sc {A : Nat → Nat → Int32} {E : Nat → Nat → Int64} {M : Nat → Int32} {R R2 : Nat → List Int32} {N N2 : Nat → Int32} (hG : gG A E M R N) (e1 : ∀ a, a ≠ 81 → a ≠ 83 → a ≠ 85 → R2 a = R a) (e2 : ∀ i, i < 80 ∨ 82 < i → N2 i = N i) : gG A E M R2 N2 := by
  obtain ⟨⟨a1, a2, a3, a4, a5, a6⟩, b, c, d, e, f⟩ := hG
  have es : gss N2 = gss N := by unfold gss; rw [e2 2 (by omega)]
  refine ⟨⟨by rw [e2 1 (by omega)]; exact a1, by rw [e2 2 (by omega)]; exact a2, by rw [e1 73 (by omega) (by omega) (by omega)]; exact a3, by rw [e2 0 (by omega)]; exact a4, by rw [e1 73 (by omega) (by omega) (by omega)]; exact a5, by rw [e1 73 (by omega) (by omega) (by omega)]; exact a6⟩, fun s hs => ?_, fun v hv => ?_, fun w hw hw2 => ?_, fun i hi => ?_, fun q => ?_⟩
  · rw [e1 _ (by omega) (by omega) (by omega)]; exact b s hs
  · rw [e1 _ (by omega) (by omega) (by omega)]; exact c v hv
  · rw [e1 _ (by omega) (by omega) (by omega)]; rw [es] at hw2; exact d w hw hw2
  · rw [e1 _ (by omega) (by omega) (by omega), e2 _ (by omega)]; exact e i hi
  · rw [e2 0 (by omega)] at q
    obtain ⟨f1, f2, f3, f4, f5⟩ := f q
    refine ⟨by rw [e2 37 (by omega)]; exact f1, by rw [e2 38 (by omega)]; exact f2, fun s hs => ?_, fun v hv => ?_, fun w hw hw2 => ?_⟩
    · rw [e1 _ (by omega) (by omega) (by omega)]; exact f3 s hs
    · rw [e1 _ (by omega) (by omega) (by omega)]; exact f4 v hv
    · rw [e1 _ (by omega) (by omega) (by omega)]; rw [e2 38 (by omega)] at hw2; exact f5 w hw hw2
theorem gBi.sc {k s k2 s2 : Int32} {P I W P2 I2 W2 : Nat → List Int32} (h : gBi k s P I W) (ek : k2 = k) (es : s2 = s) (e1 : ∀ r, r < 6 → P2 r = P r) (e2 : ∀ v, v < 4 → I2 v = I v) (e3 : ∀ w, w < 6 → W2 w = W w) : gBi k2 s2 P2 I2 W2 := by
  obtain ⟨kn, sn, a1, a2, a3, a4, a5, a6, a7⟩ := h
  exact ⟨kn, sn, ek.trans a1, a2, es.trans a3, a4, fun r hr => by rw [e1 r hr]; exact a5 r hr, fun v hv => by rw [e2 v hv]; exact a6 v hv, fun w hw hw2 => by rw [e3 w hw]; exact a7 w hw hw2⟩
theorem gInv.sc {R R2 : Nat → List Int32} {N N2 : Nat → Int32} (h : gInv R N) (e1 : ∀ a, a ≠ 81 → a ≠ 83 → a ≠ 85 → R2 a = R a) (e2 : ∀ i, i < 80 ∨ 82 < i → N2 i = N i) : gInv R2 N2 := by
  obtain ⟨h1, h2, h3, h4, h5⟩ := h
  refine ⟨h1.sc (e2 1 (by omega)) (e2 2 (by omega)) (fun r hr => e1 _ (by omega) (by omega) (by omega)) (fun v hv => e1 _ (by omega) (by omega) (by omega)) (fun w hw => e1 _ (by omega) (by omega) (by omega)), by rw [e1 73 (by omega) (by omega) (by omega)]; exact h2, by rw [e2 0 (by omega)]; exact h3, fun q => ?_, fun i hi => ?_⟩
  · rw [e2 0 (by omega)] at q
    exact (h4 q).sc (e2 37 (by omega)) (e2 38 (by omega)) (fun r hr => e1 _ (by omega) (by omega) (by omega)) (fun v hv => e1 _ (by omega) (by omega) (by omega)) (fun w hw => e1 _ (by omega) (by omega) (by omega))
  · rw [e1 _ (by omega) (by omega) (by omega), e2 _ (by omega)]; exact h5 i hi
/-- class and reference stand alike in the heap h -/
def gSim (h : GH) : Prop := ∃ R N, gQ h h R N ∧ gRS h h R N ∧ gInv R N
theorem gC.fr {h0 h : GH} {R : Nat → List Int32} {N : Nat → Int32} (hC : gC h0 h R N) : ∀ a, 99 ≤ a ∧ a < 126 → h a = h0 a := by
  obtain ⟨R2, N2, hQ, -⟩ := hC
  exact hQ.2
theorem gRS.fr {h0 h : GH} {R : Nat → List Int32} {N : Nat → Int32} (hS : gRS h0 h R N) : ∀ a, a < 99 ∨ 126 ≤ a → h a = h0 a := by
  obtain ⟨A, E, M, pv, tv, hP, -⟩ := hS
  exact hP.2
theorem gRS.mv {h0 h h' : GH} {R : Nat → List Int32} {N : Nat → Int32} (hS : gRS h0 h R N) (e : ∀ a, 99 ≤ a ∧ a < 126 → h' a = h a) : gRS h' h' R N := by
  obtain ⟨A, E, M, pv, tv, hP, hG⟩ := hS
  exact ⟨A, E, M, pv, tv, ⟨hP.1.lo e, fun _ _ => rfl⟩, hG⟩
theorem gSim.step {h h1 h2 : GH} {R N} (hC : gC h h1 R N) (hS : gRS h1 h2 R N) (hI : gInv R N) : gSim h2 := by
  obtain ⟨R2, N2, hQ, e1, e2⟩ := hC
  have hf := hS.fr
  obtain ⟨A, E, M, pv, tv, hP, hG⟩ := hS
  exact ⟨R2, N2, ⟨hQ.1.lo hf, fun _ _ => rfl⟩, ⟨A, E, M, pv, tv, ⟨hP.1, fun _ _ => rfl⟩, hG.sc e1 e2⟩, hI.sc e1 e2⟩
