theorem gno_mem : ∀ (l : List Int32) (ren : Nat → Int32) (n : Nat), (∀ u, ren u < 0 ∨ ∃ w, w < 1000 ∧ ren u = nI (10 + w)) → n + l.length ≤ 900 → ∀ c ∈ gno l ren (nI (10 + n)), c ∈ l ∨ ∃ w, w < 1000 ∧ c = nI (10 + w)
  | [], _, _, _, _ => fun c hc => by cases hc
  | y :: ys, ren, n, hr, hn => fun c hc => by
    rw [gno] at hc
    rw [List.length_cons] at hn
    cases hv : gvo y with
    | none =>
      rw [hv] at hc
      rcases List.mem_cons.mp hc with rfl | hc
      · exact Or.inl (List.mem_cons_self ..)
      · rcases gno_mem ys ren n hr (by omega) c hc with h | h
        · exact Or.inl (List.mem_cons_of_mem _ h)
        · exact Or.inr h
    | some v =>
      rw [hv] at hc
      dsimp only at hc
      split at hc
      · rcases List.mem_cons.mp hc with rfl | hc
        · exact Or.inr ⟨n, by omega, rfl⟩
        · rw [show nI (10 + n) + 1 = nI (10 + (n + 1)) from (nI_succ _).symm] at hc
          rcases gno_mem ys _ (n + 1) (fun u => by
            unfold gU
            split
            · exact Or.inr ⟨n, by omega, rfl⟩
            · exact hr u) (by omega) c hc with h | h
          · exact Or.inl (List.mem_cons_of_mem _ h)
          · exact Or.inr h
      · next hneg =>
        rcases List.mem_cons.mp hc with rfl | hc
        · exact Or.inr ((hr v).resolve_left hneg)
        · rcases gno_mem ys ren n hr (by omega) c hc with h | h
          · exact Or.inl (List.mem_cons_of_mem _ h)
          · exact Or.inr h
theorem gcan_pt {k : Nat} (hk : k ≤ 3) {l : List Int32} (hs : ∀ c ∈ l, gsc k c) (h1 : 1 ≤ l.length) (h8 : l.length ≤ 8) : gPt k (gcan l) := by
  have hsy : ∀ c ∈ l, gsy c := fun c hc => (hs c hc).sy hk
  refine ⟨by rw [gcan_len]; exact h1, by rw [gcan_len]; exact h8, fun c hc => ?_, (gcan_cn hsy).2, gcan_co hsy⟩
  have hc2 := (gcan_cn hsy).1 c hc
  rw [← gno_can hsy] at hc
  rcases gno_mem l (fun _ => -1) 0 (fun u => Or.inl (by decide)) (by omega) c hc with h | ⟨w, hw, rfl⟩
  · exact hs c h
  · refine Or.inr ⟨by rw [nI_toInt (by omega)]; omega, ?_⟩
    exact hc2.2
theorem gwd_wd {k1 : Int32} {k : Nat} (hk : k1 = nI k) (hk3 : k ≤ 3) {l x : List Int32} (h : gwd k1 l = some x) : gWd k x := by
  obtain ⟨rfl, h8, hne, hl⟩ := gwd_v h
  refine ⟨by rw [List.length_map]; exact h8, fun c hc => ?_⟩
  rw [gltr_nat, gneq (by have := List.countP_le_length (p := fun y => decide (¬ (10 : Int32) ≤ y)) (l := l.map (gcode k1)); rw [List.length_map] at this; omega) (by rw [List.length_map]; omega), List.countP_eq_length] at hl
  have h1 := of_decide_eq_true (hl c hc)
  obtain ⟨y, hy, rfl⟩ := List.mem_map.mp hc
  rcases (gcode_sy hk hk3 y).resolve_left (hne y hy) with h2 | h2
  · exact h2
  · rw [Int32.le_iff_toInt_le, show (10 : Int32).toInt = 10 by decide] at h1; omega
theorem gpt_pt {k1 : Int32} {k : Nat} (hk : k1 = nI k) (hk3 : k ≤ 3) {l x : List Int32} (h : gpt k1 l = some x) : gPt k x := by
  obtain ⟨rfl, h8, h1, hne⟩ := gpt_v h
  refine gcan_pt hk3 (fun c hc => ?_) (by rw [List.length_map]; exact h1) (by rw [List.length_map]; exact h8)
  obtain ⟨y, hy, rfl⟩ := List.mem_map.mp hc
  exact (gcode_sy hk hk3 y).resolve_left (hne y hy)
/-- a state that differs in part -/
theorem gInv.of {R R' : Nat → List Int32} {N N' : Nat → Int32} (h : gInv R N) (hb : gBi (N' 1) (N' 2) (fun r => R' (5 + 2 * r)) (fun v => R' (17 + 2 * v)) (fun w => R' (25 + 2 * w))) (h73 : (R' 73).length ≤ 20) (h0 : N' 0 = N 0) (h37 : N' 37 = N 37) (h38 : N' 38 = N 38) (hs : ∀ a, 41 ≤ a → a < 73 → R' a = R a) (hl : ∀ i, i < 4 → (N' (87 + 3 * i) = -1 ∨ gbt (N' (87 + 3 * i)) 4 = true) ∧ (R' (88 + 3 * i)).length ≤ 40) : gInv R' N' := by
  refine ⟨hb, h73, by rw [h0]; exact h.2.2.1, fun q => ?_, hl⟩
  rw [h0] at q
  obtain ⟨kn, sn, a1, a2, a3, a4, a5, a6, a7⟩ := h.2.2.2.1 q
  refine ⟨kn, sn, by rw [h37]; exact a1, a2, by rw [h38]; exact a3, a4, fun r hr => ?_, fun v hv => ?_, fun w hw hw2 => ?_⟩
  · show gPt kn (R' (41 + 2 * r)); rw [hs _ (by omega) (by omega)]; exact a5 r hr
  · show gWd kn (R' (53 + 2 * v)); rw [hs _ (by omega) (by omega)]; exact a6 v hv
  · show gWd kn (R' (61 + 2 * w)); rw [hs _ (by omega) (by omega)]; exact a7 w hw hw2
theorem gInv.u73 {R : Nat → List Int32} {N : Nat → Int32} (h : gInv R N) {l : List Int32} (hl : l.length ≤ 20) : gInv (gU R 73 l) N := by
  obtain ⟨kn, sn, a1, a2, a3, a4, a5, a6, a7⟩ := h.1
  refine h.of ⟨kn, sn, a1, a2, a3, a4, fun r hr => ?_, fun v hv => ?_, fun w hw hw2 => ?_⟩ (by rw [gU_s]; exact hl) rfl rfl rfl (fun a _ _ => gU_n _ _ (by omega)) (fun i hi => ⟨(h.2.2.2.2 i hi).1, by rw [gU_n _ _ (by omega)]; exact (h.2.2.2.2 i hi).2⟩)
  · show gPt kn (gU R 73 l (5 + 2 * r)); rw [gU_n _ _ (by omega)]; exact a5 r hr
  · show gWd kn (gU R 73 l (17 + 2 * v)); rw [gU_n _ _ (by omega)]; exact a6 v hv
  · show gWd kn (gU R 73 l (25 + 2 * w)); rw [gU_n _ _ (by omega)]; exact a7 w hw hw2
theorem gInv.pat {R : Nat → List Int32} {N : Nat → Int32} (h : gInv R N) {k r : Nat} (hk : N 1 = nI k) (hk3 : k ≤ 3) (hr : r < 6) {l : List Int32} (hl : gPt k l) : gInv (gU R (5 + 2 * r) l) N := by
  obtain ⟨kn, sn, a1, a2, a3, a4, a5, a6, a7⟩ := h.1
  have e : k = kn := (gneq (by omega) (by omega)).mp (hk.symm.trans a1)
  subst e
  refine h.of ⟨k, sn, a1, a2, a3, a4, fun s hs => ?_, fun v hv => ?_, fun w hw hw2 => ?_⟩ (by rw [gU_n _ _ (by omega)]; exact h.2.1) rfl rfl rfl (fun a _ _ => gU_n _ _ (by omega)) (fun i hi => ⟨(h.2.2.2.2 i hi).1, by rw [gU_n _ _ (by omega)]; exact (h.2.2.2.2 i hi).2⟩)
  · show gPt k (gU R (5 + 2 * r) l (5 + 2 * s))
    by_cases q : s = r
    · subst q; rw [gU_s]; exact hl
    · rw [gU_n _ _ (by omega)]; exact a5 s hs
  · show gWd k (gU R (5 + 2 * r) l (17 + 2 * v)); rw [gU_n _ _ (by omega)]; exact a6 v hv
  · show gWd k (gU R (5 + 2 * r) l (25 + 2 * w)); rw [gU_n _ _ (by omega)]; exact a7 w hw hw2
theorem gInv.img {R : Nat → List Int32} {N : Nat → Int32} (h : gInv R N) {k r : Nat} (hk : N 1 = nI k) (hk3 : k ≤ 3) (hr : r < 4) {l : List Int32} (hl : gWd k l) : gInv (gU R (17 + 2 * r) l) N := by
  obtain ⟨kn, sn, a1, a2, a3, a4, a5, a6, a7⟩ := h.1
  have e : k = kn := (gneq (by omega) (by omega)).mp (hk.symm.trans a1)
  subst e
  refine h.of ⟨k, sn, a1, a2, a3, a4, fun s hs => ?_, fun v hv => ?_, fun w hw hw2 => ?_⟩ (by rw [gU_n _ _ (by omega)]; exact h.2.1) rfl rfl rfl (fun a _ _ => gU_n _ _ (by omega)) (fun i hi => ⟨(h.2.2.2.2 i hi).1, by rw [gU_n _ _ (by omega)]; exact (h.2.2.2.2 i hi).2⟩)
  · show gPt k (gU R (17 + 2 * r) l (5 + 2 * s)); rw [gU_n _ _ (by omega)]; exact a5 s hs
  · show gWd k (gU R (17 + 2 * r) l (17 + 2 * v))
    by_cases q : v = r
    · subst q; rw [gU_s]; exact hl
    · rw [gU_n _ _ (by omega)]; exact a6 v hv
  · show gWd k (gU R (17 + 2 * r) l (25 + 2 * w)); rw [gU_n _ _ (by omega)]; exact a7 w hw hw2
theorem gInv.row {R : Nat → List Int32} {N : Nat → Int32} (h : gInv R N) {r : Nat} (hr : r < 4) {l : List Int32} (hl : l.length ≤ 40) : gInv (gU R (88 + 3 * r) l) N := by
  obtain ⟨kn, sn, a1, a2, a3, a4, a5, a6, a7⟩ := h.1
  refine h.of ⟨kn, sn, a1, a2, a3, a4, fun s hs => ?_, fun v hv => ?_, fun w hw hw2 => ?_⟩ (by rw [gU_n _ _ (by omega)]; exact h.2.1) rfl rfl rfl (fun a _ _ => gU_n _ _ (by omega)) (fun i hi => ⟨(h.2.2.2.2 i hi).1, ?_⟩)
  · show gPt kn (gU R (88 + 3 * r) l (5 + 2 * s)); rw [gU_n _ _ (by omega)]; exact a5 s hs
  · show gWd kn (gU R (88 + 3 * r) l (17 + 2 * v)); rw [gU_n _ _ (by omega)]; exact a6 v hv
  · show gWd kn (gU R (88 + 3 * r) l (25 + 2 * w)); rw [gU_n _ _ (by omega)]; exact a7 w hw hw2
  · by_cases q : i = r
    · subst q; rw [gU_s]; exact hl
    · rw [gU_n _ _ (by omega)]; exact (h.2.2.2.2 i hi).2
theorem gInv.typ {R : Nat → List Int32} {N : Nat → Int32} (h : gInv R N) {r : Nat} (hr : r < 4) {t : Int32} (ht : t = -1 ∨ gbt t 4 = true) : gInv R (gU N (87 + 3 * r) t) := by
  obtain ⟨kn, sn, a1, a2, a3, a4, a5, a6, a7⟩ := h.1
  refine h.of ⟨kn, sn, by rw [gU_n _ _ (by omega)]; exact a1, a2, by rw [gU_n _ _ (by omega)]; exact a3, a4, a5, a6, a7⟩ h.2.1 (gU_n _ _ (by omega)) (gU_n _ _ (by omega)) (gU_n _ _ (by omega)) (fun _ _ _ => rfl) (fun i hi => ⟨?_, (h.2.2.2.2 i hi).2⟩)
  by_cases q : i = r
  · subst q; rw [gU_s]; exact ht
  · rw [gU_n _ _ (by omega)]; exact (h.2.2.2.2 i hi).1
theorem gInv.add {R : Nat → List Int32} {N : Nat → Int32} (h : gInv R N) {k : Nat} (hk : N 1 = nI k) (hk3 : k ≤ 3) {l : List Int32} (hl : gWd k l) : gInv (s_add R N l).2.1 (s_add R N l).2.2 := by
  obtain ⟨kn, sn, a1, a2, a3, a4, a5, a6, a7⟩ := id h.1
  have e : k = kn := (gneq (by omega) (by omega)).mp (hk.symm.trans a1)
  subst e
  have es := gss_nI a3 a4
  unfold s_add
  rw [es]
  split
  · next q =>
    show gInv (gU R (25 + 2 * sn) l) (gU N 2 (nI (sn + 1)))
    refine h.of ⟨k, sn + 1, by rw [gU_n _ _ (by omega)]; exact a1, a2, gU_s _ _ _, by omega, fun s hs => ?_, fun v hv => ?_, fun w hw hw2 => ?_⟩ ?_ (gU_n _ _ (by omega)) (gU_n _ _ (by omega)) (gU_n _ _ (by omega)) (fun a _ _ => gU_n _ _ (by omega)) (fun i hi => ?_)
    · show gPt k (gU R (25 + 2 * sn) l (5 + 2 * s)); rw [gU_n _ _ (by omega)]; exact a5 s hs
    · show gWd k (gU R (25 + 2 * sn) l (17 + 2 * v)); rw [gU_n _ _ (by omega)]; exact a6 v hv
    · show gWd k (gU R (25 + 2 * sn) l (25 + 2 * w))
      by_cases q : w = sn
      · subst q; rw [gU_s]; exact hl
      · rw [gU_n _ _ (by omega)]; exact a7 w hw (by omega)
    · rw [gU_n _ _ (by omega)]; exact h.2.1
    · rw [gU_n _ _ (by omega), gU_n _ _ (by omega)]; exact h.2.2.2.2 i hi
  · exact h
theorem gInv.k {R : Nat → List Int32} {N : Nat → Int32} (h : gInv R N) : ∃ k sn, N 1 = nI k ∧ (1 ≤ k ∧ k ≤ 3) ∧ N 2 = nI sn ∧ sn ≤ 6 ∧ (∀ r, r < 6 → gPt k (R (5 + 2 * r))) ∧ (∀ v, v < 4 → gWd k (R (17 + 2 * v))) ∧ ∀ w, w < 6 → w < sn → gWd k (R (25 + 2 * w)) := h.1
theorem i_reset {R : Nat → List Int32} {N : Nat → Int32} (h : gInv R N) (x : Int32) : gInv (s_reset R N x).2.1 (s_reset R N x).2.2 := by
  unfold s_reset
  split
  · next q =>
    have hx := gnat (x := x) (by omega)
    show gInv (gUb R 1 (fun _ => [10]) (fun _ => [0]) (fun i => R (25 + 2 * i))) (gU (gU N 1 x) 2 0)
    refine h.of ⟨x.toInt.toNat, 0, ?_, by omega, ?_, by omega, fun r hr => ?_, fun v hv => ?_, fun w hw hw2 => absurd hw2 (by omega)⟩ ?_ ?_ ?_ ?_ (fun a q1 q2 => gUb_n (by omega)) (fun i hi => ?_)
    · show gU (gU N 1 x) 2 0 1 = _; rw [gU_n _ _ (by omega), gU_s]; exact hx
    · show gU (gU N 1 x) 2 0 2 = _; rw [gU_s]; rfl
    · show gPt _ (gUb R 1 _ _ _ (1 + 4 + 2 * r))
      rw [gUb_p hr]
      exact ⟨Nat.le_refl 1, by decide, fun c hc => by rw [List.mem_singleton.mp hc]; exact Or.inr (by decide), fun v hv => ⟨10, List.mem_singleton.mpr rfl, (by have h9 : v < 1 := hv; rw [show v = 0 from Nat.lt_one_iff.mp h9]; decide)⟩, Or.inr ⟨rfl, trivial⟩⟩
    · show gWd _ (gUb R 1 _ _ _ (1 + 16 + 2 * v))
      rw [gUb_i hv]
      exact ⟨by decide, fun c hc => by rw [List.mem_singleton.mp hc]; show (0 : Int) ≤ 0 ∧ (0 : Int) < _; omega⟩
    · show (gUb R 1 _ _ _ 73).length ≤ 20; rw [gUb_n (by omega)]; exact h.2.1
    · show gU (gU N 1 x) 2 0 0 = _; rw [gU_n _ _ (by omega), gU_n _ _ (by omega)]
    · show gU (gU N 1 x) 2 0 37 = _; rw [gU_n _ _ (by omega), gU_n _ _ (by omega)]
    · show gU (gU N 1 x) 2 0 38 = _; rw [gU_n _ _ (by omega), gU_n _ _ (by omega)]
    · show (gU (gU N 1 x) 2 0 (87 + 3 * i) = -1 ∨ gbt (gU (gU N 1 x) 2 0 (87 + 3 * i)) 4 = true) ∧ (gUb R 1 _ _ _ (88 + 3 * i)).length ≤ 40
      rw [gU_n _ _ (by omega), gU_n _ _ (by omega), gUb_n (by omega)]; exact h.2.2.2.2 i hi
  · exact h
theorem i_append {R : Nat → List Int32} {N : Nat → Int32} (h : gInv R N) (x c : Int32) : gInv (s_append R N x c).2.1 (s_append R N x c).2.2 := by
  unfold s_append
  split
  · split
    · exact h
    · exact h.u73 (by rw [List.length_append, List.length_replicate]; omega)
  · exact h
theorem i_setPattern {R : Nat → List Int32} {N : Nat → Int32} (h : gInv R N) (x : Int32) : gInv (s_setPattern R N x).2.1 (s_setPattern R N x).2.2 := by
  obtain ⟨k, sn, a1, a2, a3, a4, a5, a6, a7⟩ := h.k
  have h2 := h.u73 (l := []) (Nat.zero_le _)
  unfold s_setPattern
  split
  · next q =>
    obtain ⟨r, rfl, hr⟩ := gbt_spec q
    rw [gr_nI (by omega)]
    cases hg : gpt (N 1) (R 73) with
    | none => exact h2
    | some l => exact h2.pat a1 a2.2 hr (gpt_pt a1 a2.2 hg)
  · exact h2
theorem i_copy {R : Nat → List Int32} {N : Nat → Int32} (h : gInv R N) (x y : Int32) : gInv (s_copy R N x y).2.1 (s_copy R N x y).2.2 := by
  obtain ⟨k, sn, a1, a2, a3, a4, a5, a6, a7⟩ := h.k
  unfold s_copy
  split
  · next q =>
    obtain ⟨r, rfl, hr⟩ := gbt_spec q.1
    obtain ⟨s, rfl, hs⟩ := gbt_spec q.2
    rw [gr_nI (by omega), gr_nI (by omega)]
    exact h.pat a1 a2.2 hr (a5 s hs)
  · exact h
theorem gpfv_pt {k : Nat} (hk : k ≤ 3) {p : List Int32} (hp : gPt k p) {v c : Int32} (hc : gsc k c) : gPt k (gpfv p v c) := by
  rw [gpfv_eq]
  refine gcan_pt hk (fun y hy => ?_) (by rw [List.length_map]; exact hp.1) (by rw [List.length_map]; exact hp.2.1)
  obtain ⟨z, hz, rfl⟩ := List.mem_map.mp hy
  split
  · exact hc
  · exact hp.2.2.1 z hz
theorem ghv_v {l : List Int32} {v : Int32} (h : ghv l v = true) : ∃ w, w < 4 ∧ v = nI w := by
  unfold ghv at h
  obtain ⟨r, hr, hr4⟩ := gbt_spec (Bool.and_eq_true_iff.mp h).1
  exact ⟨r, hr4, hr⟩
theorem gsc_v {k w : Nat} (h : w < 4) : gsc k (10 + nI w) := by
  rw [show (10 : Int32) = nI 10 from rfl, gadd]
  exact Or.inr (by rw [nI_toInt (by omega)]; omega)
theorem i_replace {R : Nat → List Int32} {N : Nat → Int32} (h : gInv R N) (x v c : Int32) : gInv (s_replace R N x v c).2.1 (s_replace R N x v c).2.2 := by
  obtain ⟨k, sn, a1, a2, a3, a4, a5, a6, a7⟩ := h.k
  unfold s_replace
  split
  · next q =>
    obtain ⟨r, rfl, hr⟩ := gbt_spec q
    rw [gr_nI (by omega)]
    split
    · split
      · next q2 =>
        refine h.pat a1 a2.2 hr (gpfv_pt a2.2 (a5 r hr) (Or.inl ⟨q2.1, ?_⟩))
        have := q2.2
        rw [a1, Int32.lt_iff_toInt_lt, nI_toInt (by omega)] at this
        exact this
      · exact h
    · exact h
  · exact h
theorem i_merge {R : Nat → List Int32} {N : Nat → Int32} (h : gInv R N) (x v w : Int32) : gInv (s_merge R N x v w).2.1 (s_merge R N x v w).2.2 := by
  obtain ⟨k, sn, a1, a2, a3, a4, a5, a6, a7⟩ := h.k
  unfold s_merge
  split
  · next q =>
    obtain ⟨r, rfl, hr⟩ := gbt_spec q
    rw [gr_nI (by omega)]
    split
    · next q2 =>
      split
      · exact h
      · obtain ⟨u, hu, rfl⟩ := ghv_v q2.2
        exact h.pat a1 a2.2 hr (gpfv_pt a2.2 (a5 r hr) (gsc_v hu))
    · exact h
  · exact h
theorem gspl_n (c f : Int32) (l : List Int32) : (gspl c f l).length = l.length + l.count c := by
  unfold gspl
  induction l with
  | nil => rfl
  | cons y l ih =>
    rw [List.flatMap_cons, List.length_append, ih, List.length_cons, List.count_cons]
    by_cases e : y = c
    · subst e; simp; omega
    · simp [e]; omega
theorem i_split {R : Nat → List Int32} {N : Nat → Int32} (h : gInv R N) (x v : Int32) : gInv (s_split R N x v).2.1 (s_split R N x v).2.2 := by
  obtain ⟨k, sn, a1, a2, a3, a4, a5, a6, a7⟩ := h.k
  unfold s_split
  split
  · next q =>
    obtain ⟨r, rfl, hr⟩ := gbt_spec q
    rw [gr_nI (by omega)]
    split
    · next q2 =>
      split
      · exact h
      · next q3 =>
        have hp := a5 r hr
        obtain ⟨u, hu, rfl⟩ := ghv_v q2
        rw [not_or, Classical.not_not, gvar_nv (hp.sy a2.2), show (4 : Int32) = nI 4 from rfl] at q3
        have hnv := gnv_le (R (5 + 2 * r))
        have q4 := q3.1
        rw [gnle (by omega) (by omega)] at q4
        have hcl := List.count_le_length (a := 10 + nI u) (l := R (5 + 2 * r))
        have h8 := hp.2.1
        have q5 := q3.2
        rw [gcnt_nat, gadd, show (8 : Int32) = nI 8 from rfl, gnle (by omega) (by omega)] at q5
        refine h.pat a1 a2.2 hr (gcan_pt a2.2 (fun c hc => ?_) (by rw [gspl_n]; have := hp.1; omega) (by rw [gspl_n]; omega))
        unfold gspl at hc
        obtain ⟨y, hy, hc⟩ := List.mem_flatMap.mp hc
        split at hc
        · rcases List.mem_cons.mp hc with rfl | hc
          · exact hp.2.2.1 _ hy
          · rw [List.mem_singleton] at hc
            rw [hc, gvar_nv (hp.sy a2.2)]
            exact gsc_v (by omega)
        · rw [List.mem_singleton] at hc
          rw [hc]; exact hp.2.2.1 _ hy
    · exact h
  · exact h
theorem gtf_pt {k1 : Int32} {k : Nat} (hk : k1 = nI k) (hk3 : k ≤ 3) {inp p m : List Int32} (hp : gPt k p) (h : gtf k1 inp p = some m) : gPt k (gcan m) := by
  have h1 := hp.1
  have h8 := hp.2.1
  unfold gtf at h
  split at h
  · cases h
    exact gcan_pt hk3 (fun c hc => hp.2.2.1 c (List.mem_reverse.mp hc)) (by rw [List.length_reverse]; exact h1) (by rw [List.length_reverse]; exact h8)
  · split at h
    · cases h
      split
      · next q =>
        rw [hk, show (1 : Int32) = nI 1 from rfl, gnlt (by omega) (by omega)] at q
        refine gcan_pt hk3 (fun c hc => ?_) (by rw [List.length_map]; exact h1) (by rw [List.length_map]; exact h8)
        obtain ⟨y, hy, rfl⟩ := List.mem_map.mp hc
        split
        · exact Or.inl (by rw [show (1 : Int32).toInt = 1 by decide]; omega)
        · split
          · exact Or.inl (by rw [show (0 : Int32).toInt = 0 by decide]; omega)
          · exact hp.2.2.1 y hy
      · exact gcan_pt hk3 hp.2.2.1 h1 h8
    · split at h
      · cases h
        split
        · exact gcan_pt hk3 (fun c hc => hp.2.2.1 c (List.dropLast_subset _ hc)) (by rw [List.length_dropLast]; omega) (by rw [List.length_dropLast]; omega)
        · exact gcan_pt hk3 hp.2.2.1 h1 h8
      · split at h
        · cases h
          refine gcan_pt hk3 (fun c hc => ?_) (by rw [List.length_map]; exact h1) (by rw [List.length_map]; exact h8)
          obtain ⟨y, hy, rfl⟩ := List.mem_map.mp hc
          split
          · exact Or.inr (by decide)
          · exact hp.2.2.1 y hy
        · split at h
          · cases h
            refine gcan_pt hk3 (fun c hc => ?_) (by rw [List.length_map]; exact h1) (by rw [List.length_map]; exact h8)
            obtain ⟨y, hy, rfl⟩ := List.mem_map.mp hc
            split
            · exact Or.inr (by decide)
            · exact hp.2.2.1 y hy
          · cases h
theorem i_transform {R : Nat → List Int32} {N : Nat → Int32} (h : gInv R N) (x : Int32) : gInv (s_transform R N x).2.1 (s_transform R N x).2.2 := by
  obtain ⟨k, sn, a1, a2, a3, a4, a5, a6, a7⟩ := h.k
  unfold s_transform
  split
  · next q =>
    obtain ⟨r, rfl, hr⟩ := gbt_spec q
    rw [gr_nI (by omega)]
    cases hg : gtf (N 1) (R 73) (R (5 + 2 * r)) with
    | none => exact h.u73 (Nat.zero_le _)
    | some m => exact (h.pat a1 a2.2 hr (gtf_pt a1 a2.2 (a5 r hr) hg)).u73 (Nat.zero_le _)
  · exact h.u73 (Nat.zero_le _)
theorem gco_first : ∀ (p : List Int32) (n : Nat), gco n p → ∀ v, n ≤ v → v < gvf n p → ∃ i, i < p.length ∧ gvo (p.getD i (-1)) = some v ∧ v = gvf n (p.take i)
  | [], n, _, v, h1, h2 => absurd h2 (by show ¬ v < n; omega)
  | c :: p, n, h, v, h1, h2 => by
    rw [gco] at h
    rw [gvf] at h2
    cases hc : gvo c with
    | none =>
      rw [hc] at h h2
      obtain ⟨i, q1, q2, q3⟩ := gco_first p n h v h1 h2
      exact ⟨i + 1, by rw [List.length_cons]; omega, q2, by rw [List.take_succ_cons, gvf, hc]; exact q3⟩
    | some u =>
      rw [hc] at h h2
      dsimp only at h2
      rcases h with ⟨w1, w2⟩ | ⟨w1, w2⟩
      · rw [show max n (u + 1) = n by omega] at h2
        obtain ⟨i, q1, q2, q3⟩ := gco_first p n w2 v h1 h2
        exact ⟨i + 1, by rw [List.length_cons]; omega, q2, by rw [List.take_succ_cons, gvf, hc]; show v = gvf (max n (u + 1)) _; rw [show max n (u + 1) = n by omega]; exact q3⟩
      · subst w1
        by_cases e : v = u
        · subst e
          exact ⟨0, by rw [List.length_cons]; omega, hc, rfl⟩
        · rw [show max u (u + 1) = u + 1 by omega] at h2
          obtain ⟨i, q1, q2, q3⟩ := gco_first p (u + 1) w2 v (by omega) h2
          exact ⟨i + 1, by rw [List.length_cons]; omega, q2, by rw [List.take_succ_cons, gvf, hc]; show v = gvf (max u (u + 1)) _; rw [show max u (u + 1) = u + 1 by omega]; exact q3⟩
theorem gimg_wd {k : Nat} {p t : List Int32} {md : Int32} (hc : gco 0 p) (ht : gWd k t) (h : gMB p t md 0 0 = true) {v : Nat} (hv : v < gnv p) : gWd k (gimg t (genv p t md) v) := by
  obtain ⟨h1, h2⟩ := genv_at hc h
  obtain ⟨i, q1, q2, q3⟩ := gco_first p 0 hc v (Nat.zero_le _) (by rw [← gnv_vf]; exact hv)
  have he := h2 i v q1 q2 q3
  have htk := gtot_take (w := gsz' (genv p t md)) q1
  rw [q2] at htk
  dsimp only at htk
  have hle := gtot_le (gsz' (genv p t md)) p (i + 1)
  have h8 := ht.1
  refine ⟨by rw [gimg_len]; omega, fun c hcm => ?_⟩
  unfold gimg at hcm
  rw [he] at hcm
  obtain ⟨j, hj, rfl⟩ := List.mem_map.mp hcm
  rw [List.mem_range] at hj
  exact ht.2 _ (ggetD_mem (by dsimp only at hj ⊢; omega))
theorem gInv.imgs {R : Nat → List Int32} {N : Nat → Int32} (h : gInv R N) {k : Nat} (hk : N 1 = nI k) (hk3 : k ≤ 3) {t : List Int32} {e : GV} : ∀ (n : Nat), n ≤ 4 → (∀ v, v < n → gWd k (gimg t e v)) → gInv (gUi R t e n) N
  | 0, _, _ => by
    rw [show gUi R t e 0 = R from funext (fun a => if_neg (by omega))]; exact h
  | n + 1, hn, hw => by
    rw [← funext (gUi_s R t e n)]
    exact (gInv.imgs h hk hk3 n (by omega) (fun v hv => hw v (by omega))).img hk hk3 (by omega) (hw n (by omega))
theorem i_match {R : Nat → List Int32} {N : Nat → Int32} (h : gInv R N) (x md : Int32) : gInv (s_match R N x md).2.1 (s_match R N x md).2.2 := by
  obtain ⟨k, sn, a1, a2, a3, a4, a5, a6, a7⟩ := h.k
  have h2 := h.u73 (l := []) (Nat.zero_le _)
  unfold s_match
  split
  · next q =>
    obtain ⟨hx, hmd, hw⟩ := grf_0 q
    obtain ⟨r, rfl, hr⟩ := gbt_spec hx
    rw [gr_nI (by omega)]
    cases hg : gwd (N 1) (R 73) with
    | none => exact h
    | some t =>
      dsimp only
      split
      · next hm => exact h2.imgs a1 a2.2 _ (gnv_le _) (fun v hv => gimg_wd (a5 r hr).2.2.2.2 (gwd_wd a1 a2.2 hg) hm hv)
      · exact h2
  · exact h2
theorem i_setImage {R : Nat → List Int32} {N : Nat → Int32} (h : gInv R N) (v : Int32) : gInv (s_setImage R N v).2.1 (s_setImage R N v).2.2 := by
  obtain ⟨k, sn, a1, a2, a3, a4, a5, a6, a7⟩ := h.k
  have h2 := h.u73 (l := []) (Nat.zero_le _)
  unfold s_setImage
  split
  · next q =>
    obtain ⟨r, rfl, hr⟩ := gbt_spec q
    rw [gi_nI (by omega)]
    cases hg : gwd (N 1) (R 73) with
    | none => exact h2
    | some l => exact h2.img a1 a2.2 hr (gwd_wd a1 a2.2 hg)
  · exact h2
theorem i_addWord {R : Nat → List Int32} {N : Nat → Int32} (h : gInv R N) : gInv (s_addWord R N).2.1 (s_addWord R N).2.2 := by
  obtain ⟨k, sn, a1, a2, a3, a4, a5, a6, a7⟩ := h.k
  have h2 := h.u73 (l := []) (Nat.zero_le _)
  unfold s_addWord
  cases hg : gwd (N 1) (R 73) with
  | none => exact h2
  | some l => exact h2.add a1 a2.2 (gwd_wd a1 a2.2 hg)
theorem i_addProduced {R : Nat → List Int32} {N : Nat → Int32} (h : gInv R N) (x : Int32) : gInv (s_addProduced R N x).2.1 (s_addProduced R N x).2.2 := by
  obtain ⟨k, sn, a1, a2, a3, a4, a5, a6, a7⟩ := h.k
  unfold s_addProduced
  split
  · next q =>
    obtain ⟨r, rfl, hr⟩ := gbt_spec q
    rw [gr_nI (by omega)]
    have hp := a5 r hr
    cases hg : gpd R (R (5 + 2 * r)) with
    | none => exact h
    | some l =>
      unfold gpd at hg
      split at hg
      · next h8 =>
        cases hg
        refine h.add a1 a2.2 ⟨h8, fun c hc => ?_⟩
        obtain ⟨y, hy, hc⟩ := List.mem_flatMap.mp hc
        cases hv : gvo y with
        | none =>
          rw [hv] at hc
          rw [List.mem_singleton] at hc
          subst hc
          have := gvo_none ((hp.2.2.1 c hy).sy a2.2) hv
          rcases hp.2.2.1 c hy with z | z
          · exact z
          · omega
        | some v =>
          rw [hv] at hc
          exact (a6 v (gvo_some hv).1).2 c hc
      · cases hg
  · exact h
theorem i_removeWord {R : Nat → List Int32} {N : Nat → Int32} (h : gInv R N) (x : Int32) : gInv (s_removeWord R N x).2.1 (s_removeWord R N x).2.2 := by
  obtain ⟨k, sn, a1, a2, a3, a4, a5, a6, a7⟩ := h.k
  unfold s_removeWord
  rw [gss_nI a3 a4]
  split
  · next q =>
    obtain ⟨i, rfl, hi⟩ := gbt_spec q
    rw [nI_toInt (by omega)]
    show gInv (gUr R i sn) (gU N 2 (nI (sn - 1)))
    have hn : ∀ a, (a < 25 ∨ 37 ≤ a) → gUr R i sn a = R a := fun a ha => by unfold gUr; rw [if_neg (by omega)]
    refine h.of ⟨k, sn - 1, by rw [gU_n _ _ (by omega)]; exact a1, a2, gU_s _ _ _, by omega, fun s hs => ?_, fun v hv => ?_, fun w hw hw2 => ?_⟩ (by rw [hn _ (by omega)]; exact h.2.1) (gU_n _ _ (by omega)) (gU_n _ _ (by omega)) (gU_n _ _ (by omega)) (fun a _ _ => hn a (by omega)) (fun i hi => ?_)
    · show gPt k (gUr R i sn (5 + 2 * s)); rw [hn _ (by omega)]; exact a5 s hs
    · show gWd k (gUr R i sn (17 + 2 * v)); rw [hn _ (by omega)]; exact a6 v hv
    · show gWd k (gUr R i sn (25 + 2 * w))
      unfold gUr
      split
      · rw [show 25 + 2 * w + 2 = 25 + 2 * (w + 1) by omega]; exact a7 (w + 1) (by omega) (by omega)
      · exact a7 w hw (by omega)
    · rw [gU_n _ _ (by omega), hn _ (by omega)]; exact h.2.2.2.2 i hi
  · exact h
theorem i_findPattern {R : Nat → List Int32} {N : Nat → Int32} (h : gInv R N) (x z md : Int32) : gInv (s_findPattern R N x z md).2.1 (s_findPattern R N x z md).2.2 := by
  obtain ⟨k, sn, a1, a2, a3, a4, a5, a6, a7⟩ := h.k
  unfold s_findPattern
  rw [gss_nI a3 a4, gkk_nI a1 a2.2]
  split
  · next q =>
    obtain ⟨r, rfl, hr⟩ := gbt_spec q
    rw [gr_nI (by omega)]
    split
    · next q2 =>
      cases hg : gFB (fun i => R (25 + 2 * i)) sn md k z.toInt.toNat with
      | none => exact h
      | some l => exact h.pat a1 a2.2 hr (gFB_pt a2.2 (by omega) (by omega) (fun i hi => (a7 i (by omega) hi).1) hg).1
    · exact h
  · exact h
theorem i_findOneVariable {R : Nat → List Int32} {N : Nat → Int32} (h : gInv R N) (x : Int32) : gInv (s_findOneVariable R N x).2.1 (s_findOneVariable R N x).2.2 := by
  obtain ⟨k, sn, a1, a2, a3, a4, a5, a6, a7⟩ := h.k
  unfold s_findOneVariable
  rw [gss_nI a3 a4, gkk_nI a1 a2.2, gFX_find a2.2 (fun i hi => (a7 i (by omega) hi).1)]
  split
  · next q =>
    obtain ⟨r, rfl, hr⟩ := gbt_spec q
    rw [gr_nI (by omega)]
    cases hg : (List.range 7).findSome? (fun j => (gOne k (7 - j)).find? (gfit (fun i => R (25 + 2 * i)) sn 0)) with
    | none => exact h
    | some l =>
      obtain ⟨j, hj, hf⟩ := List.exists_of_findSome?_eq_some hg
      rw [List.mem_range] at hj
      exact h.pat a1 a2.2 hr (gOne_pt a2.2 (by omega) (by omega) hf).1
  · exact h
theorem gegt {r : Nat} (h : r < 4) : ge (nI r) = 88 + 3 * r ∧ gt (nI r) = 87 + 3 * r := by
  unfold ge gt; rw [nI_toInt (by omega)]; exact ⟨rfl, rfl⟩
theorem i_allocate {R : Nat → List Int32} {N : Nat → Int32} (h : gInv R N) (x t z : Int32) : gInv (s_allocate R N x t z).2.1 (s_allocate R N x t z).2.2 := by
  unfold s_allocate
  split
  · next q =>
    obtain ⟨r, rfl, hr⟩ := gbt_spec q.1
    rw [(gegt hr).1, (gegt hr).2]
    split
    · exact h
    · exact (h.row hr (by rw [List.length_replicate]; omega)).typ hr (Or.inr (decide_eq_true ⟨q.2.1.1, by have := q.2.1.2; omega⟩))
  · exact h
theorem i_release {R : Nat → List Int32} {N : Nat → Int32} (h : gInv R N) (x : Int32) : gInv (s_release R N x).2.1 (s_release R N x).2.2 := by
  unfold s_release
  split
  · next q =>
    obtain ⟨r, rfl, hr⟩ := gbt_spec q
    rw [(gegt hr).2]
    exact h.typ hr (Or.inl rfl)
  · exact h
theorem i_putElement {R : Nat → List Int32} {N : Nat → Int32} (h : gInv R N) (x i : Int32) (v : Int64) : gInv (s_putElement R N x i v).2.1 (s_putElement R N x i v).2.2 := by
  unfold s_putElement
  split
  · next q =>
    obtain ⟨r, rfl, hr⟩ := gbt_spec q
    rw [(gegt hr).1, (gegt hr).2]
    split
    · exact h
    · split
      · exact h.row hr (by rw [List.length_set]; exact (h.2.2.2.2 r hr).2)
      · exact h
  · exact h
theorem i_copyElements {R : Nat → List Int32} {N : Nat → Int32} (h : gInv R N) (x i y j c : Int32) : gInv (s_copyElements R N x i y j c).2.1 (s_copyElements R N x i y j c).2.2 := by
  unfold s_copyElements
  split
  · next q =>
    obtain ⟨r, rfl, hr⟩ := gbt_spec q.1
    obtain ⟨s, rfl, hs⟩ := gbt_spec q.2
    rw [(gegt hr).1, (gegt hr).2, (gegt hs).1, (gegt hs).2]
    split
    · exact h
    · split
      · split
        · exact h.row hs (by unfold gcpl; rw [List.length_map, List.length_range]; exact (h.2.2.2.2 s hs).2)
        · exact h
      · exact h
  · exact h
theorem i_loadPattern {R : Nat → List Int32} {N : Nat → Int32} (h : gInv R N) (x y : Int32) : gInv (s_loadPattern R N x y).2.1 (s_loadPattern R N x y).2.2 := by
  obtain ⟨k, sn, a1, a2, a3, a4, a5, a6, a7⟩ := h.k
  unfold s_loadPattern
  split
  · next q =>
    obtain ⟨r, rfl, hr⟩ := gbt_spec q
    rw [gr_nI (by omega)]
    split
    · split
      · exact h
      · split
        · cases hg : gpt (N 1) (R (ge y)) with
          | none => exact h
          | some l => exact h.pat a1 a2.2 hr (gpt_pt a1 a2.2 hg)
        · exact h
    · exact h
  · exact h
theorem i_snapshot {R : Nat → List Int32} {N : Nat → Int32} (h : gInv R N) : gInv (s_snapshot R N).2.1 (s_snapshot R N).2.2 := by
  obtain ⟨k, sn, a1, a2, a3, a4, a5, a6, a7⟩ := h.k
  have hn : ∀ a, (a < 41 ∨ 73 ≤ a) → gUb R 37 (fun i => R (5 + 2 * i)) (fun i => R (17 + 2 * i)) (fun i => R (25 + 2 * i)) a = R a := fun a ha => gUb_n (by omega)
  have hN : ∀ a, a ≠ 0 → a ≠ 37 → a ≠ 38 → gU (gU (gU N 37 (N 1)) 38 (N 2)) 0 1 a = N a := fun a b1 b2 b3 => by rw [gU_n _ _ b1, gU_n _ _ b3, gU_n _ _ b2]
  show gInv (gUb R 37 (fun i => R (5 + 2 * i)) (fun i => R (17 + 2 * i)) (fun i => R (25 + 2 * i))) (gU (gU (gU N 37 (N 1)) 38 (N 2)) 0 1)
  refine ⟨⟨k, sn, (hN 1 (by omega) (by omega) (by omega)).trans a1, a2, (hN 2 (by omega) (by omega) (by omega)).trans a3, a4, fun r hr => ?_, fun v hv => ?_, fun w hw hw2 => ?_⟩, ?_, Or.inr (gU_s _ _ _), fun _ => ⟨k, sn, ?_, a2, ?_, a4, fun r hr => ?_, fun v hv => ?_, fun w hw hw2 => ?_⟩, fun i hi => ?_⟩
  · have := a5 r hr; rw [← hn (5 + 2 * r) (by omega)] at this; exact this
  · have := a6 v hv; rw [← hn (17 + 2 * v) (by omega)] at this; exact this
  · have := a7 w hw hw2; rw [← hn (25 + 2 * w) (by omega)] at this; exact this
  · rw [hn 73 (by omega)]; exact h.2.1
  · show gU (gU (gU N 37 (N 1)) 38 (N 2)) 0 1 37 = _; rw [gU_n _ _ (by omega), gU_n _ _ (by omega), gU_s]; exact a1
  · show gU (gU (gU N 37 (N 1)) 38 (N 2)) 0 1 38 = _; rw [gU_n _ _ (by omega), gU_s]; exact a3
  · show gPt k (gUb R 37 _ _ _ (37 + 4 + 2 * r)); rw [gUb_p hr]; exact a5 r hr
  · show gWd k (gUb R 37 _ _ _ (37 + 16 + 2 * v)); rw [gUb_i hv]; exact a6 v hv
  · show gWd k (gUb R 37 _ _ _ (37 + 24 + 2 * w)); rw [gUb_w hw]; exact a7 w hw hw2
  · have := h.2.2.2.2 i hi
    rw [← hN (87 + 3 * i) (by omega) (by omega) (by omega), ← hn (88 + 3 * i) (by omega)] at this
    exact this
theorem i_restore {R : Nat → List Int32} {N : Nat → Int32} (h : gInv R N) : gInv (s_restore R N).2.1 (s_restore R N).2.2 := by
  unfold s_restore
  split
  · exact h
  · next q =>
    obtain ⟨k, sn, a1, a2, a3, a4, a5, a6, a7⟩ := h.2.2.2.1 q
    have hn : ∀ a, (a < 5 ∨ 37 ≤ a) → gUb R 1 (fun i => R (41 + 2 * i)) (fun i => R (53 + 2 * i)) (fun i => R (61 + 2 * i)) a = R a := fun a ha => gUb_n (by omega)
    have hN : ∀ a, a ≠ 1 → a ≠ 2 → gU (gU N 1 (N 37)) 2 (N 38) a = N a := fun a b1 b2 => by rw [gU_n _ _ b2, gU_n _ _ b1]
    show gInv (gUb R 1 (fun i => R (41 + 2 * i)) (fun i => R (53 + 2 * i)) (fun i => R (61 + 2 * i))) (gU (gU N 1 (N 37)) 2 (N 38))
    refine h.of ⟨k, sn, ?_, a2, ?_, a4, fun r hr => ?_, fun v hv => ?_, fun w hw hw2 => ?_⟩ ?_ (hN 0 (by omega) (by omega)) (hN 37 (by omega) (by omega)) (hN 38 (by omega) (by omega)) (fun a _ _ => hn a (by omega)) (fun i hi => ?_)
    · show gU (gU N 1 (N 37)) 2 (N 38) 1 = _; rw [gU_n _ _ (by omega), gU_s]; exact a1
    · show gU (gU N 1 (N 37)) 2 (N 38) 2 = _; rw [gU_s]; exact a3
    · show gPt k (gUb R 1 _ _ _ (1 + 4 + 2 * r)); rw [gUb_p hr]; exact a5 r hr
    · show gWd k (gUb R 1 _ _ _ (1 + 16 + 2 * v)); rw [gUb_i hv]; exact a6 v hv
    · show gWd k (gUb R 1 _ _ _ (1 + 24 + 2 * w)); rw [gUb_w hw]; exact a7 w hw hw2
    · rw [hn 73 (by omega)]; exact h.2.1
    · have := h.2.2.2.2 i hi
      rw [← hN (87 + 3 * i) (by omega) (by omega), ← hn (88 + 3 * i) (by omega)] at this
      exact this
