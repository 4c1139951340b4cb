/-- the pattern fits the sample -/
def gfit (W : Nat → List Int32) (ss : Nat) (md : Int32) (q : List Int32) : Bool := (List.range ss).all (fun i => gMB q (W i) md 0 0)
theorem gfit_i {W : Nat → List Int32} {ss : Nat} {md : Int32} {q : List Int32} (h : gfit W ss md q = true) {i : Nat} (hi : i < ss) : gMB q (W i) md 0 0 = true := List.all_eq_true.mp h i (List.mem_range.mpr hi)
theorem gMt_len {k : Nat} (hk : k ≤ 3) {L : Nat} {σ : Nat → List Int32} (hL : ∀ v, L ≤ (σ v).length) : ∀ (s : List Int32) (vu : Nat), gca k 4 vu s → glc s + L * (s.length - glc s) ≤ (gMt σ s).length ∧ (glc s = s.length → (gMt σ s).length = glc s)
  | [], _, _ => ⟨Nat.le_refl _, fun _ => rfl⟩
  | c :: s, vu, h => by
    rw [gca] at h
    rcases h with ⟨x, hx, rfl, h⟩ | ⟨v, h1, h2, rfl, h⟩
    · obtain ⟨a, b⟩ := gMt_len hk hL s vu h
      rw [gMt_n (gvo_l (by omega)), glc_l (by omega), List.length_cons, List.length_cons]
      refine ⟨by rw [show s.length + 1 - (glc s + 1) = s.length - glc s by omega]; omega, fun q => by rw [b (by omega)]⟩
    · obtain ⟨a, b⟩ := gMt_len hk hL s _ h
      have hle := (gvf_le hk (by omega) s _ h).2.2.1
      rw [gMt_v (gvo_nI (by omega)), glc_v (by omega), List.length_cons, List.length_append]
      refine ⟨?_, fun q => by omega⟩
      have := hL v
      rw [show s.length + 1 - glc s = (s.length - glc s) + 1 by omega, Nat.mul_add, Nat.mul_one]
      omega
theorem gMt_one {k : Nat} (hk : k ≤ 3) {σ : Nat → List Int32} : ∀ (s : List Int32) (vu : Nat), gca k 1 vu s → (gMt σ s).length = glc s + (s.length - glc s) * (σ 0).length
  | [], _, _ => by simp [gMt, glc]
  | c :: s, vu, h => by
    rw [gca] at h
    rcases h with ⟨x, hx, rfl, h⟩ | ⟨v, h1, h2, rfl, h⟩
    · have a := gMt_one (σ := σ) hk s vu h
      rw [gMt_n (gvo_l (by omega)), glc_l (by omega), List.length_cons, List.length_cons, a]
      rw [show s.length + 1 - (glc s + 1) = s.length - glc s by omega]; omega
    · have a := gMt_one (σ := σ) hk s _ h
      have hle := (gvf_le hk (by omega) s _ h).2.2.1
      have hv : v = 0 := by omega
      subst hv
      rw [gMt_v (gvo_nI (by omega)), glc_v (by omega), List.length_cons, List.length_append, a]
      rw [show s.length + 1 - glc s = (s.length - glc s) + 1 by omega, Nat.add_mul, Nat.one_mul]
      omega
theorem gca0 {k : Nat} (hk : k ≤ 3) {q : List Int32} (h : gca k 4 0 q) : gco 0 q := gca_co hk (by omega) q 0 h
/-- what the class leaves out does not fit -/
theorem gprune {W : Nat → List Int32} {ss : Nat} {md : Int32} {k : Nat} (hk : k ≤ 3) (hW : ∀ i, i < ss → (W i).length ≤ 8) {c s : List Int32} (hc : gca k 4 0 (c ++ s)) (hf : gfit W ss md (c ++ s) = true) : gcb W ss md c (glc s) (s.length - glc s) = true := by
  obtain ⟨hc1, hc2⟩ := (gca_app hk (by omega) c s 0).mp hc
  have hle := (gvf_le hk (by omega) s _ hc2).2.2.1
  refine gall_t (fun i hi => ?_)
  obtain ⟨σ, h1, h2⟩ := (gMB_full (gca0 hk hc)).mp (gfit_i hf hi)
  rw [gMt_app] at h2
  obtain ⟨a, b⟩ := gMt_len hk h1 s _ hc2
  have hL : gL md * (s.length - glc s) = if md = 1 then 0 else s.length - glc s := by
    unfold gL; split <;> simp
  rw [hL] at a
  have hlen := congrArg List.length h2
  rw [List.length_append] at hlen
  have h8 := hW i hi
  refine (gMB_iff (gca0 hk hc1)).mpr ⟨σ, h1, gMt σ s, h2, a, ?_⟩
  by_cases hp : 0 < s.length - glc s
  · rw [if_pos hp]; omega
  · rw [if_neg hp, b (by omega)]
    omega
theorem gfs_congr {α : Type} {n : Nat} {f g : Nat → Option α} (h : ∀ i, i < n → f i = g i) : (List.range n).findSome? f = (List.range n).findSome? g := by
  have key : ∀ l : List Nat, (∀ i ∈ l, f i = g i) → l.findSome? f = l.findSome? g := by
    intro l
    induction l with
    | nil => intro _; rfl
    | cons a l ih =>
      intro h
      rw [List.findSome?_cons, List.findSome?_cons, h a (List.mem_cons_self ..), ih (fun i hi => h i (List.mem_cons_of_mem _ hi))]
  exact key _ (fun i hi => h i (List.mem_range.mp hi))
theorem gCo_find {W : Nat → List Int32} {ss : Nat} {md : Int32} {k V : Nat} (hk : k ≤ 3) (hV : V ≤ 4) (hW : ∀ i, i < ss → (W i).length ≤ 8) : ∀ (m : Nat) (c : List Int32) (ll vu : Nat), ll ≤ m → vu ≤ V → V - vu ≤ m - ll → (0 < m - ll → 1 ≤ V) → gca k 4 0 c → gvf 0 c = vu →
    gCo W ss md k V m c ll vu = (gX k V m c ll vu).find? (gfit W ss md) := by
  have noth : ∀ (m : Nat) (c : List Int32) (ll vu : Nat), ll ≤ m → vu ≤ V → V - vu ≤ m - ll → (0 < m - ll → 1 ≤ V) → gca k 4 0 c → gvf 0 c = vu → ¬ gcb W ss md c ll (m - ll) = true → (gX k V m c ll vu).find? (gfit W ss md) = none := by
    intro m c ll vu h1 h2 h3 h4 hc hv hn
    refine List.find?_eq_none.mpr (fun q hq hf => hn ?_)
    obtain ⟨s, rfl, hs, a, b, d⟩ := (gX_mem hk hV m c ll vu h1 h2 h3 h4 q).mp hq
    have := gprune hk hW ((gca_app hk (by omega) c s 0).mpr ⟨hc, by rw [hv]; exact a⟩) hf
    rw [hs, b] at this
    exact this
  intro m
  induction m with
  | zero =>
    intro c ll vu h1 h2 h3 h4 hc hv
    have h0 : ll = 0 := by omega
    subst h0
    by_cases hg : gcb W ss md c 0 (0 - 0) = true
    · rw [gCo_0, if_pos hg, gX, List.find?_cons_of_pos]
      exact gall_t (fun i hi => by
        have := List.all_eq_true.mp hg i (List.mem_range.mpr hi)
        simp only [Nat.sub_self, ite_self, Nat.add_zero] at this
        simpa using this)
    · rw [noth 0 c 0 vu h1 h2 h3 h4 hc hv hg, gCo_0, if_neg hg]
  | succ m ih =>
    intro c ll vu h1 h2 h3 h4 hc hv
    by_cases hg : gcb W ss md c ll (m + 1 - ll) = true
    · rw [gCo_s, if_pos hg, gX, List.find?_append, List.find?_flatMap]
      congr 1
      · refine gfs_congr (fun x hx => ?_)
        split at hx
        · exact ih _ _ _ (by omega) h2 (by omega) (by omega) ((gca_app hk (by omega) c _ 0).mpr ⟨hc, Or.inl ⟨x, hx, rfl, trivial⟩⟩) (by rw [gvf_app, gvf_l (by omega), hv]; rfl)
        · omega
      · split
        · next hpl =>
          have hV1 := h4 hpl
          unfold gCv
          rw [List.find?_flatMap]
          generalize hlo : (if V - vu < m + 1 - ll then 0 else vu) = lo
          have hlo2 : (V - vu < m + 1 - ll ∧ lo = 0) ∨ (¬ V - vu < m + 1 - ll ∧ lo = vu) := by
            by_cases z : V - vu < m + 1 - ll
            · rw [if_pos z] at hlo; exact Or.inl ⟨z, hlo.symm⟩
            · rw [if_neg z] at hlo; exact Or.inr ⟨z, hlo.symm⟩
          refine gfs_congr (fun i hi => ?_)
          exact ih _ _ _ (by omega) (by omega) (by omega) (by omega) ((gca_app hk (by omega) c _ 0).mpr ⟨hc, Or.inr ⟨lo + i, by omega, by omega, rfl, trivial⟩⟩) (by rw [gvf_app, gvf_v (by omega), hv]; rfl)
        · rfl
    · rw [noth (m + 1) c ll vu h1 h2 h3 h4 hc hv hg, gCo_s, if_neg hg]
/-- all candidates of findPattern, the best first -/
def gAll (k n : Nat) : List (List Int32) := (List.range (n + 1)).flatMap (fun j => (List.range (min j 4 + 1 - min j 1)).flatMap (fun i => gX k (min j 1 + i) n [] (n - j) 0))
def gOne (k n : Nat) : List (List Int32) := (List.range n).flatMap (fun i => gX k 1 n [] (n - 1 - i) 0)
theorem gFB_find {W : Nat → List Int32} {ss : Nat} {md : Int32} {k n : Nat} (hk : k ≤ 3) (hW : ∀ i, i < ss → (W i).length ≤ 8) : gFB W ss md k n = (gAll k n).find? (gfit W ss md) := by
  unfold gFB gAll
  rw [List.find?_flatMap]
  refine gfs_congr (fun j hj => ?_)
  rw [List.find?_flatMap]
  refine gfs_congr (fun i hi => ?_)
  exact gCo_find hk (by omega) hW n [] (n - j) 0 (by omega) (by omega) (by omega) (by omega) trivial rfl
theorem gst_no {W : Nat → List Int32} {ss : Nat} {k n le pl : Nat} (hk : k ≤ 3) (hn : le + pl = n) (hpl : 1 ≤ pl) (h : ¬ gst W ss le pl = true) : (gX k 1 n [] le 0).find? (gfit W ss 0) = none := by
  refine List.find?_eq_none.mpr (fun q hq hf => h ?_)
  obtain ⟨s, rfl, hs, a, b, d⟩ := (gX_mem hk (by omega) n [] le 0 (by omega) (by omega) (by omega) (by omega) q).mp hq
  unfold gst
  rw [decide_eq_true hpl, Bool.true_and]
  refine gall_t (fun i hi => ?_)
  obtain ⟨σ, h1, h2⟩ := (gMB_full (gca0 hk a)).mp (gfit_i hf hi)
  have hl := congrArg List.length h2
  rw [gMt_one hk q 0 (gca_mono hk (by omega) q 0 a (by omega)), b, show q.length - le = pl by omega] at hl
  have h3 := h1 0
  rw [show gL 0 = 1 from rfl] at h3
  have h4 : pl * 1 ≤ pl * (σ 0).length := Nat.mul_le_mul_left pl h3
  refine decide_eq_true ⟨by rw [hl]; omega, ?_⟩
  rw [hl, Nat.add_sub_cancel_left, Nat.mul_mod_right]
theorem gFX_find {W : Nat → List Int32} {ss : Nat} {k : Nat} (hk : k ≤ 3) (hW : ∀ i, i < ss → (W i).length ≤ 8) : gFX W ss k = (List.range 7).findSome? (fun j => (gOne k (7 - j)).find? (gfit W ss 0)) := by
  unfold gFX gOne
  refine gfs_congr (fun j hj => ?_)
  rw [List.find?_flatMap]
  refine gfs_congr (fun i hi => ?_)
  rw [show 7 - j - 1 - i = 6 - j - i by omega]
  by_cases hg : gst W ss (6 - j - i) (i + 1) = true
  · rw [if_pos hg]
    exact gCo_find hk (by omega) hW (7 - j) [] (6 - j - i) 0 (by omega) (by omega) (by omega) (by omega) trivial rfl
  · rw [if_neg hg, gst_no hk (by omega) (by omega) hg]
theorem gAll_mem {k n : Nat} (hk : k ≤ 3) (q : List Int32) : q ∈ gAll k n ↔ q.length = n ∧ gca k 4 0 q := by
  unfold gAll
  rw [List.mem_flatMap]
  constructor
  · rintro ⟨j, hj, h⟩
    obtain ⟨i, hi, h⟩ := List.mem_flatMap.mp h
    rw [List.mem_range] at hi hj
    obtain ⟨s, rfl, hs, a, b, d⟩ := (gX_mem hk (by omega) n [] (n - j) 0 (by omega) (by omega) (by omega) (by omega) q).mp h
    exact ⟨hs, a⟩
  · rintro ⟨hs, a⟩
    obtain ⟨p1, p2, p3, p4⟩ := gvf_le hk (by omega) q 0 a
    have h0 : glc q = n → gvf 0 q = 0 := fun z => by omega
    refine ⟨n - glc q, List.mem_range.mpr (by omega), List.mem_flatMap.mpr ⟨gvf 0 q - min (n - glc q) 1, List.mem_range.mpr (by omega), ?_⟩⟩
    exact (gX_mem hk (by omega) n [] _ 0 (by omega) (by omega) (by omega) (by omega) q).mpr ⟨q, rfl, hs, a, by omega, by omega⟩
theorem gOne_mem {k n : Nat} (hk : k ≤ 3) (q : List Int32) : q ∈ gOne k n ↔ q.length = n ∧ gca k 4 0 q ∧ gvf 0 q = 1 := by
  unfold gOne
  rw [List.mem_flatMap]
  constructor
  · rintro ⟨i, hi, h⟩
    rw [List.mem_range] at hi
    obtain ⟨s, rfl, hs, a, b, d⟩ := (gX_mem hk (by omega) n [] (n - 1 - i) 0 (by omega) (by omega) (by omega) (by omega) q).mp h
    exact ⟨hs, a, d⟩
  · rintro ⟨hs, a, d⟩
    obtain ⟨p1, p2, p3, p4⟩ := gvf_le hk (by omega) q 0 a
    refine ⟨n - 1 - glc q, List.mem_range.mpr (by omega), ?_⟩
    exact (gX_mem hk (by omega) n [] _ 0 (by omega) (by omega) (by omega) (by omega) q).mpr ⟨q, rfl, hs, a, by omega, d⟩
