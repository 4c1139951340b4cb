/-- canonical from vu variables on: letters below k, variables below V -/
def gca (k V : Nat) : Nat → List Int32 → Prop
  | _, [] => True
  | vu, c :: s => (∃ x, x < k ∧ c = nI x ∧ gca k V vu s) ∨ (∃ v, v ≤ vu ∧ v < V ∧ c = nI (10 + v) ∧ gca k V (max vu (v + 1)) s)
/-- how many variables there are after s -/
def gvf : Nat → List Int32 → Nat
  | vu, [] => vu
  | vu, c :: s => match gvo c with | some v => gvf (max vu (v + 1)) s | none => gvf vu s
theorem gvo_l {x : Nat} (h : x < 10) : gvo (nI x) = none := by
  rcases (show x = 0 ∨ x = 1 ∨ x = 2 ∨ x = 3 ∨ x = 4 ∨ x = 5 ∨ x = 6 ∨ x = 7 ∨ x = 8 ∨ x = 9 by omega) with rfl | rfl | rfl | rfl | rfl | rfl | rfl | rfl | rfl | rfl <;> decide
theorem glc_c (c : Int32) (s : List Int32) : glc (c :: s) = glc s + if (10 : Int32) ≤ c then 0 else 1 := by
  unfold glc
  rw [List.countP_cons]
  by_cases h : (10 : Int32) ≤ c <;> simp [h]
theorem glc_l {x : Nat} (h : x < 10) (s : List Int32) : glc (nI x :: s) = glc s + 1 := by
  rw [glc_c, if_neg (by rw [show (10 : Int32) = nI 10 from rfl, gnle (by omega) (by omega)]; omega)]
theorem glc_v {v : Nat} (h : v < 4) (s : List Int32) : glc (nI (10 + v) :: s) = glc s := by
  rw [glc_c, if_pos (by rw [show (10 : Int32) = nI 10 from rfl, gnle (by omega) (by omega)]; omega)]; rfl
theorem gvf_l {x : Nat} (h : x < 10) (vu : Nat) (s : List Int32) : gvf vu (nI x :: s) = gvf vu s := by rw [gvf, gvo_l h]
theorem gvf_v {v : Nat} (h : v < 4) (vu : Nat) (s : List Int32) : gvf vu (nI (10 + v) :: s) = gvf (max vu (v + 1)) s := by rw [gvf, gvo_nI h]
theorem gvf_ge : ∀ (s : List Int32) (vu : Nat), vu ≤ gvf vu s
  | [], vu => Nat.le_refl _
  | c :: s, vu => by
    rw [gvf]
    split
    · next v _ => have := gvf_ge s (max vu (v + 1)); omega
    · exact gvf_ge s vu
theorem gvf_le {k V : Nat} (hk : k ≤ 3) (hV : V ≤ 4) : ∀ (s : List Int32) (vu : Nat), gca k V vu s → gvf vu s ≤ vu + (s.length - glc s) ∧ gvf vu s ≤ max vu V ∧ glc s ≤ s.length ∧ (glc s < s.length → 1 ≤ gvf vu s)
  | [], vu, _ => ⟨Nat.le_refl _, Nat.le_max_left _ _, Nat.le_refl _, fun h => absurd h (Nat.lt_irrefl _)⟩
  | c :: s, vu, h => by
    rw [gca] at h
    rcases h with ⟨x, hx, rfl, h⟩ | ⟨v, h1, h2, rfl, h⟩
    · obtain ⟨a, b, c, d⟩ := gvf_le hk hV s vu h
      rw [gvf_l (by omega), glc_l (by omega), List.length_cons]
      refine ⟨by omega, by omega, by omega, fun q => d (by omega)⟩
    · obtain ⟨a, b, c, d⟩ := gvf_le hk hV s _ h
      have := gvf_ge s (max vu (v + 1))
      rw [gvf_v (by omega), glc_v (by omega), List.length_cons]
      refine ⟨by omega, by omega, by omega, fun q => by omega⟩
theorem gca_mono {k V V' : Nat} (hk : k ≤ 3) (hV : V ≤ 4) : ∀ (s : List Int32) (vu : Nat), gca k V vu s → gvf vu s ≤ V' → gca k V' vu s
  | [], _, _, _ => trivial
  | c :: s, vu, h, hf => by
    rw [gca] at h ⊢
    rcases h with ⟨x, hx, rfl, h⟩ | ⟨v, h1, h2, rfl, h⟩
    · rw [gvf_l (by omega)] at hf
      exact Or.inl ⟨x, hx, rfl, gca_mono hk hV s vu h hf⟩
    · rw [gvf_v (by omega)] at hf
      have := gvf_ge s (max vu (v + 1))
      exact Or.inr ⟨v, h1, by omega, rfl, gca_mono hk hV s _ h hf⟩
theorem gca_co {k V : Nat} (hk : k ≤ 3) (hV : V ≤ 4) : ∀ (s : List Int32) (vu : Nat), gca k V vu s → gco vu s
  | [], _, _ => by rw [gco]; trivial
  | c :: s, vu, h => by
    rw [gca] at h
    rw [gco]
    rcases h with ⟨x, hx, rfl, h⟩ | ⟨v, h1, h2, rfl, h⟩
    · rw [gvo_l (by omega)]; exact gca_co hk hV s vu h
    · rw [gvo_nI (by omega)]
      have ih := gca_co hk hV s _ h
      by_cases q : v < vu
      · exact Or.inl ⟨q, by rw [show max vu (v + 1) = vu by omega] at ih; exact ih⟩
      · exact Or.inr ⟨by omega, by rw [show max vu (v + 1) = vu + 1 by omega] at ih; exact ih⟩
theorem gca_sy {k V : Nat} (hk : k ≤ 3) (hV : V ≤ 4) : ∀ (s : List Int32) (vu : Nat), gca k V vu s → ∀ c ∈ s, gsc k c
  | [], _, _ => fun c hc => by cases hc
  | c :: s, vu, h => fun y hy => by
    rw [gca] at h
    rcases h with ⟨x, hx, rfl, h⟩ | ⟨v, h1, h2, rfl, h⟩
    · rcases List.mem_cons.mp hy with rfl | hy
      · exact Or.inl (by rw [nI_toInt (by omega)]; omega)
      · exact gca_sy hk hV s vu h y hy
    · rcases List.mem_cons.mp hy with rfl | hy
      · exact Or.inr (by rw [nI_toInt (by omega)]; omega)
      · exact gca_sy hk hV s _ h y hy
theorem gca_app {k V : Nat} (hk : k ≤ 3) (hV : V ≤ 4) : ∀ (c s : List Int32) (vu : Nat), gca k V vu (c ++ s) ↔ gca k V vu c ∧ gca k V (gvf vu c) s
  | [], s, vu => ⟨fun h => ⟨trivial, h⟩, fun h => h.2⟩
  | x :: c, s, vu => by
    rw [List.cons_append, gca, gca]
    constructor
    · rintro (⟨y, hy, rfl, h⟩ | ⟨v, h1, h2, rfl, h⟩)
      · rw [gvf_l (by omega)]
        have := (gca_app hk hV c s vu).mp h
        exact ⟨Or.inl ⟨y, hy, rfl, this.1⟩, this.2⟩
      · rw [gvf_v (by omega)]
        have := (gca_app hk hV c s _).mp h
        exact ⟨Or.inr ⟨v, h1, h2, rfl, this.1⟩, this.2⟩
    · rintro ⟨⟨y, hy, rfl, h⟩ | ⟨v, h1, h2, rfl, h⟩, h9⟩
      · rw [gvf_l (by omega)] at h9
        exact Or.inl ⟨y, hy, rfl, (gca_app hk hV c s vu).mpr ⟨h, h9⟩⟩
      · rw [gvf_v (by omega)] at h9
        exact Or.inr ⟨v, h1, h2, rfl, (gca_app hk hV c s _).mpr ⟨h, h9⟩⟩
theorem gvf_app : ∀ (c s : List Int32) (vu : Nat), gvf vu (c ++ s) = gvf (gvf vu c) s
  | [], s, vu => rfl
  | x :: c, s, vu => by
    rw [List.cons_append, gvf, gvf]
    cases gvo x with
    | none => exact gvf_app c s vu
    | some v => exact gvf_app c s _
theorem glc_app (c s : List Int32) : glc (c ++ s) = glc c + glc s := by unfold glc; exact List.countP_append
/-- the class's candidates in its order -/
def gX (k V : Nat) : Nat → List Int32 → Nat → Nat → List (List Int32)
  | 0, c, _, _ => [c]
  | m + 1, c, ll, vu => (List.range (if 0 < ll then k else 0)).flatMap (fun x => gX k V m (c ++ [nI x]) (ll - 1) vu) ++
      (if 0 < m + 1 - ll then (List.range (min vu (V - 1) + 1 - (if V - vu < m + 1 - ll then 0 else vu))).flatMap (fun i => gX k V m (c ++ [nI (10 + ((if V - vu < m + 1 - ll then 0 else vu) + i))]) ll (max vu ((if V - vu < m + 1 - ll then 0 else vu) + i + 1))) else [])
theorem gX_mem {k V : Nat} (hk : k ≤ 3) (hV : V ≤ 4) : ∀ (m : Nat) (c : List Int32) (ll vu : Nat), ll ≤ m → vu ≤ V → V - vu ≤ m - ll → (0 < m - ll → 1 ≤ V) → ∀ q, q ∈ gX k V m c ll vu ↔ ∃ s, q = c ++ s ∧ s.length = m ∧ gca k 4 vu s ∧ glc s = ll ∧ gvf vu s = V
  | 0, c, ll, vu, h1, h2, h3, h4, q => by
    rw [gX, List.mem_singleton]
    constructor
    · rintro rfl
      exact ⟨[], (List.append_nil _).symm, rfl, trivial, (by have : glc [] = 0 := rfl; omega), (by show vu = V; omega)⟩
    · rintro ⟨s, rfl, hs, -⟩
      rw [List.eq_nil_of_length_eq_zero hs, List.append_nil]
  | m + 1, c, ll, vu, h1, h2, h3, h4, q => by
    rw [gX, List.mem_append, List.mem_flatMap]
    constructor
    · rintro (⟨x, hx, hq⟩ | hq)
      · rw [List.mem_range] at hx
        split at hx
        · next hl =>
          obtain ⟨s, rfl, hs, a, b, d⟩ := (gX_mem hk hV m _ _ _ (by omega) h2 (by omega) (by omega) q).mp hq
          exact ⟨nI x :: s, by simp, by rw [List.length_cons, hs], Or.inl ⟨x, hx, rfl, a⟩, by rw [glc_l (by omega)]; omega, by rw [gvf_l (by omega)]; exact d⟩
        · omega
      · split at hq
        · next hl =>
          rw [List.mem_flatMap] at hq
          obtain ⟨i, hi, hq⟩ := hq
          rw [List.mem_range] at hi
          generalize hlo : (if V - vu < m + 1 - ll then 0 else vu) = lo at hi hq
          have hlo2 : (V - vu < m + 1 - ll ∧ lo = 0) ∨ (¬ V - vu < m + 1 - ll ∧ lo = vu) := by
            by_cases z : V - vu < m + 1 - ll
            · rw [if_pos z] at hlo; exact Or.inl ⟨z, hlo.symm⟩
            · rw [if_neg z] at hlo; exact Or.inr ⟨z, hlo.symm⟩
          have hVV : 1 ≤ V := by omega
          obtain ⟨s, rfl, hs, a, b, d⟩ := (gX_mem hk hV m _ _ _ (by omega) (by omega) (by omega) (by omega) q).mp hq
          exact ⟨nI (10 + (lo + i)) :: s, by simp, by rw [List.length_cons, hs], Or.inr ⟨lo + i, by omega, by omega, rfl, a⟩, by rw [glc_v (by omega)]; exact b, by rw [gvf_v (by omega)]; exact d⟩
        · cases hq
    · rintro ⟨s, rfl, hs, a, b, d⟩
      cases s with
      | nil => cases hs
      | cons y s =>
        rw [gca] at a
        rw [List.length_cons] at hs
        rcases a with ⟨x, hx, rfl, a⟩ | ⟨v, hv, hv4, rfl, a⟩
        · rw [glc_l (by omega)] at b
          rw [gvf_l (by omega)] at d
          refine Or.inl ⟨x, List.mem_range.mpr (by rw [if_pos (by omega)]; exact hx), (gX_mem hk hV m _ _ _ (by omega) h2 (by omega) (by omega) _).mpr ⟨s, by simp, by omega, a, by omega, d⟩⟩
        · rw [glc_v (by omega)] at b
          rw [gvf_v (by omega)] at d
          have hg := gvf_le hk (by omega) s _ a
          have hge := gvf_ge s (max vu (v + 1))
          right
          rw [if_pos (by omega), List.mem_flatMap]
          generalize hlo : (if V - vu < m + 1 - ll then 0 else vu) = lo
          have hlo2 : (V - vu < m + 1 - ll ∧ lo = 0) ∨ (¬ V - vu < m + 1 - ll ∧ lo = vu) := by
            by_cases z : V - vu < m + 1 - ll
            · rw [if_pos z] at hlo; exact Or.inl ⟨z, hlo.symm⟩
            · rw [if_neg z] at hlo; exact Or.inr ⟨z, hlo.symm⟩
          have hvlo : lo ≤ v := by omega
          obtain ⟨i, rfl⟩ : ∃ i, v = lo + i := ⟨v - lo, by omega⟩
          exact ⟨i, List.mem_range.mpr (by omega), (gX_mem hk hV m _ _ _ (by omega) (by omega) (by omega) (by omega) _).mpr ⟨s, by simp, by omega, a, b, d⟩⟩
/-- the reference's candidates -/
def gY (k V : Nat) : Nat → List Int32 → Nat → List (List Int32)
  | 0, c, _ => [c]
  | m + 1, c, vu => (List.range k).flatMap (fun x => gY k V m (c ++ [nI x]) vu) ++ (List.range (min (vu + 1) V)).flatMap (fun v => gY k V m (c ++ [nI (10 + v)]) (max vu (v + 1)))
theorem gY_mem {k V : Nat} : ∀ (m : Nat) (c : List Int32) (vu : Nat), ∀ q, q ∈ gY k V m c vu ↔ ∃ s, q = c ++ s ∧ s.length = m ∧ gca k V vu s
  | 0, c, vu, q => by
    rw [gY, List.mem_singleton]
    constructor
    · rintro rfl
      exact ⟨[], (List.append_nil _).symm, rfl, trivial⟩
    · rintro ⟨s, rfl, hs, -⟩
      rw [List.eq_nil_of_length_eq_zero hs, List.append_nil]
  | m + 1, c, vu, q => by
    rw [gY, List.mem_append, List.mem_flatMap, List.mem_flatMap]
    constructor
    · rintro (⟨x, hx, hq⟩ | ⟨v, hv, hq⟩)
      · obtain ⟨s, rfl, hs, a⟩ := (gY_mem m _ _ q).mp hq
        exact ⟨nI x :: s, by simp, by rw [List.length_cons, hs], Or.inl ⟨x, List.mem_range.mp hx, rfl, a⟩⟩
      · obtain ⟨s, rfl, hs, a⟩ := (gY_mem m _ _ q).mp hq
        have := List.mem_range.mp hv
        exact ⟨nI (10 + v) :: s, by simp, by rw [List.length_cons, hs], Or.inr ⟨v, by omega, by omega, rfl, a⟩⟩
    · rintro ⟨s, rfl, hs, a⟩
      cases s with
      | nil => cases hs
      | cons y s =>
        rw [gca] at a
        rw [List.length_cons] at hs
        rcases a with ⟨x, hx, rfl, a⟩ | ⟨v, hv, hv4, rfl, a⟩
        · exact Or.inl ⟨x, List.mem_range.mpr hx, (gY_mem m _ _ _).mpr ⟨s, by simp, by omega, a⟩⟩
        · exact Or.inr ⟨v, List.mem_range.mpr (by omega), (gY_mem m _ _ _).mpr ⟨s, by simp, by omega, a⟩⟩
/-- a comes first: at the first place where they differ it has the smaller symbol -/
def gfst (a b : List Int32) : Prop := ∃ u x y s s', a = u ++ nI x :: s ∧ b = u ++ nI y :: s' ∧ x < y ∧ y < 14
theorem gX_pre {k V : Nat} : ∀ (m : Nat) (c : List Int32) (ll vu : Nat), ∀ q ∈ gX k V m c ll vu, ∃ s, q = c ++ s
  | 0, c, ll, vu, q, h => by rw [gX, List.mem_singleton] at h; exact ⟨[], by rw [h, List.append_nil]⟩
  | m + 1, c, ll, vu, q, h => by
    rw [gX, List.mem_append, List.mem_flatMap] at h
    rcases h with ⟨x, hx, hq⟩ | hq
    · obtain ⟨s, rfl⟩ := gX_pre m _ _ _ q hq
      exact ⟨nI x :: s, by simp⟩
    · split at hq
      · rw [List.mem_flatMap] at hq
        obtain ⟨i, hi, hq⟩ := hq
        obtain ⟨s, rfl⟩ := gX_pre m _ _ _ q hq
        exact ⟨_ :: s, by rw [List.append_assoc]; rfl⟩
      · cases hq
theorem gpw_fl {α : Type} {P : α → α → Prop} (n : Nat) (f : Nat → List α) (h1 : ∀ i, i < n → (f i).Pairwise P) (h2 : ∀ i j, i < j → j < n → ∀ a ∈ f i, ∀ b ∈ f j, P a b) : ((List.range n).flatMap f).Pairwise P := by
  induction n with
  | zero => exact List.Pairwise.nil
  | succ n ih =>
    rw [List.range_succ, List.flatMap_append, List.pairwise_append]
    refine ⟨ih (fun i hi => h1 i (by omega)) (fun i j hij hj => h2 i j hij (by omega)), ?_, fun a ha b hb => ?_⟩
    · rw [List.flatMap_singleton]; exact h1 n (by omega)
    · rw [List.flatMap_singleton] at hb
      obtain ⟨i, hi, ha⟩ := List.mem_flatMap.mp ha
      exact h2 i n (List.mem_range.mp hi) (by omega) a ha b hb
theorem gX_srt {k V : Nat} (hk : k ≤ 3) (hV : V ≤ 4) : ∀ (m : Nat) (c : List Int32) (ll vu : Nat), vu ≤ V → (0 < m - ll → 1 ≤ V) → (gX k V m c ll vu).Pairwise gfst
  | 0, c, ll, vu, _, _ => by rw [gX]; exact List.pairwise_singleton _ _
  | m + 1, c, ll, vu, hvu, h4 => by
    rw [gX, List.pairwise_append]
    refine ⟨?_, ?_, ?_⟩
    · refine gpw_fl _ _ (fun i hi => gX_srt hk hV m _ _ _ hvu (by split at hi <;> omega)) (fun i j hij hj a ha b hb => ?_)
      have hjk : j < k := by
        split at hj
        · exact hj
        · omega
      obtain ⟨s, rfl⟩ := gX_pre _ _ _ _ _ ha
      obtain ⟨s', rfl⟩ := gX_pre _ _ _ _ _ hb
      exact ⟨c, i, j, s, s', by simp, by simp, hij, by omega⟩
    · split
      · next hpl =>
        generalize (if V - vu < m + 1 - ll then 0 else vu) = lo
        have hV0 : 1 ≤ V := h4 (by omega)
        refine gpw_fl _ _ (fun i hi => gX_srt hk hV m _ _ _ (by omega) (by omega)) (fun i j hij hj a ha b hb => ?_)
        obtain ⟨s, rfl⟩ := gX_pre _ _ _ _ _ ha
        obtain ⟨s', rfl⟩ := gX_pre _ _ _ _ _ hb
        exact ⟨c, 10 + (lo + i), 10 + (lo + j), s, s', by simp, by simp, by omega, by omega⟩
      · exact List.Pairwise.nil
    · intro a ha b hb
      obtain ⟨x, hx, ha⟩ := List.mem_flatMap.mp ha
      rw [List.mem_range] at hx
      split at hb
      · next hpl =>
        have hV0 : 1 ≤ V := h4 (by omega)
        obtain ⟨i, hi, hb⟩ := List.mem_flatMap.mp hb
        rw [List.mem_range] at hi
        generalize (if V - vu < m + 1 - ll then 0 else vu) = lo at hi hb
        have hxk : x < k := by
          split at hx
          · exact hx
          · omega
        obtain ⟨s, rfl⟩ := gX_pre _ _ _ _ _ ha
        obtain ⟨s', rfl⟩ := gX_pre _ _ _ _ _ hb
        exact ⟨c, x, 10 + (lo + i), s, s', by simp, by simp, by omega, by omega⟩
      · cases hb
