theorem gned_cons (L : Nat) (c : Int32) (p : List Int32) : gned L (c :: p) = gned L p + if (gvo c).isSome = true then L else 1 := by
  have key : ∀ (p : List Int32) (n : Nat), p.foldl (fun n c => if (gvo c).isSome = true then n + L else n + 1) n = n + p.foldl (fun n c => if (gvo c).isSome = true then n + L else n + 1) 0 := by
    intro p
    induction p with
    | nil => intro n; rfl
    | cons c p ih =>
      intro n
      rw [List.foldl_cons, List.foldl_cons, ih (if (gvo c).isSome = true then n + L else n + 1), ih (if (gvo c).isSome = true then 0 + L else 0 + 1)]
      split <;> omega
  unfold gned
  rw [List.foldl_cons, key]
  split <;> omega
theorem gned_eq {p : List Int32} (hs : ∀ c ∈ p, gsy c) (L : Nat) : gned L p = glc p + grst L (gus p) 4 := by
  have e : ∀ q, grst L (gus q) 4 = L * gus q 0 + L * gus q 1 + L * gus q 2 + L * gus q 3 := fun q => by show L * gus q 0 + (L * gus q 1 + (L * gus q 2 + (L * gus q 3 + 0))) = _; omega
  rw [e]
  induction p with
  | nil => rfl
  | cons c p ih =>
    have ih := ih (fun x hx => hs x (List.mem_cons_of_mem _ hx))
    have hsc := hs c (List.mem_cons_self ..)
    have hlc : glc (c :: p) = glc p + if (10 : Int32) ≤ c then 0 else 1 := by
      unfold glc
      rw [List.countP_cons]
      by_cases e : (10 : Int32) ≤ c <;> simp only [e, not_true_eq_false, not_false_eq_true, decide_false, decide_true, if_true, if_false, Bool.false_eq_true]
    have hc : ∀ u, gus (c :: p) u = gus p u + if gvo c = some u then 1 else 0 := fun u => by
      rw [gus_cP, gus_cP, List.countP_cons]
      simp
    rw [gned_cons, ih, hlc, hc 0, hc 1, hc 2, hc 3]
    cases hvo : gvo c with
    | none =>
      have := gvo_none hsc hvo
      rw [if_neg (c := (10 : Int32) ≤ c) (by rw [Int32.le_iff_toInt_le, show (10 : Int32).toInt = 10 by decide]; omega)]
      simp
      omega
    | some v =>
      obtain ⟨hv4, -, hce⟩ := gvo_some hvo
      rw [if_pos (c := (10 : Int32) ≤ c) (by rw [hce, show (10 : Int32) = nI 10 from rfl, gnle (by omega) (by omega)]; omega)]
      rcases (show v = 0 ∨ v = 1 ∨ v = 2 ∨ v = 3 by omega) with rfl | rfl | rfl | rfl <;> simp [Nat.mul_add] <;> omega
/-- the class's matches, by their lengths, are the reference's -/
theorem gsol_E {p t : List Int32} (hs : ∀ c ∈ p, gsy c) (hc : gco 0 p) (md : Int32) : (if gned (gL md) p ≤ t.length then (gEs p t (gL md) 0 (t.length - gned (gL md) p)).map gsz' else []) = gsol p t md := by
  have hne := gned_eq hs (gL md)
  unfold gsol
  by_cases h : gned (gL md) p ≤ t.length
  · rw [if_pos h, if_pos (by omega), gch_gn]
    unfold gEs
    rw [gE_gn (gnv_le p) p 0 0 _ gV0 (by omega) hc hs (fun c hc v hv => gnv_lt hc hv) (fun u hu => by omega) (fun u _ => rfl) (fun v _ _ => rfl)]
    rw [show t.length - gned (gL md) p + grst (gL md) (gus p) (4 - 0) = t.length - glc p from by show _ + grst (gL md) (gus p) 4 = _; omega]
    rfl
  · rw [if_neg h]
    split
    · rw [gch_gn, ggn_short 4 _ _ (by omega)]; rfl
    · rfl
theorem gE_nv0 {p t : List Int32} {L s : Nat} (h0 : gnv p = 0) (hs : 0 < s) : gEs p t L 0 s = [] :=
  gE_pos p 0 s gV0 hs (fun c hc v hv => by have := gnv_lt hc hv; omega)
theorem gMB_sol {p t : List Int32} (hs : ∀ c ∈ p, gsy c) (hc : gco 0 p) (md : Int32) : gMB p t md 0 0 = decide (gsol p t md ≠ []) := by
  rw [← gsol_E hs hc md]
  unfold gMB
  congr 1
  apply propext
  constructor
  · intro ⟨h1, h2, h3⟩
    rw [Nat.add_zero] at h1
    rw [if_pos h1]
    intro q
    exact h3 (List.map_eq_nil_iff.mp q)
  · intro h
    by_cases h1 : gned (gL md) p ≤ t.length
    · rw [if_pos h1] at h
      refine ⟨h1, ?_, fun q => h (by rw [show gEs p t (gL md) 0 (t.length - gned (gL md) p) = [] from q]; rfl)⟩
      by_cases h2 : 0 < gnv p
      · exact Or.inl h2
      · refine Or.inr ?_
        apply Classical.byContradiction
        intro h3
        exact h (by rw [gE_nv0 (by omega) (by omega)]; rfl)
    · rw [if_neg h1] at h
      exact absurd rfl h
theorem gCA_sol {p t : List Int32} (hs : ∀ c ∈ p, gsy c) (hc : gco 0 p) (md : Int32) : gCA p t md = min 2147483647 (gsol p t md).length := by
  rw [← gsol_E hs hc md]
  unfold gCA
  by_cases h1 : gned (gL md) p ≤ t.length
  · rw [if_pos h1, List.length_map]
    by_cases h2 : 0 < gnv p ∨ t.length - gned (gL md) p ≤ 0
    · rw [if_pos ⟨h1, h2⟩]
    · rw [if_neg (fun q => h2 q.2), gE_nv0 (by omega) (by omega)]; rfl
  · rw [if_neg h1, if_neg (fun q => h1 q.1)]; rfl
theorem genv_sol {p t : List Int32} (hs : ∀ c ∈ p, gsy c) (hc : gco 0 p) (md : Int32) (h : gMB p t md 0 0 = true) : (gsol p t md).headD (fun _ => 0) = gsz' (genv p t md) := by
  obtain ⟨h1, -, h3⟩ := of_decide_eq_true h
  rw [Nat.add_zero] at h1
  rw [← gsol_E hs hc md, if_pos h1]
  unfold genv
  have h3' : gEs p t (gL md) 0 (t.length - gned (gL md) p) ≠ [] := h3
  cases hq : gEs p t (gL md) 0 (t.length - gned (gL md) p) with
  | nil => exact absurd hq h3'
  | cons a l => rfl
/-- the renamed pattern is in order -/
theorem gno_co : ∀ (l : List Int32) (ren : Nat → Int32) (n : Nat), n ≤ 4 → (∀ c ∈ l, gsy c) → (∀ u, u < 4 → ren u < 0 ∨ ∃ w, w < n ∧ ren u = nI (10 + w)) → (n + (List.range 4).countP (fun u => decide (ren u < 0)) ≤ 4) → gco n (gno l ren (nI (10 + n)))
  | [], _, _, _, _, _, _ => trivial
  | y :: ys, ren, n, hn, hs, hr, hcnt => by
    have hs2 : ∀ c ∈ ys, gsy c := fun c hc => hs c (List.mem_cons_of_mem _ hc)
    rw [gno]
    cases hvo : gvo y with
    | none =>
      show gco n (y :: gno ys ren (nI (10 + n)))
      simp only [gco, hvo]
      exact gno_co ys ren n hn hs2 hr hcnt
    | some v =>
      obtain ⟨hv4, -, -⟩ := gvo_some hvo
      by_cases h : ren v < 0
      · show gco n (if ren v < 0 then _ else _)
        rw [if_pos h]
        have hn4 : n < 4 := by
          have h1 : 0 < (List.range 4).countP (fun u => decide (ren u < 0)) := List.countP_pos_iff.mpr ⟨v, List.mem_range.mpr hv4, decide_eq_true h⟩
          omega
        simp only [gco, gvo_nI hn4]
        refine Or.inr ⟨by trivial, ?_⟩
        rw [show nI (10 + n) + 1 = nI (10 + (n + 1)) from (nI_succ _).symm]
        refine gno_co ys (gU ren v (nI (10 + n))) (n + 1) (by omega) hs2 (fun u hu => ?_) ?_
        · unfold gU
          by_cases e : u = v
          · rw [if_pos e]; exact Or.inr ⟨n, by omega, rfl⟩
          · rw [if_neg e]
            rcases hr u hu with q | ⟨w, hw, q⟩
            · exact Or.inl q
            · exact Or.inr ⟨w, by omega, q⟩
        · have hpos : ¬ nI (10 + n) < 0 := by rw [gcz0, nI_toInt (by omega)]; omega
          have h4 : ∀ f : Nat → Bool, (List.range 4).countP f = (if f 0 then 1 else 0) + (if f 1 then 1 else 0) + (if f 2 then 1 else 0) + (if f 3 then 1 else 0) := fun f => by
            show ([0, 1, 2, 3] : List Nat).countP f = _
            simp only [List.countP_cons, List.countP_nil]
            omega
          rw [h4] at hcnt ⊢
          rcases (show v = 0 ∨ v = 1 ∨ v = 2 ∨ v = 3 by omega) with rfl | rfl | rfl | rfl <;> simp [gU, hpos, h] at hcnt ⊢ <;> omega
      · show gco n (if ren v < 0 then _ else _)
        rw [if_neg h]
        rcases hr v hv4 with q | ⟨w, hw, q⟩
        · exact absurd q h
        · rw [q]
          simp only [gco, gvo_nI (show w < 4 by omega)]
          exact Or.inl ⟨hw, gno_co ys ren n hn hs2 hr hcnt⟩
theorem gcan_co {l : List Int32} (hs : ∀ c ∈ l, gsy c) : gco 0 (gcan l) := by
  rw [← gno_can hs]
  exact gno_co l (fun _ => -1) 0 (by omega) hs (fun u _ => Or.inl (by decide)) (by decide)
