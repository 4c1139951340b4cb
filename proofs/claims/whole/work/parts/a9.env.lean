theorem gtot_app (w : Nat → Nat) (q r : List Int32) : gtot w (q ++ r) = gtot w q + gtot w r := by
  induction q with
  | nil => rw [List.nil_append]; show _ = 0 + _; omega
  | cons c q ih =>
    rw [List.cons_append, gtot, gtot, ih]
    split <;> omega
theorem gco_split {v : Nat} {c : Int32} (hv : gvo c = some v) : ∀ (q r : List Int32) (n : Nat), gco n (q ++ c :: r) → v ≤ gvf n q
  | [], r, n, h => by
    rw [List.nil_append, gco, hv] at h
    show v ≤ n
    rcases h with h | h <;> omega
  | x :: q, r, n, h => by
    rw [List.cons_append, gco] at h
    rw [gvf]
    cases hx : gvo x with
    | none => rw [hx] at h; exact gco_split hv q r n h
    | some u =>
      rw [hx] at h
      rcases h with ⟨h1, h2⟩ | ⟨h1, h2⟩
      · show v ≤ gvf (max n (u + 1)) q
        rw [show max n (u + 1) = n by omega]; exact gco_split hv q r n h2
      · show v ≤ gvf (max n (u + 1)) q
        rw [show max n (u + 1) = n + 1 by omega]; exact gco_split hv q r (n + 1) h2
/-- what the matcher's search leaves -/
theorem gE_env {t : List Int32} {L nv : Nat} {us : Nat → Nat} : ∀ (ps : List Int32) (n a s : Nat) (e e' : GV), gco n ps → (∀ u, u < n → e u ≠ none) → (∀ u, n ≤ u → e u = none) → (∀ v, n ≤ v → us v = gus ps v) → s + gnd L e ps + a = t.length → e' ∈ gE t L 0 nv us ps a s e →
    (∀ u x, e u = some x → e' u = some x) ∧ a + gtot (gsz' e') ps = t.length ∧ ∀ q c r v, ps = q ++ c :: r → gvo c = some v → v = gvf n q → e' v = some (a + gtot (gsz' e') q, gsz' e' v) := by
  intro ps
  induction ps with
  | nil =>
    intro n a s e e' _ _ _ _ hs h
    rw [gE] at h
    have hs : s + 0 + a = t.length := hs
    split at h
    · rw [List.mem_singleton] at h
      subst h
      refine ⟨fun _ _ h => h, ?_, fun q c r v h => ?_⟩
      · show a + 0 = _; omega
      · cases q <;> cases h
    · cases h
  | cons x ps ih =>
    intro n a s e e' hco hlt hge hus hs h
    rw [gE] at h
    cases hx : gvo x with
    | none =>
      have hco' : gco n ps := by unfold gco at hco; rw [hx] at hco; exact hco
      rw [gnd_n hx] at hs
      rw [hx] at h
      dsimp only at h
      split at h
      · obtain ⟨h1, h2, h3⟩ := ih n (a + 1) s e e' hco' hlt hge (fun v q => by rw [hus v q, gus_c, hx, if_neg (by simp)]; rfl) (by omega) h
        have ht : ∀ l, gtot (gsz' e') (x :: l) = 1 + gtot (gsz' e') l := fun l => by rw [gtot, hx]
        refine ⟨h1, by rw [ht]; omega, fun q c r v he hv hvf => ?_⟩
        cases q with
        | nil => cases he; rw [hx] at hv; cases hv
        | cons y q =>
          cases he
          rw [gvf, hx] at hvf
          rw [ht, h3 q c r v rfl hv hvf]
          congr 2; omega
      · cases h
    | some u =>
      unfold gco at hco
      rw [hx] at hco h
      dsimp only at h
      have ht : ∀ l, gtot (gsz' e') (x :: l) = gsz' e' u + gtot (gsz' e') l := fun l => by rw [gtot, hx]
      rcases hco with ⟨hun, hco'⟩ | ⟨hun, hco'⟩
      · obtain ⟨⟨b, z⟩, he⟩ := Option.ne_none_iff_exists'.mp (hlt u hun)
        rw [gnd_k hx he] at hs
        rw [he] at h
        dsimp only at h
        split at h
        · obtain ⟨h1, h2, h3⟩ := ih n (a + z) s e e' hco' hlt hge (fun w q => by rw [hus w q, gus_c, hx, if_neg (by simp; omega)]; rfl) (by omega) h
          have hz : gsz' e' u = z := by unfold gsz'; rw [h1 u _ he]
          refine ⟨h1, by rw [ht, hz]; omega, fun q c r v hq hv hvf => ?_⟩
          cases q with
          | nil =>
            cases hq
            rw [hx] at hv
            cases hv
            exact absurd hvf (by show ¬ u = n; omega)
          | cons y q =>
            cases hq
            rw [gvf, hx] at hvf
            dsimp only at hvf
            rw [show max n (u + 1) = n by omega] at hvf
            rw [ht, hz, h3 q c r v rfl hv hvf]
            congr 2; omega
        · cases h
      · subst hun
        have he : e u = none := hge u (Nat.le_refl _)
        have husv : us u = gus ps u + 1 := by rw [hus u (Nat.le_refl _), gus_c, if_pos hx]
        rw [gnd_u hx he] at hs
        rw [he] at h
        dsimp only at h
        obtain ⟨k, hk, h⟩ := List.mem_flatMap.mp h
        have hkm : k * us u ≤ s := (Nat.le_div_iff_mul_le (by omega)).mp (Nat.le_of_lt_succ (List.mem_range.mp hk))
        have hm : k * us u = k * gus ps u + k := by rw [husv, Nat.mul_add, Nat.mul_one]
        split at h
        · cases h
        · obtain ⟨h1, h2, h3⟩ := ih (u + 1) (a + (L + k)) (s - k * us u) (gVs e u a (L + k)) e' hco' (fun w hw => by unfold gVs; split; exact Option.some_ne_none _; exact hlt w (by omega)) (fun w hw => by unfold gVs; rw [if_neg (by omega)]; exact hge w (by omega)) (fun w hw => by rw [hus w (by omega), gus_c, if_neg (by rw [hx]; simp; omega)]; rfl) (by rw [gnd_set he]; omega) h
          have hself := h1 u (a, L + k) (by simp [gVs])
          have hz : gsz' e' u = L + k := by unfold gsz'; rw [hself]
          refine ⟨fun w y hw => h1 w y (by unfold gVs; rw [if_neg (by rintro rfl; rw [he] at hw; cases hw)]; exact hw), by rw [ht, hz]; omega, fun q c r v hq hv hvf => ?_⟩
          cases q with
          | nil =>
            cases hq
            rw [hx] at hv
            cases hv
            rw [hself, hz]; rfl
          | cons y q =>
            cases hq
            rw [gvf, hx] at hvf
            dsimp only at hvf
            rw [show max u (u + 1) = u + 1 by omega] at hvf
            rw [ht, hz, h3 q c r v rfl hv hvf]
            congr 2; omega
theorem genv_at {p t : List Int32} {md : Int32} (hc : gco 0 p) (h : gMB p t md 0 0 = true) : gtot (gsz' (genv p t md)) p = t.length ∧ ∀ i v, i < p.length → gvo (p.getD i (-1)) = some v → v = gvf 0 (p.take i) → genv p t md v = some (gtot (gsz' (genv p t md)) (p.take i), gsz' (genv p t md) v) := by
  obtain ⟨h1, -, h3⟩ := of_decide_eq_true h
  have h3 : gEs p t (gL md) 0 (t.length - gned (gL md) p) ≠ [] := h3
  have hmem : genv p t md ∈ gEs p t (gL md) 0 (t.length - gned (gL md) p) := by
    unfold genv
    cases hq : gEs p t (gL md) 0 (t.length - gned (gL md) p) with
    | nil => exact absurd hq h3
    | cons y l => exact List.mem_cons_self ..
  obtain ⟨-, h5, h6⟩ := gE_env p 0 0 _ gV0 (genv p t md) hc (fun u hu => absurd hu (by omega)) (fun u _ => rfl) (fun v _ => rfl) (by rw [gnd_0]; omega) hmem
  refine ⟨by rw [← h5]; omega, fun i v hi hv hvf => ?_⟩
  have hsp : p = p.take i ++ p.getD i (-1) :: p.drop (i + 1) := by rw [← gdropD hi, List.take_append_drop]
  have := h6 _ _ _ v hsp hv hvf
  rw [Nat.zero_add] at this
  exact this
theorem gvf_take {p : List Int32} {i : Nat} (hi : i < p.length) (n : Nat) : gvf n (p.take (i + 1)) = match gvo (p.getD i (-1)) with | some v => max (gvf n (p.take i)) (v + 1) | none => gvf n (p.take i) := by
  rw [gtk1 hi, gvf_app, gvf]
  cases gvo (p.getD i (-1)) <;> rfl
theorem gtot_take {w : Nat → Nat} {p : List Int32} {i : Nat} (hi : i < p.length) : gtot w (p.take (i + 1)) = gtot w (p.take i) + match gvo (p.getD i (-1)) with | some v => w v | none => 1 := by
  rw [gtk1 hi, gtot_app, gtot]
  cases gvo (p.getD i (-1)) <;> rfl
theorem gtot_le (w : Nat → Nat) (p : List Int32) (i : Nat) : gtot w (p.take i) ≤ gtot w p := by
  have h := gtot_app w (p.take i) (p.drop i)
  rw [List.take_append_drop] at h
  omega
