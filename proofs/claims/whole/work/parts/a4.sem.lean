/-- what the images s make of a pattern -/
def gMt (s : Nat → List Int32) (p : List Int32) : List Int32 := p.flatMap (fun c => match gvo c with | some v => s v | none => [c])
theorem gMt_n {s : Nat → List Int32} {p : List Int32} {c : Int32} (h : gvo c = none) : gMt s (c :: p) = c :: gMt s p := by
  unfold gMt; rw [List.flatMap_cons, h]; rfl
theorem gMt_v {s : Nat → List Int32} {p : List Int32} {c : Int32} {v : Nat} (h : gvo c = some v) : gMt s (c :: p) = s v ++ gMt s p := by
  unfold gMt; rw [List.flatMap_cons, h]
theorem gMt_app (s : Nat → List Int32) (p q : List Int32) : gMt s (p ++ q) = gMt s p ++ gMt s q := List.flatMap_append
theorem gus_c (c : Int32) (p : List Int32) (v : Nat) : gus (c :: p) v = gus p v + if gvo c = some v then 1 else 0 := by
  rw [gus_cP, gus_cP, List.countP_cons]; simp
/-- the least length of what is left -/
def gnd (L : Nat) (e : GV) : List Int32 → Nat
  | [] => 0
  | c :: ps => (match gvo c with | none => 1 | some v => match e v with | some bz => bz.2 | none => L) + gnd L e ps
theorem gnd_n {L : Nat} {e : GV} {c : Int32} {ps : List Int32} (h : gvo c = none) : gnd L e (c :: ps) = 1 + gnd L e ps := by rw [gnd, h]
theorem gnd_k {L : Nat} {e : GV} {c : Int32} {ps : List Int32} {v b z : Nat} (h : gvo c = some v) (he : e v = some (b, z)) : gnd L e (c :: ps) = z + gnd L e ps := by rw [gnd, h]; simp only [he]
theorem gnd_u {L : Nat} {e : GV} {c : Int32} {ps : List Int32} {v : Nat} (h : gvo c = some v) (he : e v = none) : gnd L e (c :: ps) = L + gnd L e ps := by rw [gnd, h]; simp only [he]
theorem gnd_0 (L : Nat) (p : List Int32) : gnd L gV0 p = gned L p := by
  induction p with
  | nil => rfl
  | cons c p ih =>
    rw [gned_cons]
    cases h : gvo c with
    | none => rw [gnd_n h, ih]; simp; omega
    | some v => rw [gnd_u h rfl, ih]; simp; omega
theorem gnd_set {L : Nat} {e : GV} {v a k : Nat} (he : e v = none) (ps : List Int32) : gnd L (gVs e v a (L + k)) ps = gnd L e ps + k * gus ps v := by
  induction ps with
  | nil => rfl
  | cons c ps ih =>
    rw [gus_c, Nat.mul_add]
    cases h : gvo c with
    | none => rw [gnd_n h, gnd_n h, ih, if_neg (by simp)]; omega
    | some w =>
      by_cases q : w = v
      · subst q
        rw [gnd_k (b := a) (z := L + k) h (by simp [gVs]), gnd_u h he, ih, if_pos rfl]; omega
      · rw [if_neg (by simp; exact q)]
        cases hw : e w with
        | none => rw [gnd_u h hw, gnd_u h (show gVs e v a (L + k) w = none by simp [gVs, q, hw]), ih]; omega
        | some bz => rw [gnd_k (b := bz.1) (z := bz.2) h hw, gnd_k (b := bz.1) (z := bz.2) h (show gVs e v a (L + k) w = some bz by simp [gVs, q, hw]), ih]; omega
theorem gcs_len {t : List Int32} {b z : Nat} {l : List Int32} (hb : b + z ≤ t.length) (h : (t.drop b).take z = l) : l.length = z := by
  rw [← h, List.length_take, List.length_drop]; omega
theorem gnd_le {t : List Int32} {L : Nat} {e : GV} {s : Nat → List Int32} (hb : ∀ v b z, e v = some (b, z) → b + z ≤ t.length) (h1 : ∀ v b z, e v = some (b, z) → (t.drop b).take z = s v) (h2 : ∀ v, e v = none → L ≤ (s v).length) (ps : List Int32) : gnd L e ps ≤ (gMt s ps).length := by
  induction ps with
  | nil => exact Nat.le_refl 0
  | cons c ps ih =>
    cases h : gvo c with
    | none => rw [gnd_n h, gMt_n h, List.length_cons]; omega
    | some v =>
      rw [gMt_v h, List.length_append]
      cases hw : e v with
      | none => rw [gnd_u h hw]; have := h2 v hw; omega
      | some bz => rw [gnd_k (b := bz.1) (z := bz.2) h hw]; have := gcs_len (hb v bz.1 bz.2 hw) (h1 v bz.1 bz.2 hw); omega
theorem gnd_eq {t : List Int32} {L : Nat} {e : GV} {s : Nat → List Int32} (hb : ∀ v b z, e v = some (b, z) → b + z ≤ t.length) (h1 : ∀ v b z, e v = some (b, z) → (t.drop b).take z = s v) (ps : List Int32) (h2 : ∀ c ∈ ps, ∀ v, gvo c = some v → e v ≠ none) : gnd L e ps = (gMt s ps).length := by
  induction ps with
  | nil => rfl
  | cons c ps ih =>
    have ih := ih (fun x hx => h2 x (List.mem_cons_of_mem _ hx))
    cases h : gvo c with
    | none => rw [gnd_n h, gMt_n h, List.length_cons]; omega
    | some v =>
      rw [gMt_v h, List.length_append]
      cases hw : e v with
      | none => exact absurd hw (h2 c (List.mem_cons_self ..) v h)
      | some bz => rw [gnd_k (b := bz.1) (z := bz.2) h hw]; have := gcs_len (hb v bz.1 bz.2 hw) (h1 v bz.1 bz.2 hw); omega
theorem gsm_iff {t : List Int32} {b a z : Nat} (hb : b + z ≤ t.length) (ha : a + z ≤ t.length) : gsm t b a z = true ↔ (t.drop b).take z = (t.drop a).take z := by
  constructor
  · intro h
    apply List.ext_getElem?
    intro i
    by_cases q : i < z
    · rw [List.getElem?_take_of_lt q, List.getElem?_take_of_lt q, List.getElem?_drop, List.getElem?_drop]
      have := of_decide_eq_true (List.all_eq_true.mp h i (List.mem_range.mpr q))
      rw [List.getD_eq_getElem?_getD, List.getD_eq_getElem?_getD, List.getElem?_eq_getElem (by omega), List.getElem?_eq_getElem (by omega)] at this
      rw [List.getElem?_eq_getElem (by omega), List.getElem?_eq_getElem (by omega)]
      exact congrArg some this
    · rw [List.getElem?_eq_none (by rw [List.length_take]; omega), List.getElem?_eq_none (by rw [List.length_take]; omega)]
  · intro h
    refine gsm_t (fun i hi => ?_)
    have := congrArg (fun l => l[i]?) h
    simp only [List.getElem?_take_of_lt hi, List.getElem?_drop] at this
    rw [List.getD_eq_getElem?_getD, List.getD_eq_getElem?_getD, this]
theorem gfl_ne {α : Type} {l : List Nat} {f : Nat → List α} : l.flatMap f ≠ [] ↔ ∃ k ∈ l, f k ≠ [] := by
  rw [ne_eq, List.flatMap_eq_nil_iff]
  constructor
  · intro h
    exact Classical.byContradiction (fun q => h (fun x hx => Classical.byContradiction (fun r => q ⟨x, hx, r⟩)))
  · intro ⟨k, hk, hf⟩ h
    exact hf (h k hk)
theorem gsplit (t : List Int32) (a z : Nat) : t.drop a = (t.drop a).take z ++ t.drop (a + z) := by
  rw [← List.drop_drop]; exact (List.take_append_drop z (t.drop a)).symm
/-- when the matcher's search finds something -/
theorem gE_iff {t : List Int32} {L lt spare nv : Nat} {us : Nat → Nat} : ∀ (ps : List Int32) (n a s : Nat) (e : GV), gco n ps → (∀ c ∈ ps, ∀ v, gvo c = some v → v < nv) → (∀ u, u < n → e u ≠ none) → (∀ u, n ≤ u → e u = none) → (∀ v, n ≤ v → us v = gus ps v) → (∀ v b z, e v = some (b, z) → b + z ≤ t.length) → s + gnd L e ps + lt + a = t.length →
    (gE t L spare nv us ps a s e ≠ [] ↔ ∃ σ : Nat → List Int32, (∀ v b z, e v = some (b, z) → (t.drop b).take z = σ v) ∧ (∀ v, e v = none → L ≤ (σ v).length) ∧ ∃ rest, t.drop a = gMt σ ps ++ rest ∧ lt ≤ rest.length ∧ rest.length ≤ lt + spare) := by
  intro ps
  induction ps with
  | nil =>
    intro n a s e _ _ _ _ _ _ hs
    rw [gE]
    have hs : s + 0 + lt + a = t.length := hs
    constructor
    · intro h
      have h1 : s ≤ spare := by
        by_cases q : s ≤ spare
        · exact q
        · rw [if_neg q] at h; exact absurd rfl h
      refine ⟨fun v => match e v with | some bz => (t.drop bz.1).take bz.2 | none => List.replicate L 0, fun v b z q => by simp only [q], fun v q => by simp only [q]; simp, t.drop a, rfl, ?_, ?_⟩ <;> rw [List.length_drop] <;> omega
    · rintro ⟨σ, _, _, rest, h1, h2, h3⟩
      have h4 := congrArg List.length h1
      rw [List.length_drop, show (gMt σ [] ++ rest).length = rest.length from rfl] at h4
      rw [if_pos (by omega)]
      exact List.cons_ne_nil _ _
  | cons c ps ih =>
    intro n a s e hco hnv hlt hge hus hb hs
    have hnv' : ∀ x ∈ ps, ∀ v, gvo x = some v → v < nv := fun x hx => hnv x (List.mem_cons_of_mem _ hx)
    cases hv : gvo c with
    | none =>
      have hco' : gco n ps := by unfold gco at hco; rw [hv] at hco; exact hco
      rw [gnd_n hv] at hs
      have hal : a < t.length := by omega
      have hd : t.drop a = t.getD a (-1) :: t.drop (a + 1) := gdropD hal
      have ih' := ih n (a + 1) s e hco' hnv' hlt hge (fun v q => by rw [hus v q, gus_c, hv, if_neg (by simp)]; rfl) hb (by omega)
      rw [gE, hv]
      dsimp only
      by_cases q : t.getD a (-1) = c
      · rw [if_pos q, ih']
        constructor
        · rintro ⟨σ, h1, h2, rest, h3, h4, h5⟩
          exact ⟨σ, h1, h2, rest, by rw [hd, h3, gMt_n hv, q]; rfl, h4, h5⟩
        · rintro ⟨σ, h1, h2, rest, h3, h4, h5⟩
          rw [hd, gMt_n hv] at h3
          exact ⟨σ, h1, h2, rest, (List.cons.inj h3).2, h4, h5⟩
      · rw [if_neg q]
        constructor
        · intro h; exact absurd rfl h
        · rintro ⟨σ, h1, h2, rest, h3, h4, h5⟩
          rw [hd, gMt_n hv] at h3
          exact absurd (List.cons.inj h3).1 q
    | some v =>
      unfold gco at hco
      rw [hv] at hco
      rcases hco with ⟨hvn, hco'⟩ | ⟨hvn, hco'⟩
      · obtain ⟨⟨b, z⟩, he⟩ := Option.ne_none_iff_exists'.mp (hlt v hvn)
        rw [gnd_k hv he] at hs
        have ih' := ih n (a + z) s e hco' hnv' hlt hge (fun w q => by rw [hus w q, gus_c, hv, if_neg (by simp; omega)]; rfl) hb (by omega)
        rw [gE, hv]
        dsimp only
        rw [he]
        dsimp only
        have hbz := hb v b z he
        have hsp := gsplit t a z
        have hsm := gsm_iff (t := t) (b := b) (a := a) (z := z) hbz (by omega)
        by_cases q : gsm t b a z = true
        · rw [if_pos q, ih']
          have q2 := hsm.mp q
          constructor
          · rintro ⟨σ, h1, h2, rest, h3, h4, h5⟩
            refine ⟨σ, h1, h2, rest, ?_, h4, h5⟩
            rw [hsp, h3, gMt_v hv, ← h1 v b z he, q2, List.append_assoc]
          · rintro ⟨σ, h1, h2, rest, h3, h4, h5⟩
            refine ⟨σ, h1, h2, rest, ?_, h4, h5⟩
            rw [hsp, gMt_v hv, ← h1 v b z he, q2, List.append_assoc] at h3
            exact List.append_cancel_left h3
        · rw [if_neg q]
          constructor
          · intro h; exact absurd rfl h
          · rintro ⟨σ, h1, h2, rest, h3, h4, h5⟩
            refine absurd (hsm.mpr ?_) q
            rw [hsp, gMt_v hv, List.append_assoc] at h3
            have := List.append_inj_left h3 (by rw [← h1 v b z he, List.length_take, List.length_take, List.length_drop, List.length_drop]; omega)
            rw [this, h1 v b z he]
      · subst hvn
        have he : e v = none := hge v (Nat.le_refl _)
        have husv : us v = gus ps v + 1 := by rw [hus v (Nat.le_refl _), gus_c, if_pos hv]
        rw [gnd_u hv he] at hs
        have hmul : ∀ k, k * us v = k * gus ps v + k := fun k => by rw [husv, Nat.mul_add, Nat.mul_one]
        have hb' : ∀ k, k * us v ≤ s → ∀ w b z, gVs e v a (L + k) w = some (b, z) → b + z ≤ t.length := fun k hk w b z hw => by
          have := hmul k
          unfold gVs at hw
          split at hw
          · cases hw; omega
          · exact hb w b z hw
        have step := fun k (hk : k * us v ≤ s) => ih (v + 1) (a + (L + k)) (s - k * us v) (gVs e v a (L + k)) hco' hnv' (fun u hu => by unfold gVs; split; exact Option.some_ne_none _; exact hlt u (by omega)) (fun u hu => by unfold gVs; rw [if_neg (by omega)]; exact hge u (by omega)) (fun w hw => by rw [hus w (by omega), gus_c, if_neg (by rw [hv]; simp; omega)]; rfl) (hb' k hk) (by rw [gnd_set he]; have := hmul k; omega)
        rw [gE, hv]
        dsimp only
        rw [he]
        dsimp only
        rw [gfl_ne]
        constructor
        · rintro ⟨k, hk, hf⟩
          have hkm : k * us v ≤ s := (Nat.le_div_iff_mul_le (by omega)).mp (Nat.le_of_lt_succ (List.mem_range.mp hk))
          have hm := hmul k
          split at hf
          · exact absurd rfl hf
          obtain ⟨σ, h1, h2, rest, h3, h4, h5⟩ := (step k hkm).mp hf
          have hself := h1 v a (L + k) (by simp [gVs])
          refine ⟨σ, fun w b z hw => h1 w b z (by unfold gVs; rw [if_neg (by rintro rfl; rw [he] at hw; cases hw)]; exact hw), fun w hw => ?_, rest, ?_, h4, h5⟩
          · by_cases q : w = v
            · subst q; rw [← hself, List.length_take, List.length_drop]; omega
            · exact h2 w (by unfold gVs; rw [if_neg q]; exact hw)
          · rw [gsplit t a (L + k), h3, gMt_v hv, hself, List.append_assoc]
        · rintro ⟨σ, h1, h2, rest, h3, h4, h5⟩
          have hL := h2 v he
          obtain ⟨k, hk⟩ : ∃ k, (σ v).length = L + k := ⟨(σ v).length - L, by omega⟩
          rw [gMt_v hv, List.append_assoc] at h3
          have hlen := congrArg List.length h3
          rw [List.length_append, List.length_append, List.length_drop, hk] at hlen
          have hcs : ∀ w b z, gVs e v a (L + k) w = some (b, z) → (t.drop b).take z = σ w := fun w b z hw => by
            unfold gVs at hw
            split at hw
            · next q => cases hw; subst q; rw [h3, ← hk, List.take_left]
            · exact h1 w b z hw
          have hn : ∀ w, gVs e v a (L + k) w = none → L ≤ (σ w).length := fun w hw => by
            unfold gVs at hw
            split at hw
            · cases hw
            · exact h2 w hw
          have hbk : ∀ w b z, gVs e v a (L + k) w = some (b, z) → b + z ≤ t.length := fun w b z hw => by
            unfold gVs at hw
            split at hw
            · cases hw; omega
            · exact hb w b z hw
          have hle := gnd_le hbk hcs hn ps
          rw [gnd_set he] at hle
          have hm := hmul k
          have hkm : k * us v ≤ s := by omega
          refine ⟨k, List.mem_range.mpr (Nat.lt_succ_of_le ((Nat.le_div_iff_mul_le (by omega)).mpr hkm)), ?_⟩
          rw [if_neg]
          · refine (step k hkm).mpr ⟨σ, hcs, hn, rest, ?_, h4, h5⟩
            rw [← List.drop_drop, h3, ← hk, List.drop_left]
          · rintro ⟨p1, p2⟩
            have heq := gnd_eq (L := L) hbk hcs ps (fun x hx w hw => by
              have := hnv' x hx w hw
              unfold gVs
              split
              · exact Option.some_ne_none _
              · exact hlt w (by omega))
            rw [gnd_set he] at heq
            omega
/-- what isMatchBefore says -/
theorem gMB_iff {p t : List Int32} (hc : gco 0 p) {md : Int32} {lt mt : Nat} : gMB p t md lt mt = true ↔ ∃ σ : Nat → List Int32, (∀ v, gL md ≤ (σ v).length) ∧ ∃ rest, t = gMt σ p ++ rest ∧ lt ≤ rest.length ∧ rest.length ≤ lt + (mt - lt) := by
  have key := fun (h : gned (gL md) p + lt ≤ t.length) => gE_iff (t := t) (L := gL md) (lt := lt) (spare := mt - lt) (nv := gnv p) (us := gus p) p 0 0 (t.length - gned (gL md) p - lt) gV0 hc (fun c hc v hv => gnv_lt hc hv) (fun u hu => absurd hu (by omega)) (fun u _ => rfl) (fun v _ => rfl) (fun v b z q => by cases q) (by rw [gnd_0]; omega)
  unfold gMB
  rw [decide_eq_true_iff]
  constructor
  · rintro ⟨h1, h2, h3⟩
    obtain ⟨σ, _, q2, rest, q3, q4, q5⟩ := (key h1).mp h3
    exact ⟨σ, fun v => q2 v rfl, rest, q3, q4, q5⟩
  · rintro ⟨σ, q2, rest, q3, q4, q5⟩
    have hle := gnd_le (t := t) (L := gL md) (e := gV0) (s := σ) (fun v b z q => by cases q) (fun v b z q => by cases q) (fun v _ => q2 v) p
    rw [gnd_0] at hle
    have hlen := congrArg List.length q3
    rw [List.length_append] at hlen
    have h1 : gned (gL md) p + lt ≤ t.length := by omega
    refine ⟨h1, ?_, (key h1).mpr ⟨σ, fun v b z q => (by cases q), fun v _ => q2 v, rest, q3, q4, q5⟩⟩
    by_cases h0 : 0 < gnv p
    · exact Or.inl h0
    · refine Or.inr ?_
      have heq := gnd_eq (t := t) (L := gL md) (e := gV0) (s := σ) (fun v b z q => by cases q) (fun v b z q => by cases q) p (fun c hc v hv => absurd (gnv_lt hc hv) (by omega))
      rw [gnd_0] at heq
      omega
theorem gMB_full {p t : List Int32} (hc : gco 0 p) {md : Int32} : gMB p t md 0 0 = true ↔ ∃ σ : Nat → List Int32, (∀ v, gL md ≤ (σ v).length) ∧ t = gMt σ p := by
  rw [gMB_iff hc]
  constructor
  · rintro ⟨σ, h1, rest, h2, _, h4⟩
    have : rest = [] := List.eq_nil_of_length_eq_zero (by omega)
    subst this
    exact ⟨σ, h1, by rw [h2, List.append_nil]⟩
  · rintro ⟨σ, h1, h2⟩
    exact ⟨σ, h1, [], by rw [List.append_nil]; exact h2, Nat.le_refl _, Nat.le_refl _⟩
