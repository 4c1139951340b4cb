/-- lengths with the right sum, in their order -/
def ggn (L : Nat) (us : Nat → Nat) : Nat → (Nat → Nat) → Nat → List (Nat → Nat)
  | 0, w, left => if left = 0 then [w] else []
  | m + 1, w, left => if us (3 - m) = 0 then ggn L us m (gU w (3 - m) 0) left else (List.range (left / us (3 - m) + 1 - L)).flatMap (fun k => ggn L us m (gU w (3 - m) (L + k)) (left - (L + k) * us (3 - m)))
theorem gch_gn (p t : List Int32) (L : Nat) (us : Nat → Nat) : ∀ m w left, gch p t L us m w left = (ggn L us m w left).filter (fun w' => gpc t w' p 0 (fun _ => none))
  | 0, w, left => by
    rw [gch, ggn]
    by_cases h : left = 0
    · rw [if_pos h]
      by_cases h2 : gpc t w p 0 (fun _ => none) = true
      · rw [if_pos ⟨h, h2⟩]; simp [h2]
      · rw [if_neg (fun q => h2 q.2)]; simp [h2]
    · rw [if_neg h, if_neg (fun q => h q.1)]; rfl
  | m + 1, w, left => by
    rw [gch, ggn]
    split
    · exact gch_gn p t L us m _ _
    · rw [List.filter_flatMap]
      congr 1
      funext k
      exact gch_gn p t L us m _ _
theorem ggn_keep {L : Nat} {us : Nat → Nat} : ∀ m w left, m ≤ 4 → ∀ w' ∈ ggn L us m w left, ∀ u, u < 4 - m → w' u = w u
  | 0, w, left, _, w', h, u, _ => by
    rw [ggn] at h
    split at h
    · rw [List.mem_singleton.mp h]
    · cases h
  | m + 1, w, left, hm, w', h, u, hu => by
    rw [ggn] at h
    split at h
    · rw [ggn_keep m _ _ (by omega) w' h u (by omega), gU_n _ _ (by omega)]
    · obtain ⟨k, -, hk⟩ := List.mem_flatMap.mp h
      rw [ggn_keep m _ _ (by omega) w' hk u (by omega), gU_n _ _ (by omega)]
def grst (L : Nat) (us : Nat → Nat) : Nat → Nat
  | 0 => 0
  | m + 1 => L * us (3 - m) + grst L us m
theorem ggn_short {L : Nat} {us : Nat → Nat} : ∀ m w left, left < grst L us m → ggn L us m w left = []
  | 0, w, left, h => by rw [grst] at h; omega
  | m + 1, w, left, h => by
    rw [grst] at h
    rw [ggn]
    split
    · next q => rw [q, Nat.mul_zero, Nat.zero_add] at h; exact ggn_short m _ _ h
    · next q =>
      rw [List.flatMap_eq_nil_iff]
      intro k hk
      have hk1 := List.mem_range.mp hk
      have h1 : L + k ≤ left / us (3 - m) := by omega
      have h2 : (L + k) * us (3 - m) ≤ left := (Nat.le_div_iff_mul_le (by omega)).mp h1
      have h3 : L * us (3 - m) ≤ (L + k) * us (3 - m) := Nat.mul_le_mul_right _ (by omega)
      exact ggn_short m _ _ (by omega)
/-- with every variable bound the slack stays -/
theorem gE_pos {t : List Int32} {L nv : Nat} {us : Nat → Nat} : ∀ (ps : List Int32) (a s : Nat) (e : GV), 0 < s → (∀ c ∈ ps, ∀ v, gvo c = some v → e v ≠ none) → gE t L 0 nv us ps a s e = []
  | [], a, s, e, hs, _ => by rw [gE, if_neg (by omega)]
  | c :: ps, a, s, e, hs, he => by
    have he2 : ∀ x ∈ ps, ∀ v, gvo x = some v → e v ≠ none := fun x hx => he x (List.mem_cons_of_mem _ hx)
    cases hvo : gvo c with
    | none =>
      simp only [gE, hvo]
      split
      · exact gE_pos ps _ s e hs he2
      · rfl
    | some v =>
      cases hev : e v with
      | none => exact absurd hev (he c (List.mem_cons_self ..) v hvo)
      | some bn =>
        simp only [gE, hvo, hev]
        split
        · exact gE_pos ps _ s e hs he2
        · rfl
def gsz' (e : GV) : Nat → Nat := fun v => match e v with | some bz => bz.2 | none => 0
def gst' (e : GV) : Nat → Option Nat := fun v => (e v).map (fun bz => bz.1)
theorem gsm_comm (t : List Int32) (x y n : Nat) : gsm t x y n = gsm t y x n := by
  unfold gsm
  congr 1
  funext i
  congr 1
  exact propext ⟨fun h => h.symm, fun h => h.symm⟩
theorem gfl_cut {α : Type} {m n : Nat} (h : m ≤ n) (f : Nat → List α) (hz : ∀ k, m ≤ k → k < n → f k = []) : (List.range n).flatMap f = (List.range m).flatMap f := by
  have e : n = m + (n - m) := by omega
  rw [e, List.range_add, List.flatMap_append]
  have : ((List.range (n - m)).map (fun x => m + x)).flatMap f = [] := by
    rw [List.flatMap_eq_nil_iff]
    intro k hk
    obtain ⟨i, hi, rfl⟩ := List.mem_map.mp hk
    have := List.mem_range.mp hi
    exact hz _ (by omega) (by omega)
  rw [this, List.append_nil]
theorem gfl_congr {α : Type} {l : List Nat} {f g : Nat → List α} (h : ∀ k ∈ l, f k = g k) : l.flatMap f = l.flatMap g := by
  induction l with
  | nil => rfl
  | cons a l ih => rw [List.flatMap_cons, List.flatMap_cons, h a (List.mem_cons_self ..), ih (fun k hk => h k (List.mem_cons_of_mem _ hk))]
theorem gz_all {L : Nat} {us : Nat → Nat} : ∀ m w left, m ≤ 4 → (∀ v, 4 - m ≤ v → v < 4 → us v = 0 ∧ w v = 0) → ggn L us m w left = if left = 0 then [w] else []
  | 0, w, left, _, _ => rfl
  | m + 1, w, left, hm, h => by
    obtain ⟨h1, h2⟩ := h (3 - m) (by omega) (by omega)
    have e : gU w (3 - m) 0 = w := by funext a; unfold gU; split; (next q => rw [q, h2]); rfl
    rw [ggn, if_pos h1, e]
    exact gz_all m w left (by omega) (fun v hv hv2 => h v (by omega) hv2)
theorem grst0 {L : Nat} {us : Nat → Nat} : ∀ m, m ≤ 4 → (∀ v, 4 - m ≤ v → v < 4 → us v = 0) → grst L us m = 0
  | 0, _, _ => rfl
  | m + 1, hm, h => by rw [grst, h (3 - m) (by omega) (by omega), Nat.mul_zero, grst0 m (by omega) (fun v hv hv2 => h v (by omega) hv2)]
theorem gE_gn {t : List Int32} {L nv : Nat} {us : Nat → Nat} (hnv4 : nv ≤ 4) : ∀ (ps : List Int32) (n a s : Nat) (e : GV), n ≤ 4 → gco n ps → (∀ c ∈ ps, gsy c) → (∀ c ∈ ps, ∀ v, gvo c = some v → v < nv) → (∀ u, u < n → e u ≠ none) → (∀ u, n ≤ u → e u = none) → (∀ v, n ≤ v → v < 4 → us v = gus ps v) →
    (gE t L 0 nv us ps a s e).map gsz' = (ggn L us (4 - n) (gsz' e) (s + grst L us (4 - n))).filter (fun w => gpc t w ps a (gst' e)) := by
  intro ps
  induction ps with
  | nil =>
    intro n a s e hn _ _ _ _ he2 hus
    have h0 : ∀ v, n ≤ v → v < 4 → us v = 0 := fun v h1 h2 => by rw [hus v h1 h2]; rfl
    rw [gz_all (4 - n) _ _ (by omega) (fun v h1 h2 => ⟨h0 v (by omega) h2, by unfold gsz'; rw [he2 v (by omega)]⟩), grst0 (4 - n) (by omega) (fun v h1 h2 => h0 v (by omega) h2), gE]
    by_cases h : s = 0
    · rw [if_pos (by omega), if_pos (by omega)]; rfl
    · rw [if_neg (by omega), if_neg (by omega)]; rfl
  | cons c ps ih =>
    intro n a s e hn hco hsy hnv he1 he2 hus
    have hsy2 : ∀ x ∈ ps, gsy x := fun x hx => hsy x (List.mem_cons_of_mem _ hx)
    have hnv2 : ∀ x ∈ ps, ∀ v, gvo x = some v → v < nv := fun x hx => hnv x (List.mem_cons_of_mem _ hx)
    have hgus : ∀ v, gus (c :: ps) v = gus ps v + if gvo c = some v then 1 else 0 := fun u => by
      rw [gus_cP, gus_cP, List.countP_cons]; simp
    cases hvo : gvo c with
    | none =>
      simp only [gco, hvo] at hco
      have hu2 : ∀ v, n ≤ v → v < 4 → us v = gus ps v := fun v h1 h2 => by rw [hus v h1 h2, hgus, hvo]; simp
      simp only [gE, gpc, hvo]
      by_cases h : t.getD a (-1) = c
      · rw [if_pos h, ih n (a + 1) s e hn hco hsy2 hnv2 he1 he2 hu2]
        congr 1
        funext w
        rw [decide_eq_true h, Bool.true_and]
      · rw [if_neg h, decide_eq_false h]
        simp
    | some v =>
      obtain ⟨hv4, -, -⟩ := gvo_some hvo
      simp only [gco, hvo] at hco
      rcases hco with ⟨hvn, hco⟩ | ⟨hvn, hco⟩
      · have hu2 : ∀ x, n ≤ x → x < 4 → us x = gus ps x := fun x h1 h2 => by rw [hus x h1 h2, hgus, hvo, if_neg (fun q => by cases q; omega)]; rfl
        cases hev : e v with
        | none => exact absurd hev (he1 v hvn)
        | some bz =>
          simp only [gE, gpc, hvo, hev]
          have hst : gst' e v = some bz.1 := by unfold gst'; rw [hev]; rfl
          have hfun : (fun u => if u = v then some ((gst' e v).getD a) else gst' e u) = gst' e := by
            funext u
            split
            · next q => rw [q, hst]; rfl
            · rfl
          have hwv : ∀ w ∈ ggn L us (4 - n) (gsz' e) (s + grst L us (4 - n)), w v = bz.2 := fun w hw => by
            rw [ggn_keep _ _ _ (by omega) w hw v (by omega)]; unfold gsz'; rw [hev]
          by_cases h : gsm t bz.1 a bz.2 = true
          · rw [if_pos h, ih n (a + bz.2) s e hn hco hsy2 hnv2 he1 he2 hu2]
            refine List.filter_congr (fun w hw => ?_)
            rw [hwv w hw, hfun, hst, show (some bz.1).getD a = bz.1 from rfl, gsm_comm, h, Bool.true_and]
          · rw [if_neg h, List.map_nil]
            symm
            rw [List.filter_eq_nil_iff]
            intro w hw
            rw [hwv w hw, hst, show (some bz.1).getD a = bz.1 from rfl, gsm_comm, Bool.eq_false_iff.mpr h]
            simp
      · subst hvn
        have hev : e v = none := he2 v (Nat.le_refl _)
        have husv : us v = gus ps v + 1 := by rw [hus v (Nat.le_refl _) hv4, hgus, hvo, if_pos rfl]
        have hu2 : ∀ x, v + 1 ≤ x → x < 4 → us x = gus ps x := fun x h1 h2 => by rw [hus x (by omega) h2, hgus, hvo, if_neg (fun q => by cases q; omega)]; rfl
        have hm : 4 - v = (4 - (v + 1)) + 1 := by omega
        have h3 : 3 - (4 - (v + 1)) = v := by omega
        simp only [gE, gpc, hvo, hev]
        rw [hm, ggn, h3, if_neg (by omega), grst, h3, List.filter_flatMap, List.map_flatMap]
        have hst : gst' e v = none := by unfold gst'; rw [hev]; rfl
        rw [gfl_cut (n := (s + (L * us v + grst L us (4 - (v + 1)))) / us v + 1 - L) (m := s / us v + 1)]
        · refine gfl_congr (fun k hk => ?_)
          have hk1 : k ≤ s / us v := by have := List.mem_range.mp hk; omega
          have hk2 : k * us v ≤ s := (Nat.le_div_iff_mul_le (by omega)).mp hk1
          have hl : s + (L * us v + grst L us (4 - (v + 1))) - (L + k) * us v = s - k * us v + grst L us (4 - (v + 1)) := by rw [Nat.add_mul]; omega
          have hsz : gU (gsz' e) v (L + k) = gsz' (gVs e v a (L + k)) := by
            funext u
            unfold gU gsz' gVs
            by_cases q : u = v
            · rw [if_pos q, if_pos q]
            · rw [if_neg q, if_neg q]
          have hs2 : (fun u => if u = v then some ((gst' e v).getD a) else gst' e u) = gst' (gVs e v a (L + k)) := by
            funext u
            rw [hst]
            unfold gst' gVs
            by_cases q : u = v
            · rw [if_pos q, if_pos q]; rfl
            · rw [if_neg q, if_neg q]
          have hih := ih (v + 1) (a + (L + k)) (s - k * us v) (gVs e v a (L + k)) (by omega) hco hsy2 hnv2 (fun u hu => by unfold gVs; split; simp; exact he1 u (by omega)) (fun u hu => by unfold gVs; rw [if_neg (by omega)]; exact he2 u (by omega)) hu2
          rw [hl, hsz]
          have hfil : (ggn L us (4 - (v + 1)) (gsz' (gVs e v a (L + k))) (s - k * us v + grst L us (4 - (v + 1)))).filter (fun w => gsm t a ((gst' e v).getD a) (w v) && gpc t w ps (a + w v) (fun u => if u = v then some ((gst' e v).getD a) else gst' e u)) = (gE t L 0 nv us ps (a + (L + k)) (s - k * us v) (gVs e v a (L + k))).map gsz' := by
            rw [hih]
            refine List.filter_congr (fun w hw => ?_)
            have hwv : w v = L + k := by
              rw [ggn_keep _ _ _ (by omega) w hw v (by omega)]
              unfold gsz' gVs
              rw [if_pos rfl]
            rw [hs2, hst, hwv]
            show (gsm t a a (L + k) && _) = _
            rw [gsm_self, Bool.true_and]
          rw [hfil]
          split
          · next q =>
            rw [gE_pos ps _ _ _ (by omega) (fun x hx u hu => ?_)]
            have h9 := hnv2 x hx u hu
            unfold gVs
            split
            · simp
            · exact he1 u (by omega)
          · rfl
        · have h9 : s / us v ≤ (s + (L * us v + grst L us (4 - (v + 1)))) / us v - L := by
            have h10 : s / us v + L = (s + L * us v) / us v := (Nat.add_mul_div_right s L (by omega)).symm
            have h11 : (s + L * us v) / us v ≤ (s + (L * us v + grst L us (4 - (v + 1)))) / us v := Nat.div_le_div_right (by omega)
            omega
          have h12 : L ≤ (s + (L * us v + grst L us (4 - (v + 1)))) / us v := (Nat.le_div_iff_mul_le (by omega)).mpr (by omega)
          omega
        · intro k hk1 hk2
          have h1 : s < k * us v := by
            have := (Nat.div_lt_iff_lt_mul (by omega : 0 < us v)).mp (show s / us v < k by omega)
            exact this
          have h2 : L + k ≤ (s + (L * us v + grst L us (4 - (v + 1)))) / us v := by omega
          have h4 := (Nat.le_div_iff_mul_le (by omega)).mp h2
          have h5 : s + (L * us v + grst L us (4 - (v + 1))) - (L + k) * us v < grst L us (4 - (v + 1)) := by
            rw [Nat.add_mul] at h4 ⊢
            omega
          rw [ggn_short _ _ _ h5]
          rfl
