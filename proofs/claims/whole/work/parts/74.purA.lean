/-- new variables come in their order -/
def gco : Nat → List Int32 → Prop
  | _, [] => True
  | n, c :: ps => match gvo c with
    | none => gco n ps
    | some v => (v < n ∧ gco n ps) ∨ (v = n ∧ gco (n + 1) ps)
theorem gvo_nI {w : Nat} (h : w < 4) : gvo (nI (10 + w)) = some w := by
  rcases (show w = 0 ∨ w = 1 ∨ w = 2 ∨ w = 3 by omega) with rfl | rfl | rfl | rfl <;> decide
/-- the variables renamed by t -/
def gsb (t : Nat → Nat) (y : Int32) : Int32 := match gvo y with
  | none => y
  | some v => nI (10 + t v)
theorem gsb_l {t : Nat → Nat} {y : Int32} (h : gvo y = none) : gsb t y = y := by unfold gsb; rw [h]
theorem gsb_v {t : Nat → Nat} {y : Int32} {v : Nat} (h : gvo y = some v) : gsb t y = nI (10 + t v) := by unfold gsb; rw [h]
def gtw (w n : Nat) (t : Nat → Nat) : Nat → Nat := fun u => if t u = w then n else if t u = n then w else t u
theorem glet_ne {y : Int32} (hs : gsy y) (h : gvo y = none) (w : Nat) (hw : w < 100) : y ≠ nI (10 + w) := by
  intro e
  have h1 := gvo_none hs h
  rw [e, nI_toInt (by omega)] at h1
  omega
theorem gsb_sw {t : Nat → Nat} {w n : Nat} (hw : w < 4) (hn : n < 4) (ht : ∀ u, u < 4 → t u < 4) {y : Int32} (hs : gsy y) : (if gsb t y = nI (10 + w) then nI (10 + n) else if gsb t y = nI (10 + n) then nI (10 + w) else gsb t y) = gsb (gtw w n t) y := by
  cases h : gvo y with
  | none =>
    rw [gsb_l h, gsb_l h, if_neg (glet_ne hs h w (by omega)), if_neg (glet_ne hs h n (by omega))]
  | some v =>
    have hv := ht v (gvo_some h).1
    rw [gsb_v h, gsb_v h]
    unfold gtw
    by_cases e1 : t v = w
    · rw [if_pos (by rw [e1]), if_pos e1]
    · rw [if_neg (fun q => e1 (by have := (gneq (by omega) (by omega)).mp q; omega)), if_neg e1]
      by_cases e2 : t v = n
      · rw [if_pos (by rw [e2]), if_pos e2]
      · rw [if_neg (fun q => e2 (by have := (gneq (by omega) (by omega)).mp q; omega)), if_neg e2]
/-- what the class's and the reference's ways to the canonical form have in common -/
def gci (l : List Int32) (k n : Nat) (t : Nat → Nat) (ren : Nat → Int32) : Prop :=
  gcanS l k = (l.map (gsb t), nI (10 + n)) ∧ n ≤ 4 ∧ (∀ u, u < 4 → t u < 4) ∧ (∀ u u', u < 4 → u' < 4 → t u = t u' → u = u') ∧ (∀ u, u < 4 → ren u = if t u < n then nI (10 + t u) else -1) ∧ (∀ c ∈ l.take k, ∀ v, gvo c = some v → t v < n) ∧ gno l (fun _ => -1) 10 = (l.take k).map (gsb t) ++ gno (l.drop k) ren (nI (10 + n)) ∧ ∀ w, w < n → ∃ c ∈ l.take k, gsb t c = nI (10 + w)
theorem gci_0 (l : List Int32) : gci l 0 0 (fun u => u) (fun _ => -1) := by
  refine ⟨?_, by omega, fun u h => h, fun u u' _ _ h => h, fun u _ => by rw [if_neg (by omega)], fun c hc => by simp at hc, by simp; rfl, fun w hw => by omega⟩
  show (l, (10 : Int32)) = _
  rw [show l.map (gsb fun u => u) = l from ?_]
  · rfl
  · have : ∀ c ∈ l, gsb (fun u => u) c = id c := fun c _ => by
      cases h : gvo c with
      | none => rw [gsb_l h]; rfl
      | some v => rw [gsb_v h]; exact (gvo_some h).2.2.symm
    rw [List.map_congr_left this, List.map_id]
theorem gci_s {l : List Int32} (hs : ∀ c ∈ l, gsy c) {k n : Nat} {t : Nat → Nat} {ren : Nat → Int32} (hk : k < l.length) (h : gci l k n t ren) : ∃ n' t' ren', gci l (k + 1) n' t' ren' := by
  obtain ⟨h1, h2, h3, h4, h5, h6, h7, h8⟩ := h
  have hsub : ∀ c ∈ l.take k, c ∈ l.take (k + 1) := fun c hc => by rw [gtake_s hk]; exact List.mem_append_left _ hc
  have hlast : l.getD k (-1) ∈ l.take (k + 1) := by rw [gtake_s hk]; exact List.mem_append_right _ (List.mem_singleton.mpr rfl)
  have hx : (l.map (gsb t)).getD k (-1) = gsb t (l.getD k (-1)) := by
    rw [List.getD_eq_getElem?_getD, List.getElem?_map, List.getElem?_eq_getElem hk, List.getD_eq_getElem?_getD, List.getElem?_eq_getElem hk]; rfl
  have hsc := hs _ (ggetD_mem hk)
  have hmt : ∀ c ∈ l.take (k + 1), c ∈ l.take k ∨ c = l.getD k (-1) := fun c hc => by
    rw [gtake_s hk] at hc
    rcases List.mem_append.mp hc with q | q
    · exact Or.inl q
    · exact Or.inr (List.mem_singleton.mp q)
  cases hvo : gvo (l.getD k (-1)) with
  | none =>
    have hxl := gsb_l (t := t) hvo
    have hlt := gvo_none hsc hvo
    refine ⟨n, t, ren, ?_, h2, h3, h4, h5, ?_, ?_, fun w hw => (h8 w hw).elim (fun c hc => ⟨c, hsub c hc.1, hc.2⟩)⟩
    · simp only [gcanS, h1, hx, hxl]
      rw [if_neg (by rw [Int32.lt_iff_toInt_lt, nI_toInt (by omega)]; omega), hx, hxl, if_neg (glet_ne hsc hvo n (by omega))]
    · intro c hc v hv
      rcases hmt c hc with q | q
      · exact h6 c q v hv
      · rw [q, hvo] at hv; cases hv
    · rw [h7, gdropD hk, gno, hvo, gtake_s hk, List.map_append, List.append_assoc]
      show _ ++ (_ :: _) = _ ++ ([gsb t _] ++ _)
      rw [hxl]; rfl
  | some v =>
    obtain ⟨hv4, -, -⟩ := gvo_some hvo
    have htv := h3 v hv4
    have hxv := gsb_v (t := t) hvo
    by_cases hseen : t v < n
    · refine ⟨n, t, ren, ?_, h2, h3, h4, h5, ?_, ?_, fun w hw => (h8 w hw).elim (fun c hc => ⟨c, hsub c hc.1, hc.2⟩)⟩
      · simp only [gcanS, h1, hx, hxv]
        rw [if_neg (by rw [gnlt (by omega) (by omega)]; omega), hx, hxv, if_neg (by rw [gneq (by omega) (by omega)]; omega)]
      · intro c hc w hw
        rcases hmt c hc with q | q
        · exact h6 c q w hw
        · rw [q, hvo] at hw; cases hw; exact hseen
      · rw [h7, gdropD hk, gno, hvo, gtake_s hk, List.map_append, List.append_assoc]
        show _ ++ (if ren v < 0 then _ else _) = _ ++ ([gsb t _] ++ _)
        rw [h5 v hv4, if_pos hseen, if_neg (by rw [gcz0, nI_toInt (by omega)]; omega), hxv]; rfl
    · have hn4 : n < 4 := by omega
      have hfix : ∀ c ∈ l.take k, gsb (gtw (t v) n t) c = gsb t c := fun c hc => by
        cases hc2 : gvo c with
        | none => rw [gsb_l hc2, gsb_l hc2]
        | some u =>
          have := h6 c hc u hc2
          rw [gsb_v hc2, gsb_v hc2]
          unfold gtw
          rw [if_neg (by omega), if_neg (by omega)]
      have hnew : gtw (t v) n t v = n := by unfold gtw; rw [if_pos rfl]
      refine ⟨n + 1, gtw (t v) n t, gU ren v (nI (10 + n)), ?_, by omega, ?_, ?_, ?_, ?_, ?_, fun w hw => ?_⟩
      rotate_right
      · by_cases e : w = n
        · subst e; exact ⟨_, hlast, by rw [gsb_v hvo, hnew]⟩
        · obtain ⟨c, hc, hc2⟩ := h8 w (by omega)
          exact ⟨c, hsub c hc, by rw [hfix c hc]; exact hc2⟩
      · have hm : (if nI (10 + n) < nI (10 + t v) then (l.map (gsb t)).map (fun y => if y = nI (10 + t v) then nI (10 + n) else if y = nI (10 + n) then nI (10 + t v) else y) else l.map (gsb t)) = l.map (gsb (gtw (t v) n t)) := by
          have hall : ∀ c ∈ l, (if gsb t c = nI (10 + t v) then nI (10 + n) else if gsb t c = nI (10 + n) then nI (10 + t v) else gsb t c) = gsb (gtw (t v) n t) c := fun c hc => gsb_sw htv hn4 h3 (hs c hc)
          by_cases e : n < t v
          · rw [if_pos ((gnlt (by omega) (by omega)).mpr (by omega)), List.map_map]
            exact List.map_congr_left hall
          · rw [if_neg (fun q => e (by have := (gnlt (by omega) (by omega)).mp q; omega))]
            refine List.map_congr_left (fun c hc => ?_)
            have h9 := hall c hc
            rw [← h9, show t v = n by omega]
            split
            · next q => exact q
            · rfl
        have hg : (l.map (gsb (gtw (t v) n t))).getD k (-1) = nI (10 + n) := by
          rw [List.getD_eq_getElem?_getD, List.getElem?_map, List.getElem?_eq_getElem hk]
          have : gvo l[k] = some v := by
            rw [List.getD_eq_getElem?_getD, List.getElem?_eq_getElem hk] at hvo; exact hvo
          show gsb _ l[k] = _
          rw [gsb_v this, hnew]
        simp only [gcanS, h1, hx, hxv]
        rw [hm, hg, if_pos rfl, show nI (10 + n) + 1 = nI (10 + (n + 1)) from (nI_succ _).symm]
      · intro u hu
        have := h3 u hu
        unfold gtw
        split
        · exact hn4
        · split
          · exact htv
          · exact this
      · intro u u' hu hu' he
        have hnn : t u = t u' → u = u' := h4 u u' hu hu'
        unfold gtw at he
        apply hnn
        split at he <;> split at he <;> (try split at he) <;> (try split at he) <;> omega
      · intro u hu
        unfold gU
        by_cases e : u = v
        · subst e
          rw [if_pos rfl, hnew, if_pos (by omega)]
        · rw [if_neg e, h5 u hu]
          have hne : t u ≠ t v := fun q => e (h4 u v hu hv4 q)
          have hg : gtw (t v) n t u = if t u = n then t v else t u := if_neg hne
          by_cases e2 : t u < n
          · rw [if_neg (by omega)] at hg
            rw [hg, if_pos e2, if_pos (by omega)]
          · by_cases e3 : t u = n
            · rw [if_pos e3] at hg
              rw [hg, if_neg e2, if_neg (by omega)]
            · rw [if_neg e3] at hg
              rw [hg, if_neg e2, if_neg (by omega)]
      · intro c hc u hu
        rcases hmt c hc with q | q
        · have := h6 c q u hu
          unfold gtw
          rw [if_neg (by omega), if_neg (by omega)]; omega
        · rw [q, hvo] at hu; cases hu
          rw [hnew]; omega
      · rw [h7, gdropD hk, gno, hvo, gtake_s hk, List.map_append, List.append_assoc, List.map_congr_left hfix]
        show _ ++ (if ren v < 0 then _ else _) = _ ++ ([gsb _ _] ++ _)
        rw [h5 v hv4, if_neg hseen, if_pos (by decide), gsb_v hvo, hnew, show nI (10 + n) + 1 = nI (10 + (n + 1)) from (nI_succ _).symm]; rfl
theorem gci_all {l : List Int32} (hs : ∀ c ∈ l, gsy c) : ∀ k, k ≤ l.length → ∃ n t ren, gci l k n t ren
  | 0, _ => ⟨_, _, _, gci_0 l⟩
  | k + 1, h => by
    obtain ⟨n, t, ren, hc⟩ := gci_all hs k (by omega)
    exact gci_s hs (by omega) hc
theorem gno_can {l : List Int32} (hs : ∀ c ∈ l, gsy c) : gno l (fun _ => -1) 10 = gcan l := by
  obtain ⟨n, t, ren, h1, -, -, -, -, -, h7, -⟩ := gci_all hs l.length (Nat.le_refl _)
  unfold gcan
  rw [h1, h7, List.take_length, List.drop_length, gno, List.append_nil]
theorem gnv_le2 {p : List Int32} {n : Nat} (h : ∀ c ∈ p, ∀ v, gvo c = some v → v < n) : gnv p ≤ n := by
  have key : ∀ (p : List Int32) (a : Nat), a ≤ n → (∀ c ∈ p, ∀ v, gvo c = some v → v < n) → p.foldl (fun n c => match gvo c with | some v => max n (v + 1) | none => n) a ≤ n := by
    intro p
    induction p with
    | nil => intro a ha _; exact ha
    | cons c p ih =>
      intro a ha hp
      rw [List.foldl_cons]
      refine ih _ ?_ (fun x hx => hp x (List.mem_cons_of_mem _ hx))
      split
      · next v hv => have := hp c (List.mem_cons_self ..) v hv; exact Nat.max_le.mpr ⟨ha, by omega⟩
      · exact ha
  exact key p 0 (Nat.zero_le _) h
/-- the canonical form: all variables below the highest stand there -/
theorem gcan_cn {l : List Int32} (hs : ∀ c ∈ l, gsy c) : (∀ c ∈ gcan l, gsy c) ∧ gcn (gcan l) := by
  obtain ⟨n, t, ren, h1, h2, h3, h4, h5, h6, h7, h8⟩ := gci_all hs l.length (Nat.le_refl _)
  have hc : gcan l = l.map (gsb t) := by unfold gcan; rw [h1]
  rw [List.take_length] at h6 h8
  have hsy : ∀ c ∈ gcan l, gsy c := fun c hcm => by
    rw [hc] at hcm
    obtain ⟨y, hy, rfl⟩ := List.mem_map.mp hcm
    cases hv : gvo y with
    | none => rw [gsb_l hv]; exact hs y hy
    | some v => rw [gsb_v hv]; have := h3 v (gvo_some hv).1; exact gsy_nI (by omega)
  refine ⟨hsy, fun v hv => ?_⟩
  have hle : gnv (gcan l) ≤ n := gnv_le2 (fun c hcm w hw => by
    rw [hc] at hcm
    obtain ⟨y, hy, rfl⟩ := List.mem_map.mp hcm
    cases hv2 : gvo y with
    | none => rw [gsb_l hv2, hv2] at hw; cases hw
    | some u =>
      have h9 := h3 u (gvo_some hv2).1
      rw [gsb_v hv2, gvo_nI h9] at hw
      cases hw
      exact h6 y hy u hv2)
  obtain ⟨c, hc1, hc2⟩ := h8 v (by omega)
  exact ⟨nI (10 + v), by rw [hc, ← hc2]; exact List.mem_map_of_mem hc1, gvo_nI (by omega)⟩
