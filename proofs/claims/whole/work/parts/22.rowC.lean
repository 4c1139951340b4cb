theorem gext {a b : List Int32} (hl : a.length = b.length) (h : ∀ i, i < a.length → a.getD i (-1) = b.getD i (-1)) : a = b := by
  refine List.ext_getElem hl (fun i h1 h2 => ?_)
  have h3 := h i h1
  rw [List.getD_eq_getElem?_getD, List.getD_eq_getElem?_getD, List.getElem?_eq_getElem h1, List.getElem?_eq_getElem h2] at h3
  exact h3
theorem gset_get (l : List Int32) (k : Nat) (v : Int32) (i : Nat) (hi : i < l.length) : (l.set k v).getD i (-1) = if i = k then v else l.getD i (-1) := by
  rw [List.getD_eq_getElem?_getD, List.getD_eq_getElem?_getD]
  by_cases h : i = k
  · subst h
    rw [if_pos rfl, List.getElem?_set_self hi]
    rfl
  · rw [if_neg h, List.getElem?_set_ne (fun q => h q.symm)]
/-- half turned -/
def gturn (l : List Int32) (k : Nat) : List Int32 := (List.range l.length).map (fun i => if i < k ∨ l.length - 1 - k < i then l.getD (l.length - 1 - i) (-1) else l.getD i (-1))
theorem gturn_len (l : List Int32) (k : Nat) : (gturn l k).length = l.length := by simp [gturn]
theorem gturn_get (l : List Int32) (k i : Nat) (hi : i < l.length) : (gturn l k).getD i (-1) = if i < k ∨ l.length - 1 - k < i then l.getD (l.length - 1 - i) (-1) else l.getD i (-1) := by
  unfold gturn
  rw [List.getD_eq_getElem?_getD, List.getElem?_map, List.getElem?_range hi]
  rfl
theorem gturn_0 (l : List Int32) : gturn l 0 = l := by
  refine gext (gturn_len l 0) (fun i hi => ?_)
  rw [gturn_len] at hi
  rw [gturn_get l 0 i hi, if_neg (by omega)]
theorem gturn_step (l : List Int32) (k : Nat) (hk : k < l.length - 1 - k) : ((gturn l k).set k (l.getD (l.length - 1 - k) (-1))).set (l.length - 1 - k) (l.getD k (-1)) = gturn l (k + 1) := by
  refine gext (by simp [gturn_len]) (fun i hi => ?_)
  rw [List.length_set, List.length_set, gturn_len] at hi
  rw [gset_get _ _ _ _ (by rw [List.length_set, gturn_len]; exact hi), gset_get _ _ _ _ (by rw [gturn_len]; exact hi), gturn_get l k i hi, gturn_get l (k + 1) i hi]
  by_cases h1 : i = l.length - 1 - k
  · rw [if_pos h1, if_pos (by omega), show l.length - 1 - i = k by omega]
  · rw [if_neg h1]
    by_cases h2 : i = k
    · rw [if_pos h2, if_pos (by omega), h2]
    · rw [if_neg h2]
      by_cases h3 : i < k ∨ l.length - 1 - k < i
      · rw [if_pos h3, if_pos (by omega)]
      · rw [if_neg h3, if_neg (by omega)]
theorem gturn_all (l : List Int32) (k : Nat) (hk : ¬ k < l.length - 1 - k) : gturn l k = l.reverse := by
  refine gext (by simp [gturn_len]) (fun i hi => ?_)
  rw [gturn_len] at hi
  rw [gturn_get l k i hi, List.getD_eq_getElem?_getD (l := l.reverse), List.getElem?_reverse hi, ← List.getD_eq_getElem?_getD]
  by_cases h : i < k ∨ l.length - 1 - k < i
  · rw [if_pos h]
  · rw [if_neg h, show l.length - 1 - i = i by omega]
/-- the canonical form, place by place -/
def gcanS (l : List Int32) : Nat → List Int32 × Int32
  | 0 => (l, 10)
  | k + 1 =>
    let p := gcanS l k
    let x := p.1.getD k (-1)
    let m := if p.2 < x then p.1.map (fun y => if y = x then p.2 else if y = p.2 then x else y) else p.1
    (m, if m.getD k (-1) = p.2 then p.2 + 1 else p.2)
def gcan (l : List Int32) : List Int32 := (gcanS l l.length).1
theorem gcanS_len (l : List Int32) (k : Nat) : (gcanS l k).1.length = l.length := by
  induction k with
  | zero => rfl
  | succ k ih =>
    simp only [gcanS]
    split
    · rw [List.length_map]; exact ih
    · exact ih
/-- to the next word, from place i - 1 down -/
def gadvI (z : Int32) : List Int32 → Nat → List Int32
  | l, 0 => l
  | l, i + 1 => if l.getD i (-1) + 1 < z then l.set i (l.getD i (-1) + 1) else gadvI z (l.set i 0) i
theorem gadvI_len (z : Int32) : ∀ (i : Nat) (l : List Int32), (gadvI z l i).length = l.length := by
  intro i
  induction i with
  | zero => intro l; rfl
  | succ i ih =>
    intro l
    unfold gadvI
    split
    · rw [List.length_set]
    · rw [ih, List.length_set]
theorem gm1 (k : Nat) : nI (k + 1) + Int32.ofInt (-1) = nI k := by
  rw [nI_succ]
  have : Int32.ofInt (-1) = -1 := by decide
  rw [this, Int32.add_assoc]
  have h2 : (1 : Int32) + -1 = 0 := by decide
  rw [h2, Int32.add_zero]
theorem gm1' (k : Nat) : nI k + Int32.ofInt (-1) = nI k - 1 := by
  have : Int32.ofInt (-1) = -1 := by decide
  rw [this, Int32.sub_eq_add_neg]
theorem gm0 (k : Nat) : nI (k + 1) - 1 = nI k := gsub (a := k + 1) (b := 1) (by omega)
set_option maxHeartbeats 2000000 in
theorem r_fillWith {fl : Bool} {d : Nat} {h : GH} {r q cap : Nat} {l : List Int32} (hR : gRow h r q cap l) (x : Int32) {c : Nat} (hc : c ≤ cap) : gN fl (d + 2) yX2_fillWith [.ref r, .int x, .int (nI c)] h (fun o h' => o = none ∧ gRow h' r q cap (List.replicate c x) ∧ gFr r q h h') := by
  obtain ⟨hrq, hlc, hcap, hr, f, hq, hf⟩ := id hR
  refine gN.of MX2_fillWith (Nat.le_of_ble_eq_true rfl) (fun J n hJ => ?_)
  show J 0 [some (.ref r), some (.int x), some (.int (nI c)), none] [] h (n, 0, 0, fl)
  have loop : ∀ k, k ≤ c → ∀ h1, gRow h1 r q cap (List.replicate k x) → gFr r q h h1 → J 6 [some (.ref r), some (.int x), some (.int (nI c)), some (.int (nI k))] [] h1 (n, 0, 0, fl) := by
    refine gloop _ _ (fun k hk ih h1 hR1 hF1 => ?_)
    obtain ⟨hrq1, hlc1, hcap1, hr1, f1, hq1, hf1⟩ := id hR1
    refine j_p (nx := 7) hJ dX2_fillWith_6 rfl rfl ?_
    refine j_p (nx := 8) hJ dX2_fillWith_7 rfl rfl ?_
    refine j_ic_ge (nx := 11) (tgt := 23) hJ dX2_fillWith_8 rfl (by decide) (fun c8 => ?_) (fun c8 => ?_)
    · rw [gnle (by omega) (by omega)] at c8
      have e0 : k = c := by omega
      subst e0
      exact j_vret hJ dX2_fillWith_23 ⟨rfl, hR1, hF1⟩
    · rw [gnle (by omega) (by omega)] at c8
      refine j_p (nx := 12) hJ dX2_fillWith_11 rfl rfl ?_
      refine j_p (nx := 13) hJ dX2_fillWith_12 rfl rfl ?_
      refine j_cv (nx := 16) hJ dX2_fillWith_13 rfl (r_add (fl := fl) (d := d) hR1 x) mX2_33 (by assumption) kX2_add rfl (gle8 rfl) (fun o h2 hp => ?_)
      obtain ⟨rfl, hR2, hF2⟩ := hp
      rw [List.length_replicate, if_pos (by omega), ← List.replicate_succ'] at hR2
      refine j_p (nx := 17) hJ dX2_fillWith_16 rfl rfl ?_
      refine j_inc (nx := 20) hJ dX2_fillWith_17 rfl rfl (gi1 k) rfl ?_
      refine j_go (tgt := 6) hJ dX2_fillWith_20 (by decide) ?_
      exact ih (by omega) h2 hR2 (hF1.tr hF2)
  refine j_p (nx := 1) hJ dX2_fillWith_0 rfl rfl ?_
  refine j_cv (nx := 4) hJ dX2_fillWith_1 rfl (r_clear (fl := fl) (d := d) hR) mX2_39 (by assumption) kX2_clear rfl (gle8 rfl) (fun o h1 hp => ?_)
  obtain ⟨rfl, hR1, hF1⟩ := hp
  refine j_c (nx := 5) hJ dX2_fillWith_4 rfl gk_iconst_0 ?_
  refine j_p (nx := 6) hJ dX2_fillWith_5 rfl rfl ?_
  exact loop 0 (Nat.zero_le _) h1 hR1 hF1
set_option maxHeartbeats 2000000 in
theorem r_turnAround {fl : Bool} {d : Nat} {h : GH} {r q cap : Nat} {l : List Int32} (hR : gRow h r q cap l) (h1l : 1 ≤ l.length) : gN fl (d + 3) yX2_turnAround [.ref r] h (fun o h' => o = none ∧ gRow h' r q cap l.reverse ∧ gFr r q h h') := by
  obtain ⟨hrq, hlc, hcap, hr, f, hq, hf⟩ := id hR
  refine gN.of MX2_turnAround (Nat.le_of_ble_eq_true rfl) (fun J n hJ => ?_)
  show J 0 [some (.ref r), none, none, none] [] h (n, 0, 0, fl)
  have loop : ∀ k, k ≤ l.length → ∀ (w : Option Value) (h1 : GH), gRow h1 r q cap (gturn l k) → gFr r q h h1 → J 9 [some (.ref r), some (.int (nI k)), some (.int (nI (l.length - 1 - k))), w] [] h1 (n, 0, 0, fl) := by
    refine gloop _ _ (fun k hk ih w h1 hR1 hF1 => ?_)
    obtain ⟨hrq1, hlc1, hcap1, hr1, f1, hq1, hf1⟩ := id hR1
    refine j_p (nx := 10) hJ dX2_turnAround_9 rfl rfl ?_
    refine j_p (nx := 11) hJ dX2_turnAround_10 rfl rfl ?_
    refine j_ic_ge (nx := 14) (tgt := 45) hJ dX2_turnAround_11 rfl (by decide) (fun c11 => ?_) (fun c11 => ?_)
    · rw [gnle (by omega) (by omega)] at c11
      rw [gturn_all l k (by omega)] at hR1
      exact j_vret hJ dX2_turnAround_45 ⟨rfl, hR1, hF1⟩
    · rw [gnle (by omega) (by omega)] at c11
      have hkl : k < l.length - 1 - k := by omega
      refine j_p (nx := 15) hJ dX2_turnAround_14 rfl rfl ?_
      refine j_p (nx := 16) hJ dX2_turnAround_15 rfl rfl ?_
      refine j_cvR (nx := 19) hJ dX2_turnAround_16 rfl (r_at (fl := fl) (d := d + 1) hR1 (nI k)) mX2_29 (by assumption) kX2_at rfl (gle8 rfl) ?_
      rw [gat_nI (by omega), gturn_get l k k (by omega), if_neg (by omega)]
      refine j_p (nx := 20) hJ dX2_turnAround_19 rfl rfl ?_
      refine j_p (nx := 21) hJ dX2_turnAround_20 rfl rfl ?_
      refine j_p (nx := 22) hJ dX2_turnAround_21 rfl rfl ?_
      refine j_p (nx := 23) hJ dX2_turnAround_22 rfl rfl ?_
      refine j_p (nx := 24) hJ dX2_turnAround_23 rfl rfl ?_
      refine j_cvR (nx := 27) hJ dX2_turnAround_24 rfl (r_at (fl := fl) (d := d + 1) hR1 (nI (l.length - 1 - k))) mX2_29 (by assumption) kX2_at rfl (gle8 rfl) ?_
      rw [gat_nI (by omega), gturn_get l k (l.length - 1 - k) (by omega), if_neg (by omega)]
      refine j_cv (nx := 30) hJ dX2_turnAround_27 rfl (r_put (fl := fl) (d := d) hR1 (j := k) (by omega) (l.getD (l.length - 1 - k) (-1))) mX2_42 (by assumption) kX2_put rfl (gle8 rfl) (fun o h2 hp => ?_)
      obtain ⟨rfl, hR2, hF2⟩ := hp
      obtain ⟨-, -, -, hr2, -⟩ := id hR2
      refine j_p (nx := 31) hJ dX2_turnAround_30 rfl rfl ?_
      refine j_p (nx := 32) hJ dX2_turnAround_31 rfl rfl ?_
      refine j_p (nx := 33) hJ dX2_turnAround_32 rfl rfl ?_
      refine j_cv (nx := 36) hJ dX2_turnAround_33 rfl (r_put (fl := fl) (d := d) hR2 (j := l.length - 1 - k) (by omega) (l.getD k (-1))) mX2_42 (by assumption) kX2_put rfl (gle8 rfl) (fun o h3 hp => ?_)
      obtain ⟨rfl, hR3, hF3⟩ := hp
      rw [gturn_step l k hkl] at hR3
      refine j_inc (nx := 39) hJ dX2_turnAround_36 rfl rfl (gi1 k) rfl ?_
      obtain ⟨z, hz⟩ : ∃ z, l.length - 1 - k = z + 1 := ⟨l.length - 1 - k - 1, by omega⟩
      refine j_inc (nx := 42) hJ dX2_turnAround_39 rfl rfl (show nI (l.length - 1 - k) + Int32.ofInt (-1) = nI (l.length - 1 - (k + 1)) by rw [hz, gm1, show l.length - 1 - (k + 1) = z by omega]) rfl ?_
      refine j_go (tgt := 9) hJ dX2_turnAround_42 (by decide) ?_
      exact ih (by omega) _ h3 hR3 ((hF1.tr hF2).tr hF3)
  refine j_c (nx := 1) hJ dX2_turnAround_0 rfl gk_iconst_0 ?_
  refine j_p (nx := 2) hJ dX2_turnAround_1 rfl rfl ?_
  refine j_p (nx := 3) hJ dX2_turnAround_2 rfl rfl ?_
  refine j_get (nx := 6) hJ dX2_turnAround_3 rfl fX2_9 (by assumption) (by rfl) ?_
  refine j_c (nx := 7) hJ dX2_turnAround_6 rfl gk_iconst_1 ?_
  refine j_p (nx := 8) hJ dX2_turnAround_7 rfl rfl ?_
  refine j_p (nx := 9) hJ dX2_turnAround_8 rfl rfl ?_
  have e0 : nI l.length - 1 = nI (l.length - 1 - 0) := gsub (b := 1) h1l
  rw [e0]
  exact loop 0 (Nat.zero_le _) none h (by rw [gturn_0]; exact hR) gFr.rf
set_option maxHeartbeats 2000000 in
theorem r_makeCanonical {fl : Bool} {d : Nat} {h : GH} {r q cap : Nat} {l : List Int32} (hR : gRow h r q cap l) : gN fl (d + 4) yX2_makeCanonical [.ref r] h (fun o h' => o = none ∧ gRow h' r q cap (gcan l) ∧ gFr r q h h') := by
  obtain ⟨hrq, hlc, hcap, hr, f, hq, hf⟩ := id hR
  refine gN.of MX2_makeCanonical (Nat.le_of_ble_eq_true rfl) (fun J n hJ => ?_)
  show J 0 [some (.ref r), none, none] [] h (n, 0, 0, fl)
  have loop : ∀ k, k ≤ l.length → ∀ h1, gRow h1 r q cap (gcanS l k).1 → gFr r q h h1 → J 5 [some (.ref r), some (.int (gcanS l k).2), some (.int (nI k))] [] h1 (n, 0, 0, fl) := by
    refine gloop _ _ (fun k hk ih h1 hR1 hF1 => ?_)
    obtain ⟨hrq1, hlc1, hcap1, hr1, f1, hq1, hf1⟩ := id hR1
    refine j_p (nx := 6) hJ dX2_makeCanonical_5 rfl rfl ?_
    refine j_p (nx := 7) hJ dX2_makeCanonical_6 rfl rfl ?_
    refine j_get (nx := 10) hJ dX2_makeCanonical_7 rfl fX2_9 (by assumption) (by rfl) ?_
    refine j_ic_ge (nx := 13) (tgt := 50) hJ dX2_makeCanonical_10 rfl (by decide) (fun c10 => ?_) (fun c10 => ?_)
    · rw [gcanS_len, gnle (by omega) (by omega)] at c10
      have e0 : k = l.length := by omega
      subst e0
      exact j_vret hJ dX2_makeCanonical_50 ⟨rfl, hR1, hF1⟩
    · rw [gcanS_len, gnle (by omega) (by omega)] at c10
      have hkl : k < l.length := by omega
      have tl : ∀ h2, gRow h2 r q cap (gcanS l (k + 1)).1 → gFr r q h h2 → J 32 [some (.ref r), some (.int (gcanS l k).2), some (.int (nI k))] [] h2 (n, 0, 0, fl) := by
        intro h2 hR2 hF2
        obtain ⟨-, -, -, hr2, -⟩ := id hR2
        refine j_p (nx := 33) hJ dX2_makeCanonical_32 rfl rfl ?_
        refine j_p (nx := 34) hJ dX2_makeCanonical_33 rfl rfl ?_
        refine j_cvR (nx := 37) hJ dX2_makeCanonical_34 rfl (r_at (fl := fl) (d := d + 2) hR2 (nI k)) mX2_29 (by assumption) kX2_at rfl (gle8 rfl) ?_
        rw [gat_nI (by omega)]
        refine j_p (nx := 38) hJ dX2_makeCanonical_37 rfl rfl ?_
        refine j_ic_ne (nx := 41) (tgt := 44) hJ dX2_makeCanonical_38 rfl (by decide) (fun c38 => ?_) (fun c38 => ?_)
        · refine j_inc (nx := 47) hJ dX2_makeCanonical_44 rfl rfl (gi1 k) rfl ?_
          refine j_go (tgt := 5) hJ dX2_makeCanonical_47 (by decide) ?_
          have ih1 := ih hkl h2 hR2 hF2
          have e8 : (gcanS l (k + 1)).2 = if (gcanS l (k + 1)).1.getD k (-1) = (gcanS l k).2 then (gcanS l k).2 + 1 else (gcanS l k).2 := rfl
          first | rw [e8, if_pos c38] at ih1 | rw [e8, if_neg c38] at ih1
          exact ih1
        · refine j_inc (nx := 44) hJ dX2_makeCanonical_41 rfl rfl (gone _) rfl ?_
          refine j_inc (nx := 47) hJ dX2_makeCanonical_44 rfl rfl (gi1 k) rfl ?_
          refine j_go (tgt := 5) hJ dX2_makeCanonical_47 (by decide) ?_
          have ih1 := ih hkl h2 hR2 hF2
          have e8 : (gcanS l (k + 1)).2 = if (gcanS l (k + 1)).1.getD k (-1) = (gcanS l k).2 then (gcanS l k).2 + 1 else (gcanS l k).2 := rfl
          first | rw [e8, if_pos c38] at ih1 | rw [e8, if_neg c38] at ih1
          exact ih1
      refine j_p (nx := 14) hJ dX2_makeCanonical_13 rfl rfl ?_
      refine j_p (nx := 15) hJ dX2_makeCanonical_14 rfl rfl ?_
      refine j_cvR (nx := 18) hJ dX2_makeCanonical_15 rfl (r_at (fl := fl) (d := d + 2) hR1 (nI k)) mX2_29 (by assumption) kX2_at rfl (gle8 rfl) ?_
      rw [gat_nI (by omega)]
      refine j_p (nx := 19) hJ dX2_makeCanonical_18 rfl rfl ?_
      refine j_ic_le (nx := 22) (tgt := 32) hJ dX2_makeCanonical_19 rfl (by decide) (fun c19 => ?_) (fun c19 => ?_)
      · exact tl _ (by first | exact hR2 | (rw [show (gcanS l (k + 1)).1 = (gcanS l k).1 by simp only [gcanS]; rw [if_neg (Int32.not_lt.mpr c19)]]; exact hR1)) (by first | exact hF1.tr hF2 | exact hF1)
      · refine j_p (nx := 23) hJ dX2_makeCanonical_22 rfl rfl ?_
        refine j_p (nx := 24) hJ dX2_makeCanonical_23 rfl rfl ?_
        refine j_p (nx := 25) hJ dX2_makeCanonical_24 rfl rfl ?_
        refine j_cvR (nx := 28) hJ dX2_makeCanonical_25 rfl (r_at (fl := fl) (d := d + 2) hR1 (nI k)) mX2_29 (by assumption) kX2_at rfl (gle8 rfl) ?_
        rw [gat_nI (by omega)]
        refine j_p (nx := 29) hJ dX2_makeCanonical_28 rfl rfl ?_
        refine j_cv (nx := 32) hJ dX2_makeCanonical_29 rfl (r_exchange (fl := fl) (d := d) hR1 ((gcanS l k).1.getD k (-1)) (gcanS l k).2) mX2_46 (by assumption) kX2_exchange rfl (gle8 rfl) (fun o h2 hp => ?_)
        obtain ⟨rfl, hR2, hF2⟩ := hp
        have e9 : (gcanS l k).1.map (fun y => if y = ((gcanS l k).1.getD k (-1)) then (gcanS l k).2 else if y = (gcanS l k).2 then ((gcanS l k).1.getD k (-1)) else y) = (gcanS l (k + 1)).1 := by
          simp only [gcanS]
          rw [if_pos (Int32.not_le.mp c19)]
        rw [e9] at hR2
        exact tl _ (by first | exact hR2 | (rw [show (gcanS l (k + 1)).1 = (gcanS l k).1 by simp only [gcanS]; rw [if_neg (Int32.not_lt.mpr c19)]]; exact hR1)) (by first | exact hF1.tr hF2 | exact hF1)
  refine j_c (nx := 2) hJ dX2_makeCanonical_0 rfl gk_bipush_10 ?_
  refine j_p (nx := 3) hJ dX2_makeCanonical_2 rfl rfl ?_
  refine j_c (nx := 4) hJ dX2_makeCanonical_3 rfl gk_iconst_0 ?_
  refine j_p (nx := 5) hJ dX2_makeCanonical_4 rfl rfl ?_
  exact loop 0 (Nat.zero_le _) h hR gFr.rf
set_option maxHeartbeats 2000000 in
theorem r_advance {fl : Bool} {d : Nat} {h : GH} {r q cap : Nat} {l : List Int32} (hR : gRow h r q cap l) (z : Int32) : gN fl (d + 3) yX2_advance [.ref r, .int z] h (fun o h' => o = none ∧ gRow h' r q cap (gadvI z l l.length) ∧ gFr r q h h') := by
  obtain ⟨hrq, hlc, hcap, hr, f, hq, hf⟩ := id hR
  refine gN.of MX2_advance (Nat.le_of_ble_eq_true rfl) (fun J n hJ => ?_)
  show J 0 [some (.ref r), some (.int z), none] [] h (n, 0, 0, fl)
  have loop : ∀ k, k ≤ l.length → ∀ (h1 : GH) (w : List Int32), gRow h1 r q cap w → w.length = l.length → gFr r q h h1 → gadvI z w k = gadvI z l l.length → J 7 [some (.ref r), some (.int z), some (.int (nI k - 1))] [] h1 (n, 0, 0, fl) := by
    intro k
    induction k with
    | zero =>
      intro hk h1 w hR1 hw hF1 e1
      change w = _ at e1
      refine j_p (nx := 8) hJ dX2_advance_7 rfl rfl ?_
      refine j_if_lt (nx := 11) (tgt := 47) hJ dX2_advance_8 rfl (by decide) (fun c8 => ?_) (fun c8 => absurd c8 (by decide))
      exact j_vret hJ dX2_advance_47 ⟨rfl, e1 ▸ hR1, hF1⟩
    | succ k ih =>
      intro hk h1 w hR1 hw hF1 e1
      obtain ⟨hrq1, hlc1, hcap1, hr1, f1, hq1, hf1⟩ := id hR1
      rw [gm0]
      refine j_p (nx := 8) hJ dX2_advance_7 rfl rfl ?_
      refine j_if_lt (nx := 11) (tgt := 47) hJ dX2_advance_8 rfl (by decide) (fun c8 => absurd c8 (nI_pos (by omega))) (fun c8 => ?_)
      refine j_p (nx := 12) hJ dX2_advance_11 rfl rfl ?_
      refine j_p (nx := 13) hJ dX2_advance_12 rfl rfl ?_
      refine j_cvR (nx := 16) hJ dX2_advance_13 rfl (r_at (fl := fl) (d := d + 1) hR1 (nI k)) mX2_29 (by assumption) kX2_at rfl (gle8 rfl) ?_
      rw [gat_nI (by omega)]
      refine j_c (nx := 17) hJ dX2_advance_16 rfl gk_iconst_1 ?_
      refine j_p (nx := 18) hJ dX2_advance_17 rfl rfl ?_
      refine j_p (nx := 19) hJ dX2_advance_18 rfl rfl ?_
      refine j_ic_ge (nx := 22) (tgt := 35) hJ dX2_advance_19 rfl (by decide) (fun c19 => ?_) (fun c19 => ?_)
      · refine j_p (nx := 36) hJ dX2_advance_35 rfl rfl ?_
        refine j_p (nx := 37) hJ dX2_advance_36 rfl rfl ?_
        refine j_c (nx := 38) hJ dX2_advance_37 rfl gk_iconst_0 ?_
        refine j_cv (nx := 41) hJ dX2_advance_38 rfl (r_put (fl := fl) (d := d) hR1 (j := k) (by omega) 0) mX2_42 (by assumption) kX2_put rfl (gle8 rfl) (fun o h2 hp => ?_)
        obtain ⟨rfl, hR2, hF2⟩ := hp
        rw [gadvI, if_neg (Int32.not_lt.mpr c19)] at e1
        refine j_inc (nx := 44) hJ dX2_advance_41 rfl rfl (gm1' k) rfl ?_
        refine j_go (tgt := 7) hJ dX2_advance_44 (by decide) ?_
        exact ih (by omega) h2 _ hR2 (by rw [List.length_set]; exact hw) (hF1.tr hF2) e1
      · refine j_p (nx := 23) hJ dX2_advance_22 rfl rfl ?_
        refine j_p (nx := 24) hJ dX2_advance_23 rfl rfl ?_
        refine j_p (nx := 25) hJ dX2_advance_24 rfl rfl ?_
        refine j_p (nx := 26) hJ dX2_advance_25 rfl rfl ?_
        refine j_cvR (nx := 29) hJ dX2_advance_26 rfl (r_at (fl := fl) (d := d + 1) hR1 (nI k)) mX2_29 (by assumption) kX2_at rfl (gle8 rfl) ?_
        rw [gat_nI (by omega)]
        refine j_c (nx := 30) hJ dX2_advance_29 rfl gk_iconst_1 ?_
        refine j_p (nx := 31) hJ dX2_advance_30 rfl rfl ?_
        refine j_cv (nx := 34) hJ dX2_advance_31 rfl (r_put (fl := fl) (d := d) hR1 (j := k) (by omega) (w.getD k (-1) + 1)) mX2_42 (by assumption) kX2_put rfl (gle8 rfl) (fun o h2 hp => ?_)
        obtain ⟨rfl, hR2, hF2⟩ := hp
        rw [gadvI, if_pos (Int32.not_le.mp c19)] at e1
        exact j_vret hJ dX2_advance_34 ⟨rfl, e1 ▸ hR2, hF1.tr hF2⟩
  refine j_p (nx := 1) hJ dX2_advance_0 rfl rfl ?_
  refine j_get (nx := 4) hJ dX2_advance_1 rfl fX2_9 (by assumption) (by rfl) ?_
  refine j_c (nx := 5) hJ dX2_advance_4 rfl gk_iconst_1 ?_
  refine j_p (nx := 6) hJ dX2_advance_5 rfl rfl ?_
  refine j_p (nx := 7) hJ dX2_advance_6 rfl rfl ?_
  exact loop l.length (Nat.le_refl _) h l hR rfl gFr.rf rfl
