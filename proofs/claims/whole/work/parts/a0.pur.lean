/-- the number that the first i letters spell -/
def gvl (k : Nat) (l : List Int32) : Nat → Nat
  | 0 => 0
  | i + 1 => gvl k l i * k + (l.getD i (-1)).toInt.toNat
theorem gvl_eq {k : Nat} {l l' : List Int32} : ∀ i, (∀ j, j < i → l'.getD j (-1) = l.getD j (-1)) → gvl k l' i = gvl k l i
  | 0, _ => rfl
  | i + 1, h => by rw [gvl, gvl, gvl_eq i (fun j hj => h j (by omega)), h i (by omega)]
theorem gadv_val {k : Nat} (hk1 : 1 ≤ k) (hk : k ≤ 3) : ∀ (i : Nat) (l : List Int32), i ≤ l.length → (∀ j, j < i → ∃ m, l.getD j (-1) = nI m ∧ m < k) →
    (gwr (nI k) l i = true → gvl k (gadvI (nI k) l i) i = gvl k l i + 1) ∧ (gwr (nI k) l i = false → gvl k l i + 1 = k ^ i) ∧ (∀ j, j < i → ∃ m, (gadvI (nI k) l i).getD j (-1) = nI m ∧ m < k) ∧ ∀ j, i ≤ j → (gadvI (nI k) l i).getD j (-1) = l.getD j (-1)
  | 0, l, _, _ => ⟨fun h => (by cases h), fun _ => rfl, fun j hj => (by omega), fun _ _ => rfl⟩
  | i + 1, l, hi, he => by
    obtain ⟨m, hm, hmk⟩ := he i (by omega)
    have hget : ∀ (v : Int32) (j : Nat), j < l.length → (l.set i v).getD j (-1) = if j = i then v else l.getD j (-1) := fun v j hj => gset_get l i v j hj
    have hout : ∀ (v : Int32) (j : Nat), i + 1 ≤ j → (l.set i v).getD j (-1) = l.getD j (-1) := fun v j hj => by
      rw [List.getD_eq_getElem?_getD, List.getElem?_set_ne (by omega), List.getD_eq_getElem?_getD]
    have hv : (l.getD i (-1)).toInt.toNat = m := by rw [hm, nI_toInt (by omega)]; rfl
    by_cases hc : l.getD i (-1) + 1 < nI k
    · have hm1 : m + 1 < k := by
        rw [hm, show nI m + 1 = nI (m + 1) from (nI_succ m).symm, gnlt (by omega) (by omega)] at hc
        exact hc
      rw [gwr, gadvI, if_pos hc, if_pos hc]
      refine ⟨fun _ => ?_, fun q => (by cases q), fun j hj => ?_, fun j hj => hout _ j hj⟩
      · have hs1 : gvl k (l.set i (l.getD i (-1) + 1)) i = gvl k l i := gvl_eq i (fun j hj => by rw [hget _ j (by omega), if_neg (by omega)])
        rw [gvl, gvl, hs1, hget _ i (by omega), if_pos rfl, hv, hm, show nI m + 1 = nI (m + 1) from (nI_succ m).symm, nI_toInt (by omega)]
        show _ + (m + 1) = _
        omega
      · rw [hget _ j (by omega)]
        by_cases e : j = i
        · rw [if_pos e, hm]; exact ⟨m + 1, (nI_succ m).symm, hm1⟩
        · rw [if_neg e]; exact he j hj
    · have hm1 : m + 1 = k := by
        apply Classical.byContradiction
        intro q
        exact hc (by rw [hm, show nI m + 1 = nI (m + 1) from (nI_succ m).symm, gnlt (by omega) (by omega)]; omega)
      rw [gwr, gadvI, if_neg hc, if_neg hc]
      obtain ⟨h1, h2, h3, h4⟩ := gadv_val hk1 hk i (l.set i 0) (by rw [List.length_set]; omega) (fun j hj => by rw [hget _ j (by omega), if_neg (by omega)]; exact he j (by omega))
      have hsame : gvl k (l.set i 0) i = gvl k l i := gvl_eq i (fun j hj => by rw [hget _ j (by omega), if_neg (by omega)])
      have hzi : (gadvI (nI k) (l.set i 0) i).getD i (-1) = 0 := by rw [h4 i (Nat.le_refl _), hget _ i (by omega), if_pos rfl]
      refine ⟨fun q => ?_, fun q => ?_, fun j hj => ?_, fun j hj => ?_⟩
      · rw [gvl, gvl, h1 q, hsame, hzi, hv, Nat.add_mul]
        show _ + 1 * k + 0 = _
        omega
      · have := h2 q
        rw [hsame] at this
        rw [gvl, hv, Nat.pow_succ, ← this, Nat.add_mul]
        omega
      · by_cases e : j = i
        · subst e; rw [hzi]; exact ⟨0, rfl, by omega⟩
        · exact h3 j (by omega)
      · rw [h4 j (by omega)]; exact hout _ j hj
theorem gvl_lt {k : Nat} : ∀ (i : Nat) (l : List Int32), (∀ j, j < i → ∃ m, l.getD j (-1) = nI m ∧ m < k ∧ k ≤ 3) → gvl k l i < k ^ i ∨ i = 0 ∧ gvl k l i = 0
  | 0, _, _ => Or.inr ⟨rfl, rfl⟩
  | i + 1, l, h => by
    obtain ⟨m, hm, hmk, hk⟩ := h i (by omega)
    refine Or.inl ?_
    have hv : (l.getD i (-1)).toInt.toNat = m := by rw [hm, nI_toInt (by omega)]; rfl
    rw [gvl, hv, Nat.pow_succ]
    have h1 : gvl k l i + 1 ≤ k ^ i := by
      rcases gvl_lt i l (fun j hj => h j (by omega)) with q | ⟨q1, q2⟩
      · exact q
      · rw [q2, q1]; exact Nat.le_refl _
    have h2 : (gvl k l i + 1) * k ≤ k ^ i * k := Nat.mul_le_mul_right k h1
    rw [Nat.add_mul] at h2
    omega
/-- the words of gpr -/
theorem gpr_val {k n : Nat} (hk1 : 1 ≤ k) (hk : k ≤ 3) : ∀ i, i < k ^ n → (∀ j, j < n → ∃ m, (gpr (nI k) n i).getD j (-1) = nI m ∧ m < k) ∧ gvl k (gpr (nI k) n i) n = i
  | 0, _ => by
    have hz : ∀ j, j < n → (List.replicate n (0 : Int32)).getD j (-1) = 0 := fun j hj => by
      rw [List.getD_eq_getElem?_getD, List.getElem?_replicate, if_pos hj]; rfl
    refine ⟨fun j hj => ⟨0, hz j hj, by omega⟩, ?_⟩
    show gvl k (List.replicate n 0) n = 0
    have key : ∀ m, m ≤ n → gvl k (List.replicate n 0) m = 0 := by
      intro m
      induction m with
      | zero => intro _; rfl
      | succ m ih => intro hm; rw [gvl, ih (by omega), hz m (by omega), Nat.zero_mul]; rfl
    exact key n (Nat.le_refl _)
  | i + 1, h => by
    obtain ⟨h1, h2⟩ := gpr_val (n := n) hk1 hk i (by omega)
    have hlen := gpr_len (nI k) n i
    have ha := gadv_val hk1 hk n (gpr (nI k) n i) (by omega) h1
    have hw : gwr (nI k) (gpr (nI k) n i) n = true := by
      cases hq : gwr (nI k) (gpr (nI k) n i) n with
      | true => rfl
      | false => have := ha.2.1 hq; omega
    have e : gpr (nI k) n (i + 1) = gadvI (nI k) (gpr (nI k) n i) n := by rw [gpr, hlen]
    rw [e]
    exact ⟨ha.2.2.1, by rw [ha.1 hw, h2]⟩
theorem gpr_wr {k n i : Nat} (hk1 : 1 ≤ k) (hk : k ≤ 3) (hi : i < k ^ n) : gwr (nI k) (gpr (nI k) n i) n = decide (i + 1 < k ^ n) := by
  obtain ⟨h1, h2⟩ := gpr_val hk1 hk i hi
  have hlen := gpr_len (nI k) n i
  have ha := gadv_val hk1 hk n (gpr (nI k) n i) (by omega) h1
  cases hq : gwr (nI k) (gpr (nI k) n i) n with
  | false => have := ha.2.1 hq; exact (decide_eq_false (by omega)).symm
  | true =>
    have h3 := ha.1 hq
    rcases gvl_lt n (gadvI (nI k) (gpr (nI k) n i) n) (fun j hj => (ha.2.2.1 j hj).elim (fun m hm => ⟨m, hm.1, hm.2, hk⟩)) with q | ⟨q1, q2⟩
    · exact (decide_eq_true (by omega)).symm
    · omega
