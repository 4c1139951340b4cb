theorem gus_cP (p : List Int32) (v : Nat) : gus p v = p.countP (fun c => decide (gvo c = some v)) := by
  have key : ∀ (p : List Int32) (n : Nat), p.foldl (fun n c => if gvo c = some v then n + 1 else n) n = n + p.countP (fun c => decide (gvo c = some v)) := by
    intro p
    induction p with
    | nil => intro n; rfl
    | cons c p ih =>
      intro n
      rw [List.foldl_cons, List.countP_cons]
      by_cases e : gvo c = some v
      · rw [if_pos e, ih]; simp [e]; omega
      · rw [if_neg e, ih]; simp [e]
  have := key p 0
  rw [Nat.zero_add] at this
  exact this
def glc (p : List Int32) : Nat := p.countP (fun y => decide (¬ (10 : Int32) ≤ y))
def gS (w us : Nat → Nat) : Nat → Nat
  | 0 => 0
  | n + 1 => gS w us n + w n * us n
theorem gS_U (w us : Nat → Nat) (v n : Nat) : ∀ m, m ≤ v → gS (gU w v n) us m = gS w us m
  | 0, _ => rfl
  | m + 1, h => by rw [gS, gS, gS_U w us v n m (by omega), gU_n _ _ (by omega)]
theorem gtot_S {p : List Int32} (hs : ∀ c ∈ p, gsy c) (w : Nat → Nat) : gtot w p = gS w (gus p) 4 + glc p := by
  have e : ∀ q, gS w (gus q) 4 = w 0 * gus q 0 + w 1 * gus q 1 + w 2 * gus q 2 + w 3 * gus q 3 := fun q => by simp only [gS]; omega
  rw [e]
  induction p with
  | nil => rfl
  | cons c p ih =>
    have ih := ih (fun x hx => hs x (List.mem_cons_of_mem _ hx))
    have hsc := hs c (List.mem_cons_self ..)
    have hlc : glc (c :: p) = glc p + if (10 : Int32) ≤ c then 0 else 1 := by
      unfold glc
      rw [List.countP_cons]
      by_cases e : (10 : Int32) ≤ c <;> simp only [e, not_true_eq_false, not_false_eq_true, decide_false, decide_true, if_true, if_false, Bool.false_eq_true]
    have hc : ∀ u, gus (c :: p) u = gus p u + if gvo c = some u then 1 else 0 := fun u => by
      rw [gus_cP, gus_cP, List.countP_cons]
      simp
    rw [gtot, ih, hlc, hc 0, hc 1, hc 2, hc 3]
    cases hvo : gvo c with
    | none =>
      have := gvo_none hsc hvo
      rw [if_neg (c := (10 : Int32) ≤ c) (by rw [Int32.le_iff_toInt_le, show (10 : Int32).toInt = 10 by decide]; omega)]
      simp
      omega
    | some v =>
      obtain ⟨hv4, -, hce⟩ := gvo_some hvo
      rw [if_pos (c := (10 : Int32) ≤ c) (by rw [hce, show (10 : Int32) = nI 10 from rfl, gnle (by omega) (by omega)]; omega)]
      rcases (show v = 0 ∨ v = 1 ∨ v = 2 ∨ v = 3 by omega) with rfl | rfl | rfl | rfl <;> simp [Nat.mul_add] <;> omega
/-- the lengths chosen, in their order -/
def gch (p t : List Int32) (L : Nat) (us : Nat → Nat) : Nat → (Nat → Nat) → Nat → List (Nat → Nat)
  | 0, w, left => if left = 0 ∧ gpc t w p 0 (fun _ => none) = true then [w] else []
  | m + 1, w, left => if us (3 - m) = 0 then gch p t L us m (gU w (3 - m) 0) left else (List.range (left / us (3 - m) + 1 - L)).flatMap (fun k => gch p t L us m (gU w (3 - m) (L + k)) (left - (L + k) * us (3 - m)))
/-- the lengths of the first match -/
def gFl (fnd : Nat) (S : List (Nat → Nat)) (f g : Nat → Int32) : Prop := (fnd = 0 → S ≠ [] → ∀ u, u < 4 → f u = nI ((S.headD (fun _ => 0)) u)) ∧ ((fnd ≠ 0 ∨ S = []) → ∀ u, u < 4 → f u = g u)
theorem gFl_nil {fnd : Nat} {g : Nat → Int32} : gFl fnd [] g g := ⟨fun _ h => absurd rfl h, fun _ _ _ => rfl⟩
theorem gFl_more {fnd : Nat} {S T : List (Nat → Nat)} {f g : Nat → Int32} (h : gFl fnd S f g) (hS : S ≠ []) : gFl fnd (S ++ T) f g := by
  cases S with
  | nil => exact absurd rfl hS
  | cons a S => exact ⟨fun h0 _ => h.1 h0 (by simp), fun q => h.2 (q.imp id (fun q => by simp at q))⟩
theorem gFl_app {fnd : Nat} {S T : List (Nat → Nat)} {f f' g : Nat → Int32} (h : gFl fnd S f g) (h2 : gFl (fnd + S.length) T f' f) : gFl fnd (S ++ T) f' g := by
  cases S with
  | nil =>
    rw [List.nil_append]
    rw [List.length_nil, Nat.add_zero] at h2
    have h0 := h.2 (Or.inr rfl)
    exact ⟨h2.1, fun q u hu => (h2.2 q u hu).trans (h0 u hu)⟩
  | cons a S =>
    have h3 := h2.2 (Or.inl (by rw [List.length_cons]; omega))
    exact ⟨fun q _ u hu => (h3 u hu).trans (h.1 q (by simp) u hu), fun q u hu => (h3 u hu).trans (h.2 (q.imp id (fun q => by simp at q)) u hu)⟩
def gChOK (D : Nat) (h0 : GH) (E : Nat → Nat → Int64) (pa po ta tq : Nat) (p t : List Int32) (L : Nat) (us : Nat → Nat) (m : Nat) : Prop :=
  ∀ (h : GH) (A : Nat → Nat → Int32) (M : Nat → Int32) (w : Nat → Nat) (v left fnd mst : Nat), v + m = 4 → gP h0 h A E M (.ref pa) (.ref ta) → gXc A M pa po p ta tq t → (∀ u, u < v → A 110 u = nI (w u) ∧ w u ≤ 48) → (∀ u, u < 4 → A 109 u = nI (us u)) → M 21 = nI L → M 22 = nI mst → M 23 = nI fnd → fnd < mst → mst < 2 ^ 31 → left + gS w us v + glc p = t.length →
    gN false D yX6_choose [.ref 99, .int (nI v), .int (nI left)] h (fun o h' => o = none ∧ ∃ A', gP h0 h' A' E (gU M 23 (nI (min mst (fnd + (gch p t L us m w left).length)))) (.ref pa) (.ref ta) ∧ (∀ a, a ≠ 110 → a ≠ 111 → a ≠ 112 → A' a = A a) ∧ (∀ u, u < v → A' 110 u = A 110 u) ∧ gFl fnd (gch p t L us m w left) (A' 111) (A 111))
theorem gU_id {α : Type} {M : Nat → α} {i : Nat} {x : α} (h : M i = x) : ∀ a, M a = gU M i x a := fun a => by unfold gU; split; (next q => rw [q]; exact h); rfl
set_option maxHeartbeats 4000000 in
theorem r6_choose0 {h0 : GH} {E : Nat → Nat → Int64} {pa po ta tq : Nat} {p t : List Int32} {L : Nat} {us : Nat → Nat} (husE : us = gus p) (D0 : Nat) : gChOK (D0 + 2) h0 E pa po ta tq p t L us 0 := by
  intro h A M w v left fnd mst hv hP hX hw hus hL hmst hfnd hfm hm31 hsum
  have hv4 : v = 4 := by omega
  obtain ⟨x14, x15, x17, xpa, xta, xpn, xtn, xsp, xst, xpl, xtl, xsy⟩ := id hX
  have xz1 := gasz_le pa
  have xz2 := gasz_le ta
  refine gN.of MX6_choose (Nat.le_of_ble_eq_true rfl) (fun J n hJ => ?_)
  show J 0 [some (.ref 99), some (.int (nI v)), some (.int (nI left)), none] [] h (n, 0, 0, false)
  refine j_p (nx := 1) hJ dX6_choose_0 rfl rfl ?_
  refine j_c (nx := 2) hJ dX6_choose_1 rfl gk_iconst_4 ?_
  refine j_ic_ne (nx := 5) (tgt := 59) hJ dX6_choose_2 rfl (by decide) (fun c2 => absurd c2 (fun q => q (by rw [hv4]; rfl))) (fun c2 => ?_)
  refine j_p (nx := 6) hJ dX6_choose_5 rfl rfl ?_
  refine j_if_ne (nx := 9) (tgt := 58) hJ dX6_choose_6 rfl (by decide) (fun c6 => ?_) (fun c6 => ?_)
  · by_cases hl9 : left = 0
    · first
      | (rw [gb_f] at c13
         have eS : (gch p t L us 0 w left) = [] := if_neg (fun q => by rw [c13] at q; exact absurd q.2 (by decide))
         exact j_vret hJ dX6_choose_58 ⟨rfl, _, by rw [eS]; exact hP1.rw (fun _ => rfl) (fun _ => rfl) (gU_id (hfnd.trans (by rw [List.length_nil, Nat.add_zero, Nat.min_eq_right (by omega)]))), fun a p1 p2 p3 => gU_n _ _ p3, fun u hu => rfl, by rw [eS]; exact gFl_nil⟩)
      | exact absurd (by rw [hl9]; rfl) c6
    · have eS : (gch p t L us 0 w left) = [] := if_neg (fun q => hl9 q.1)
      first
      | exact j_vret hJ dX6_choose_58 ⟨rfl, A, by rw [eS]; exact hP.rw (fun _ => rfl) (fun _ => rfl) (gU_id (hfnd.trans (by rw [List.length_nil, Nat.add_zero, Nat.min_eq_right (by omega)]))), fun a _ _ _ => rfl, fun u hu => rfl, by rw [eS]; exact gFl_nil⟩
      | exact absurd hl0 hl9
  · refine j_p (nx := 10) hJ dX6_choose_9 rfl rfl ?_
    rw [gz0 (by omega)] at c6
    have hl0 := c6
    have htt : gtot w p = t.length := by rw [gtot_S xsy, ← husE]; rw [hv4] at hsum; omega
    refine j_cv (nx := 13) hJ dX6_choose_10 rfl (r6_produces (d := D0) hP hX (w := w) (fun u hu => (hw u (by omega)).1) (fun u hu => (hw u (by omega)).2) htt) mX6_213 hP.1.1 kX6_produces rfl (gle8 rfl) (fun o h1 hp => ?_)
    obtain ⟨rfl, f, hP1⟩ := hp
    refine j_if_eq (nx := 16) (tgt := 58) hJ dX6_choose_13 rfl (by decide) (fun c13 => ?_) (fun c13 => ?_)
    · by_cases hl9 : left = 0
      · first
        | (rw [gb_f] at c13
           have eS : (gch p t L us 0 w left) = [] := if_neg (fun q => by rw [c13] at q; exact absurd q.2 (by decide))
           exact j_vret hJ dX6_choose_58 ⟨rfl, _, by rw [eS]; exact hP1.rw (fun _ => rfl) (fun _ => rfl) (gU_id (hfnd.trans (by rw [List.length_nil, Nat.add_zero, Nat.min_eq_right (by omega)]))), fun a p1 p2 p3 => gU_n _ _ p3, fun u hu => rfl, by rw [eS]; exact gFl_nil⟩)
        | exact absurd (by rw [hl9]; rfl) c6
      · have eS : (gch p t L us 0 w left) = [] := if_neg (fun q => hl9 q.1)
        first
        | exact j_vret hJ dX6_choose_58 ⟨rfl, A, by rw [eS]; exact hP.rw (fun _ => rfl) (fun _ => rfl) (gU_id (hfnd.trans (by rw [List.length_nil, Nat.add_zero, Nat.min_eq_right (by omega)]))), fun a _ _ _ => rfl, fun u hu => rfl, by rw [eS]; exact gFl_nil⟩
        | exact absurd hl0 hl9
    · rw [gb_t] at c13
      have eS : (gch p t L us 0 w left) = [w] := if_pos ⟨hl0, c13⟩
      by_cases h0f : fnd = 0
      · have loop : ∀ i, i ≤ 4 → ∀ (h2 : GH) (g : Nat → Int32), gP h0 h2 (gU (gU A 112 f) 111 g) E M (.ref pa) (.ref ta) → (∀ u, u < i → g u = nI (w u)) → J 18 [some (.ref 99), some (.int (nI v)), some (.int (nI left)), some (.int (nI i))] [] h2 (n, 0, 0, false) := by
          refine gloop _ _ (fun i hi ihl h2 g hP2 hg => ?_)
          refine j_p (nx := 19) hJ dX6_choose_18 rfl rfl ?_
          refine j_c (nx := 20) hJ dX6_choose_19 rfl gk_iconst_4 ?_
          refine j_ic_ge (nx := 23) (tgt := 48) hJ dX6_choose_20 rfl (by decide) (fun c20 => ?_) (fun c20 => ?_)
          · rw [show (4 : Int32) = nI 4 from rfl, gnle (by omega) (by omega)] at c20
            refine j_p (nx := 49) hJ dX6_choose_48 rfl rfl ?_
            refine j_p (nx := 50) hJ dX6_choose_49 rfl rfl ?_
            refine j_get (nx := 53) hJ dX6_choose_50 rfl fX6_206 hP2.1.1 (by rfl) ?_
            rw [hfnd]
            refine j_c (nx := 54) hJ dX6_choose_53 rfl gk_iconst_1 ?_
            refine j_p (nx := 55) hJ dX6_choose_54 rfl rfl ?_
            rw [show nI fnd + 1 = nI (fnd + 1) from (nI_succ _).symm]
            refine j_put (nx := 58) hJ dX6_choose_55 rfl fX6_206 (zX6_23 _) hP2.1.1 (Nat.le_of_ble_eq_true rfl) ?_
            change J 58 _ _ (gup h2 99 (gO (gU M 23 (nI (fnd + 1))) (.ref pa) (.ref ta))) _
            have hP9 := hP2.fld (gU M 23 (nI (fnd + 1))) (.ref pa) (.ref ta)
            exact j_vret hJ dX6_choose_58 ⟨rfl, _, by rw [eS]; show gP _ _ _ _ (gU M 23 (nI (min mst (fnd + 1)))) _ _; rw [Nat.min_eq_right (by omega)]; exact hP9, fun a p1 p2 p3 => (gU_n _ _ p2).trans (gU_n _ _ p3), fun u hu => rfl, by rw [eS]; exact ⟨fun _ _ u hu => hg u (by omega), fun q => q.elim (fun q => absurd h0f q) (fun q => by cases q)⟩⟩
          · rw [show (4 : Int32) = nI 4 from rfl, gnle (by omega) (by omega)] at c20
            have hil : i < 4 := by omega
            refine j_p (nx := 24) hJ dX6_choose_23 rfl rfl ?_
            refine j_get (nx := 27) hJ dX6_choose_24 rfl fX6_206 hP2.1.1 (by rfl) ?_
            rw [hfnd, h0f]
            refine j_if_ne (nx := 30) (tgt := 48) hJ dX6_choose_27 rfl (by decide) (fun c27 => absurd c27 (fun q => q rfl)) (fun c27 => ?_)
            refine j_p (nx := 31) hJ dX6_choose_30 rfl rfl ?_
            refine j_get (nx := 34) hJ dX6_choose_31 rfl fX6_49 hP2.1.1 (by rfl) ?_
            refine j_p (nx := 35) hJ dX6_choose_34 rfl rfl ?_
            refine j_p (nx := 36) hJ dX6_choose_35 rfl rfl ?_
            refine j_get (nx := 39) hJ dX6_choose_36 rfl fX6_46 hP2.1.1 (by rfl) ?_
            refine j_p (nx := 40) hJ dX6_choose_39 rfl rfl ?_
            refine j_iald (j := i) (nx := 41) hJ dX6_choose_40 rfl (show h2 110 = some (gia 4 (A 110)) from hP2.a 110 (by unfold gia'; omega)) rfl hil (by decide) ?_
            rw [(hw i (by omega)).1]
            refine j_iast (j := i) (nx := 42) hJ dX6_choose_41 rfl (show h2 111 = some (gia 4 g) from hP2.a 111 (by unfold gia'; omega)) rfl hil (by decide) ?_
            have hP3 : gP h0 (gup h2 111 (gia 4 (upd g i (nI (w i))))) (gU (gU A 112 f) 111 (upd g i (nI (w i)))) E M (.ref pa) (.ref ta) := (hP2.arr (a := 111) (by unfold gia'; omega) _).uu
            refine j_inc (nx := 45) hJ dX6_choose_42 rfl rfl (gi1 i) rfl ?_
            refine j_go (tgt := 18) hJ dX6_choose_45 (by decide) ?_
            refine ihl hil _ _ hP3 (fun u hu => ?_)
            by_cases e : u = i
            · subst e; simp [upd]
            · simp only [upd]; rw [if_neg e]; exact hg u (by omega)
        refine j_c (nx := 17) hJ dX6_choose_16 rfl gk_iconst_0 ?_
        refine j_p (nx := 18) hJ dX6_choose_17 rfl rfl ?_
        exact loop 0 (Nat.zero_le _) h1 (A 111) (hP1.rw (gU_self _ 111) (fun _ => rfl) (fun _ => rfl)) (fun u hu => by omega)
      · refine j_c (nx := 17) hJ dX6_choose_16 rfl gk_iconst_0 ?_
        refine j_p (nx := 18) hJ dX6_choose_17 rfl rfl ?_
        refine j_p (nx := 19) hJ dX6_choose_18 rfl rfl ?_
        refine j_c (nx := 20) hJ dX6_choose_19 rfl gk_iconst_4 ?_
        refine j_ic_ge (nx := 23) (tgt := 48) hJ dX6_choose_20 rfl (by decide) (fun c20 => absurd c20 (by decide)) (fun c20 => ?_)
        refine j_p (nx := 24) hJ dX6_choose_23 rfl rfl ?_
        refine j_get (nx := 27) hJ dX6_choose_24 rfl fX6_206 hP1.1.1 (by rfl) ?_
        rw [hfnd]
        refine j_if_ne (nx := 30) (tgt := 48) hJ dX6_choose_27 rfl (by decide) (fun c27 => ?_) (fun c27 => absurd c27 (by rw [gz0 (by omega)]; exact h0f))
        refine j_p (nx := 49) hJ dX6_choose_48 rfl rfl ?_
        refine j_p (nx := 50) hJ dX6_choose_49 rfl rfl ?_
        refine j_get (nx := 53) hJ dX6_choose_50 rfl fX6_206 hP1.1.1 (by rfl) ?_
        rw [hfnd]
        refine j_c (nx := 54) hJ dX6_choose_53 rfl gk_iconst_1 ?_
        refine j_p (nx := 55) hJ dX6_choose_54 rfl rfl ?_
        rw [show nI fnd + 1 = nI (fnd + 1) from (nI_succ _).symm]
        refine j_put (nx := 58) hJ dX6_choose_55 rfl fX6_206 (zX6_23 _) hP1.1.1 (Nat.le_of_ble_eq_true rfl) ?_
        change J 58 _ _ (gup h1 99 (gO (gU M 23 (nI (fnd + 1))) (.ref pa) (.ref ta))) _
        have hP9 := hP1.fld (gU M 23 (nI (fnd + 1))) (.ref pa) (.ref ta)
        exact j_vret hJ dX6_choose_58 ⟨rfl, _, by rw [eS]; show gP _ _ _ _ (gU M 23 (nI (min mst (fnd + 1)))) _ _; rw [Nat.min_eq_right (by omega)]; exact hP9, fun a p1 p2 p3 => gU_n _ _ p3, fun u hu => rfl, by rw [eS]; exact ⟨fun q => absurd q h0f, fun _ u hu => rfl⟩⟩
