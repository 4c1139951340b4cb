theorem gnv_vf : ∀ (p : List Int32) (n : Nat), p.foldl (fun n c => match gvo c with | some v => max n (v + 1) | none => n) n = gvf n p
  | [], n => rfl
  | c :: p, n => by
    rw [List.foldl_cons, gvf]
    cases gvo c with
    | none => exact gnv_vf p n
    | some v => exact gnv_vf p _
theorem gca_cn {k V : Nat} (hk : k ≤ 3) (hV : V ≤ 4) : ∀ (s : List Int32) (vu : Nat), gca k V vu s → ∀ v, vu ≤ v → v < gvf vu s → ∃ c ∈ s, gvo c = some v
  | [], vu, _, v, h1, h2 => absurd h2 (by show ¬ v < vu; omega)
  | c :: s, vu, h, v, h1, h2 => by
    rw [gca] at h
    rcases h with ⟨x, hx, rfl, h⟩ | ⟨w, q1, q2, rfl, h⟩
    · rw [gvf_l (by omega)] at h2
      obtain ⟨y, hy, hv⟩ := gca_cn hk hV s vu h v h1 h2
      exact ⟨y, List.mem_cons_of_mem _ hy, hv⟩
    · rw [gvf_v (by omega)] at h2
      by_cases e : v = w
      · exact ⟨nI (10 + w), List.mem_cons_self .., by rw [e]; exact gvo_nI (by omega)⟩
      · obtain ⟨y, hy, hv⟩ := gca_cn hk hV s _ h v (by omega) h2
        exact ⟨y, List.mem_cons_of_mem _ hy, hv⟩
theorem gca_pt {k : Nat} (hk : k ≤ 3) {q : List Int32} (h : gca k 4 0 q) (h1 : 1 ≤ q.length) (h8 : q.length ≤ 8) : gPt k q :=
  ⟨h1, h8, gca_sy hk (by omega) q 0 h, fun v hv => gca_cn hk (by omega) q 0 h v (Nat.zero_le _) (by rw [← gnv_vf]; exact hv), gca0 hk h⟩
theorem gca_vc {k : Nat} (hk : k ≤ 3) {q : List Int32} (h : gca k 4 0 q) : gvc q = gvf 0 q := by
  rw [gvc_nv (fun c hc => (gca_sy hk (by omega) q 0 h c hc).sy hk) (fun v hv => gca_cn hk (by omega) q 0 h v (Nat.zero_le _) (by rw [← gnv_vf]; exact hv))]
  exact gnv_vf q 0
theorem gneg {x : Int32} (h : 0 < x) : ¬ 0 < -x := by
  rw [Int32.lt_iff_toInt_lt, Int32.toInt_zero] at h ⊢
  have h1 := Int32.toInt_lt x
  rw [Int32.toInt_neg, Int.bmod_eq_of_le] <;> (try simp) <;> omega
theorem gneg0 {v : Int32} (h : -v = 0) : v = 0 := by
  have h1 : (-v).toInt = 0 := by rw [h]; rfl
  rw [Int32.toInt_neg] at h1
  have h2 := Int32.toInt_lt v
  have h3 := Int32.le_toInt v
  refine Int32.toInt_inj.mp ?_
  rw [Int32.toInt_zero]
  unfold Int.bmod at h1
  dsimp only at h1
  split at h1 <;> omega
theorem glx_neg : ∀ (a b : List Int32) (v : Int32), a.length = b.length → glx b a (-v) = - glx a b v
  | [], [], v, _ => by simp [glx]
  | [], _ :: _, _, h => by cases h
  | _ :: _, [], _, h => by cases h
  | x :: a, y :: b, v, h => by
    rw [glx, glx]
    by_cases e : v = 0
    · subst e
      rw [if_pos rfl, if_pos (by decide), ← glx_neg a b (y - x) (by simpa using h)]
      congr 1
      exact (Int32.neg_sub).symm
    · rw [if_neg e, if_neg (fun q => e (gneg0 q))]
theorem gbet_neg {a b : List Int32} (h : a.length = b.length) : gbet b a = - gbet a b := by
  unfold gbet
  have e1 : gltr b - gltr a = -(gltr a - gltr b) := (Int32.neg_sub).symm
  by_cases e : gltr a - gltr b = 0
  · rw [if_pos e, if_pos (by rw [e1, e]; decide), ← glx_neg a b _ h]
    congr 1
    exact (Int32.neg_sub).symm
  · rw [if_neg e, if_neg (fun q => e (gneg0 (by rw [← e1]; exact q))), e1]
theorem gbet_asym {a b : List Int32} (h : a.length = b.length) (hb : 0 < gbet a b) : ¬ 0 < gbet b a := by
  rw [gbet_neg h]; exact gneg hb
theorem gsubI {a b : Nat} (h : b < a) (ha : a ≤ 1000) : (0 : Int32) < nI a - nI b ∧ ¬ nI a - nI b = 0 := by
  rw [gsub (by omega), show (0 : Int32) = nI 0 from rfl, gnlt (by omega) (by omega), gneq (by omega) (by omega)]; omega
theorem glx_fst {a b : List Int32} (h : gfst a b) : 0 < glx a b 0 := by
  obtain ⟨u, x, y, s, s', rfl, rfl, hxy, hy⟩ := h
  induction u with
  | nil =>
    rw [List.nil_append, List.nil_append, glx, if_pos rfl, glx_nz (gsubI hxy (by omega)).2]
    exact (gsubI hxy (by omega)).1
  | cons z u ih =>
    rw [List.cons_append, List.cons_append, glx, if_pos rfl, show z - z = 0 from Int32.sub_self _]
    exact ih
theorem gbet_pos {k : Nat} (hk : k ≤ 3) {a b : List Int32} (ha : gca k 4 0 a) (hb : gca k 4 0 b) (h8 : a.length ≤ 8) (hl : a.length = b.length) (h : glc b < glc a ∨ (glc a = glc b ∧ (gvf 0 a < gvf 0 b ∨ (gvf 0 a = gvf 0 b ∧ gfst a b)))) : 0 < gbet a b := by
  have e1 : ∀ l : List Int32, gltr l = nI (glc l) := gltr_nat
  have ha' := gvf_le hk (by omega) a 0 ha
  have hb' := gvf_le hk (by omega) b 0 hb
  unfold gbet
  rw [e1, e1, gca_vc hk ha, gca_vc hk hb]
  rcases h with h | ⟨hh, h | ⟨h1, h2⟩⟩
  · rw [if_neg (gsubI h (by omega)).2]
    exact (gsubI h (by omega)).1
  · rw [if_pos (by rw [hh]; exact Int32.sub_self _), glx_nz (gsubI h (by omega)).2]
    exact (gsubI h (by omega)).1
  · rw [if_pos (by rw [hh]; exact Int32.sub_self _), h1, show nI (gvf 0 b) - nI (gvf 0 b) = 0 from Int32.sub_self _]
    exact glx_fst h2
theorem gX_facts {k V : Nat} (hk : k ≤ 3) (hV : V ≤ 4) {n ll : Nat} (h1 : ll ≤ n) (h3 : V ≤ n - ll) (h4 : 0 < n - ll → 1 ≤ V) {q : List Int32} (hq : q ∈ gX k V n [] ll 0) : q.length = n ∧ gca k 4 0 q ∧ glc q = ll ∧ gvf 0 q = V := by
  obtain ⟨s, rfl, hs, a, b, d⟩ := (gX_mem hk hV n [] ll 0 h1 (by omega) (by omega) h4 q).mp hq
  exact ⟨hs, a, b, d⟩
theorem gpw_imp {α : Type} {P Q : α → α → Prop} {l : List α} (h : l.Pairwise P) (hi : ∀ a ∈ l, ∀ b ∈ l, P a b → Q a b) : l.Pairwise Q := by
  induction h with
  | nil => exact List.Pairwise.nil
  | cons h1 h2 ih => exact List.Pairwise.cons (fun b hb => hi _ (List.mem_cons_self ..) b (List.mem_cons_of_mem _ hb) (h1 b hb)) (ih (fun a ha b hb => hi a (List.mem_cons_of_mem _ ha) b (List.mem_cons_of_mem _ hb)))
theorem gX_bet {k V : Nat} (hk : k ≤ 3) (hV : V ≤ 4) {n ll : Nat} (hn : n ≤ 8) (h1 : ll ≤ n) (h3 : V ≤ n - ll) (h4 : 0 < n - ll → 1 ≤ V) : (gX k V n [] ll 0).Pairwise (fun a b => 0 < gbet a b) :=
  gpw_imp (gX_srt hk hV n [] ll 0 (Nat.zero_le _) h4) (fun a ha b hb hf => by
    obtain ⟨a1, a2, a3, a4⟩ := gX_facts hk hV h1 h3 h4 ha
    obtain ⟨b1, b2, b3, b4⟩ := gX_facts hk hV h1 h3 h4 hb
    exact gbet_pos hk a2 b2 (by omega) (by omega) (Or.inr ⟨by omega, Or.inr ⟨by omega, hf⟩⟩))
theorem gAll_srt {k n : Nat} (hk : k ≤ 3) (hn : n ≤ 8) : (gAll k n).Pairwise (fun a b => 0 < gbet a b) := by
  refine gpw_fl _ _ (fun j hj => gpw_fl _ _ (fun i hi => gX_bet hk (by omega) hn (by omega) (by omega) (by omega)) (fun i i' hii hi a ha b hb => ?_)) (fun j j' hjj hj a ha b hb => ?_)
  · obtain ⟨a1, a2, a3, a4⟩ := gX_facts hk (by omega) (by omega) (by omega) (by omega) ha
    obtain ⟨b1, b2, b3, b4⟩ := gX_facts hk (by omega) (by omega) (by omega) (by omega) hb
    exact gbet_pos hk a2 b2 (by omega) (by omega) (Or.inr ⟨by omega, Or.inl (by omega)⟩)
  · obtain ⟨i, hi, ha⟩ := List.mem_flatMap.mp ha
    obtain ⟨i', hi', hb⟩ := List.mem_flatMap.mp hb
    rw [List.mem_range] at hi hi'
    obtain ⟨a1, a2, a3, a4⟩ := gX_facts hk (by omega) (by omega) (by omega) (by omega) ha
    obtain ⟨b1, b2, b3, b4⟩ := gX_facts hk (by omega) (by omega) (by omega) (by omega) hb
    exact gbet_pos hk a2 b2 (by omega) (by omega) (Or.inl (by omega))
theorem gOne_srt {k n : Nat} (hk : k ≤ 3) (hn : n ≤ 8) : (gOne k n).Pairwise (fun a b => 0 < gbet a b) := by
  refine gpw_fl _ _ (fun i hi => gX_bet hk (by omega) hn (by omega) (by omega) (by omega)) (fun i i' hii hi a ha b hb => ?_)
  obtain ⟨a1, a2, a3, a4⟩ := gX_facts hk (by omega) (by omega) (by omega) (by omega) ha
  obtain ⟨b1, b2, b3, b4⟩ := gX_facts hk (by omega) (by omega) (by omega) (by omega) hb
  exact gbet_pos hk a2 b2 (by omega) (by omega) (Or.inl (by omega))
def gbb (q : List Int32) (b : Option (List Int32)) : Bool := match b with | none => true | some l => decide (0 < gbet q l)
/-- the reference's step at a candidate -/
def gstp (W : Nat → List Int32) (ss : Nat) (md : Int32) (mv : Nat) (b : Option (List Int32)) (q : List Int32) : Option (List Int32) :=
  if decide (1 < mv ∨ gvf 0 q = 1) = true ∧ gbb q b = true ∧ gfit W ss md q = true then some q else b
theorem gfold_some {W : Nat → List Int32} {ss : Nat} {md : Int32} {mv n : Nat} {f : List Int32} (hfl : f.length = n) (hc : 1 < mv ∨ gvf 0 f = 1) (hfit : gfit W ss md f = true) : ∀ (l : List (List Int32)) (b : Option (List Int32)), (∀ q ∈ l, q.length = n ∧ ((1 < mv ∨ gvf 0 q = 1) → gfit W ss md q = true → q ≠ f → 0 < gbet f q)) → (∀ q, b = some q → q ≠ f → 0 < gbet f q) → (f ∈ l ∨ b = some f) → l.foldl (gstp W ss md mv) b = some f
  | [], b, _, _, h => by
    rcases h with h | h
    · cases h
    · exact h
  | q :: l, b, h1, h2, h3 => by
    rw [List.foldl_cons]
    have hq := h1 q (List.mem_cons_self ..)
    refine gfold_some hfl hc hfit l _ (fun x hx => h1 x (List.mem_cons_of_mem _ hx)) (fun x hx hne => ?_) ?_
    · unfold gstp at hx
      split at hx
      · next z => cases hx; exact hq.2 (of_decide_eq_true z.1) z.2.2 hne
      · exact h2 x hx hne
    · by_cases e : q = f
      · right
        subst e
        unfold gstp
        cases hb : b with
        | none => rw [if_pos ⟨decide_eq_true hc, rfl, hfit⟩]
        | some l' =>
          by_cases e2 : l' = q
          · subst e2; split <;> rfl
          · rw [if_pos ⟨decide_eq_true hc, decide_eq_true (h2 l' hb e2), hfit⟩]
      · rcases h3 with h3 | h3
        · rcases List.mem_cons.mp h3 with h3 | h3
          · exact absurd h3.symm e
          · exact Or.inl h3
        · right
          unfold gstp
          rw [h3, if_neg]
          rintro ⟨z1, z2, z3⟩
          exact gbet_asym (by omega) (hq.2 (of_decide_eq_true z1) z3 e) (of_decide_eq_true z2)
theorem gfold_none {W : Nat → List Int32} {ss : Nat} {md : Int32} {mv : Nat} : ∀ (l : List (List Int32)), (∀ q ∈ l, (1 < mv ∨ gvf 0 q = 1) → ¬ gfit W ss md q = true) → l.foldl (gstp W ss md mv) none = none
  | [], _ => rfl
  | q :: l, h => by
    rw [List.foldl_cons, show gstp W ss md mv none q = none from if_neg (fun z => h q (List.mem_cons_self ..) (of_decide_eq_true z.1) z.2.2)]
    exact gfold_none l (fun x hx => h x (List.mem_cons_of_mem _ hx))
theorem gfold_find {W : Nat → List Int32} {ss : Nat} {md : Int32} {mv n : Nat} {l l' : List (List Int32)} (hs : l.Pairwise (fun a b => 0 < gbet a b)) (hl : ∀ q, q ∈ l ↔ q ∈ l' ∧ (1 < mv ∨ gvf 0 q = 1)) (hn : ∀ q ∈ l', q.length = n) : l'.foldl (gstp W ss md mv) none = l.find? (gfit W ss md) := by
  cases hf : l.find? (gfit W ss md) with
  | none => exact gfold_none l' (fun q hq hc => List.find?_eq_none.mp hf q ((hl q).mpr ⟨hq, hc⟩))
  | some f =>
    obtain ⟨hfit, as, bs, rfl, has⟩ := List.find?_eq_some_iff_append.mp hf
    have hfm := (hl f).mp (List.mem_append_right _ (List.mem_cons_self ..))
    refine gfold_some (hn f hfm.1) hfm.2 hfit l' none (fun q hq => ⟨hn q hq, fun hc hq2 hne => ?_⟩) (fun q h => by cases h) (Or.inl hfm.1)
    rcases List.mem_append.mp ((hl q).mpr ⟨hq, hc⟩) with h | h
    · have := has q h; rw [hq2] at this; cases this
    · rcases List.mem_cons.mp h with h | h
      · exact absurd h hne
      · exact (List.pairwise_cons.mp (List.pairwise_append.mp hs).2.1).1 q h
theorem gFB_fold {W : Nat → List Int32} {ss : Nat} {md : Int32} {k n : Nat} (hk : k ≤ 3) (hn : n ≤ 8) (hW : ∀ i, i < ss → (W i).length ≤ 8) : (gY k 4 n [] 0).foldl (gstp W ss md 4) none = gFB W ss md k n := by
  rw [gFB_find hk hW]
  refine gfold_find (n := n) (gAll_srt hk hn) (fun q => ?_) (fun q hq => ?_)
  · rw [gAll_mem hk, gY_mem]
    constructor
    · rintro ⟨h1, h2⟩; exact ⟨⟨q, rfl, h1, h2⟩, Or.inl (by omega)⟩
    · rintro ⟨⟨s, rfl, h1, h2⟩, -⟩; exact ⟨h1, h2⟩
  · obtain ⟨s, rfl, h1, h2⟩ := (gY_mem _ _ _ q).mp hq; exact h1
theorem gOne_fold {W : Nat → List Int32} {ss : Nat} {k n : Nat} (hk : k ≤ 3) (hn : n ≤ 8) : (gY k 1 n [] 0).foldl (gstp W ss 0 1) none = (gOne k n).find? (gfit W ss 0) := by
  refine gfold_find (n := n) (gOne_srt hk hn) (fun q => ?_) (fun q hq => ?_)
  · rw [gOne_mem hk, gY_mem]
    constructor
    · rintro ⟨h1, h2, h3⟩; exact ⟨⟨q, rfl, h1, gca_mono hk (by omega) q 0 h2 (by omega)⟩, Or.inr h3⟩
    · rintro ⟨⟨s, rfl, h1, h2⟩, h3⟩
      have h3 : gvf 0 q = 1 := by
        rcases h3 with h3 | h3
        · omega
        · exact h3
      exact ⟨h1, gca_mono hk (by omega) q 0 h2 (by omega), h3⟩
  · obtain ⟨s, rfl, h1, h2⟩ := (gY_mem _ _ _ q).mp hq; exact h1
theorem gFB_pt {W : Nat → List Int32} {ss : Nat} {md : Int32} {k n : Nat} (hk : k ≤ 3) (h1 : 1 ≤ n) (hn : n ≤ 8) (hW : ∀ i, i < ss → (W i).length ≤ 8) {f : List Int32} (h : gFB W ss md k n = some f) : gPt k f ∧ f.length = n := by
  rw [gFB_find hk hW] at h
  have := (gAll_mem hk f).mp (List.mem_of_find?_eq_some h)
  exact ⟨gca_pt hk this.2 (by omega) (by omega), this.1⟩
theorem gOne_pt {W : Nat → List Int32} {ss : Nat} {k n : Nat} (hk : k ≤ 3) (h1 : 1 ≤ n) (hn : n ≤ 8) {f : List Int32} (h : (gOne k n).find? (gfit W ss 0) = some f) : gPt k f ∧ f.length = n := by
  have := (gOne_mem hk f).mp (List.mem_of_find?_eq_some h)
  exact ⟨gca_pt hk this.2.1 (by omega) (by omega), this.1⟩
