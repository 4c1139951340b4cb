/-! ===== all rules; soundness ===== -/
theorem gent_at {base : Nat} {sp : Nat → Nat} (k k' : Nat) : ∀ (vs : List Value) (i : Nat) (v : Value), ((vs.flatMap fun v => if v.category = 2 then [some v, none] else [some v]) ++ List.replicate k none)[i]? = some (some v) → (lg_sl (vs.map (gmv base sp)) ++ List.replicate k' Slot.unset)[i]? = some (.val (gmv base sp v)) := by
  intro vs
  induction vs with
  | nil =>
    intro i v h
    simp only [List.flatMap_nil, List.nil_append] at h
    have := List.eq_of_mem_replicate (List.mem_of_getElem? h)
    cases this
  | cons w r ih =>
    intro i v h
    by_cases hc : w.category = 2
    · have e1 : lg_sl ((w :: r).map (gmv base sp)) = [.val (gmv base sp w), .second] ++ lg_sl (r.map (gmv base sp)) := by simp [lg_sl, gmv_cat, hc]
      rw [e1]
      simp only [List.flatMap_cons, hc, if_true, List.cons_append, List.nil_append] at h ⊢
      match i, h with
      | 0, h => simp only [List.getElem?_cons_zero, Option.some.injEq] at h ⊢; rw [h]
      | 1, h => simp at h
      | i + 2, h => simp only [List.getElem?_cons_succ] at h ⊢; exact ih i v h
    · have e1 : lg_sl ((w :: r).map (gmv base sp)) = [.val (gmv base sp w)] ++ lg_sl (r.map (gmv base sp)) := by simp [lg_sl, gmv_cat, hc]
      rw [e1]
      simp only [List.flatMap_cons, hc, if_false, List.cons_append, List.nil_append] at h ⊢
      match i, h with
      | 0, h => simp only [List.getElem?_cons_zero, Option.some.injEq] at h ⊢; rw [h]
      | i + 1, h => simp only [List.getElem?_cons_succ] at h ⊢; exact ih i v h
theorem glg_len (base : Nat) (sp : Nat → Nat) (vs : List Value) : (lg_sl (vs.map (gmv base sp))).length = (lg_sl vs).length ∧ (vs.flatMap fun v => if v.category = 2 then [some v, none] else [some v]).length = (lg_sl vs).length := by
  induction vs with
  | nil => exact ⟨rfl, rfl⟩
  | cons w r ih =>
    by_cases hc : w.category = 2
    · simp only [lg_sl, List.map_cons, List.flatMap_cons, gmv_cat, hc, if_true, List.length_append] at ih ⊢
      exact ⟨by rw [ih.1]; rfl, by rw [ih.2]; rfl⟩
    · simp only [lg_sl, List.map_cons, List.flatMap_cons, gmv_cat, hc, if_false, List.length_append] at ih ⊢
      exact ⟨by rw [ih.1]; rfl, by rw [ih.2]; rfl⟩
theorem gLr_entry {base : Nat} {sp : Nat → Nat} {vs : List Value} {n : Nat} (h : (lg_sl vs).length ≤ n) : gLr base sp n (gent vs n) ((lg_sl (vs.map (gmv base sp)) ++ List.replicate (n - (lg_sl (vs.map (gmv base sp))).length) Slot.unset).toArray) := by
  obtain ⟨l1, l2⟩ := glg_len base sp vs
  have hh := lv_entry (vs.map (gmv base sp)) (n := n) (by rw [l1]; exact h)
  refine ⟨?_, hh.1, hh.2.1, fun i v hv => ?_⟩
  · unfold gent
    rw [List.length_append, l2, List.length_replicate]
    omega
  · unfold gent at hv
    rw [List.getElem?_toArray]
    exact gent_at _ _ vs i v hv
theorem gt_aI : Cond.arrayClass .int ∈ lw_tbl := tb_at 101 (by decide +kernel)
theorem gt_aL : Cond.arrayClass .long ∈ lw_tbl := tb_at 847 (by decide +kernel)
theorem gt_o1 : Cond.instanceMethod objectInit ∈ lw_tbl := tb_at 69 (by decide +kernel)
theorem gt_o2 : Cond.code objectInit ⟨#[0xb1]⟩ 1 none ∈ lw_tbl := tb_at 70 (by decide +kernel)
theorem gt_c1 : Cond.native arraycopyName ∈ lw_tbl := tb_at 689 (by decide +kernel)
theorem gt_c2 : Cond.static arraycopyName ∈ lw_tbl := tb_at 688 (by decide +kernel)
theorem gt_c3 : Cond.initialized "java/lang/System" ∈ lw_tbl := tb_at 57 (by decide +kernel)
theorem gt_m1 : Cond.static Lib.Math.max.name ∈ lw_tbl := tb_at 88 (by decide +kernel)
theorem gt_m2 : Cond.code Lib.Math.max.name Lib.Math.max.code 2 (some .int) ∈ lw_tbl := tb_at 89 (by decide +kernel)
theorem gt_m3 : Cond.static Lib.Math.min.name ∈ lw_tbl := tb_at 314 (by decide +kernel)
theorem gt_m4 : Cond.code Lib.Math.min.name Lib.Math.min.code 2 (some .int) ∈ lw_tbl := tb_at 315 (by decide +kernel)
theorem gt_m5 : Cond.initialized "java/lang/Math" ∈ lw_tbl := tb_at 52 (by decide +kernel)
section GRX
variable {base : Nat} {sp : Nat → Nat} {D : va_G} {cI cL : ClassId} {cQ : Nat → ClassId}
variable {p : Program} {l : Launch} {e : Env} {R : Room} {s : State} {m : MethodId} {args : Array Value} {below : List Frame} {meth : Method} {c : Code} {Q : State → Prop}
variable {own : String} {cc : ByteArray} {ret : Option FieldType} {ini : Bool} {call : CT} {P : RT} {nL : Nat}
theorem gs_45 (X : gCx base sp D cI cL cQ p s m args meth c own cc ini nL) (hfr : 1 ≤ R.frames) (hlo : 60 ≤ R.locals) : gRule own cc ret ini call (gJW base sp D cI cL cQ p l e R s m args below meth c nL Q) P 45 := by
  intro pc idx nx x y ls st h ge hd hn hw hcat hJ H locs cells slots arr ws hH hS hL hc hs
  subst hn
  obtain ⟨hx, hb, hml, hown, hts, hE, hbase, -⟩ := X
  exact va_mmax hx hb (hml.trans hL.2.1.symm) hown (hts _ (gT_mem hw rfl)) (hts _ (gT_mem gt_m1 rfl)) (hts _ (gT_mem gt_m5 rfl)) (hts _ (gT_mem gt_m2 rfl)) hfr (by rw [gcat_map]; omega) (by omega) (by omega) hd (hJ H locs cells slots arr ws hH hS hL hc hs)
theorem gs_46 (X : gCx base sp D cI cL cQ p s m args meth c own cc ini nL) (hfr : 1 ≤ R.frames) (hlo : 60 ≤ R.locals) : gRule own cc ret ini call (gJW base sp D cI cL cQ p l e R s m args below meth c nL Q) P 46 := by
  intro pc idx nx x y ls st h ge hd hn hw hcat hJ H locs cells slots arr ws hH hS hL hc hs
  subst hn
  obtain ⟨hx, hb, hml, hown, hts, hE, hbase, -⟩ := X
  exact va_mmin hx hb (hml.trans hL.2.1.symm) hown (hts _ (gT_mem hw rfl)) (hts _ (gT_mem gt_m3 rfl)) (hts _ (gT_mem gt_m5 rfl)) (hts _ (gT_mem gt_m4 rfl)) hfr (by rw [gcat_map]; omega) (by omega) (by omega) hd (hJ H locs cells slots arr ws hH hS hL hc hs)
theorem gs_48 : gRule own cc ret ini call (gJW base sp D cI cL cQ p l e R s m args below meth c nL Q) P 48 := by
  intro pc n bc bs fl ls st h hJ H locs cells slots arr ws hH hS hL hc hs
  refine hJ H locs cells slots arr ws ⟨hH.1, hH.2.1, hH.2.2.1, Or.inl rfl, hH.2.2.2.2⟩ hS hL ?_ ?_
  · show cells + 0 ≤ R.cells
    have : cells + bc ≤ R.cells := hc
    omega
  · show slots + 0 ≤ R.slots
    have : slots + bs ≤ R.slots := hs
    omega
theorem gs_47 (X : gCx base sp D cI cL cQ p s m args meth c own cc ini nL) : gRule own cc ret ini call (gJW base sp D cI cL cQ p l e R s m args below meth c nL Q) P 47 := by
  intro pc a t n f g ls st h ge ha hfg hJ H locs cells slots arr ws hH hS hL hc hs
  obtain ⟨-, k, hk⟩ := hH.1 a _ ha
  refine hJ H locs cells slots arr _ (gHd.put (c1 := gra t n g) hH ha hk (hH.2.1.set hH.2.2.1 hk ?_ (fun q _ => rfl)) (hH.2.2.1.set hk) rfl) hS hL hc hs
  have h1 : H[grho base sp a]? = some (arrV (cQ t) n (fun j => va_rf ((f j).map (grho base sp)))) := hH.2.1 k _ hk
  show H[grho base sp a]? = some (arrV (cQ t) n (fun j => va_rf ((g j).map (grho base sp))))
  have hfn : (fun j : Fin n => va_rf ((f j.val).map (grho base sp))) = fun j : Fin n => va_rf ((g j.val).map (grho base sp)) := funext (fun j => by rw [hfg j.val j.isLt])
  have he : arrV (cQ t) n (fun j => va_rf ((f j).map (grho base sp))) = arrV (cQ t) n (fun j => va_rf ((g j).map (grho base sp))) := congrArg (fun F : Fin n → Value => ({ cls := cQ t, slots := Array.ofFn F, vm := .none } : Cell)) hfn
  rw [h1, he]
theorem gCl_of {d : Nat} (X : gCx base sp D cI cL cQ p s m args meth c own cc ini nL) (hfr : d + 1 ≤ R.frames) (hlo : 60 * (d + 1) ≤ R.locals) (hcall : ∀ y vs h ge P, call y vs h ge P → gMet base sp D cI cL cQ l d y vs h ge P)
    (h36 : gRule own cc ret ini call (gJW base sp D cI cL cQ p l e R s m args below meth c nL Q) P 36) (h37 : gRule own cc ret ini call (gJW base sp D cI cL cQ p l e R s m args below meth c nL Q) P 37) (h38 : gRule own cc ret ini call (gJW base sp D cI cL cQ p l e R s m args below meth c nL Q) P 38) :
    gCl own cc ret ini call (gJW base sp D cI cL cQ p l e R s m args below meth c nL Q) P := by
  intro k
  match k with
  | 0 => exact gs_0 X
  | 1 => exact gs_1 X
  | 2 => exact gs_2 X
  | 3 => exact gs_3 X
  | 4 => exact gs_4 X
  | 5 => exact gs_5 X
  | 6 => exact gs_6 X
  | 7 => exact gs_7 X
  | 8 => exact gs_8 X
  | 9 => exact gs_9 X
  | 10 => exact gs_10 X
  | 11 => exact gs_11 X
  | 12 => exact gs_12 X
  | 13 => exact gs_13 X
  | 14 => exact gs_14 X
  | 15 => exact gs_15 X
  | 16 => exact gs_16 X
  | 17 => exact gs_17 X
  | 18 => exact gs_18 X
  | 19 => exact gs_19 X
  | 20 => exact gs_20 X
  | 21 => exact gs_21 X
  | 22 => exact gs_22 X
  | 23 => exact gs_23 X
  | 24 => exact gs_24 X
  | 25 => exact gs_25 X gt_aI
  | 26 => exact gs_26 X gt_aL
  | 27 => exact gs_27 X
  | 28 => exact gs_28 X hfr hlo hcall
  | 29 => exact gs_29 X hfr hlo hcall
  | 30 => exact gs_30 X hfr hlo hcall
  | 31 => exact gs_31 X hfr hlo hcall
  | 32 => exact gs_32 X hfr hlo hcall
  | 33 => exact gs_33 X hfr hlo hcall
  | 34 => exact gs_34 X (by omega) (by omega) gt_o1 gt_o2
  | 35 => exact gs_35 X (by omega) (by omega) gt_c1 gt_c2 gt_c3
  | 36 => exact h36
  | 37 => exact h37
  | 38 => exact h38
  | 39 => exact gs_39 X
  | 40 => exact gs_40 X
  | 41 => exact gs_41 X
  | 42 => exact gs_42 X
  | 43 => exact gs_43 X
  | 44 => exact gs_44 X
  | 45 => exact gs_45 X (by omega) (by omega)
  | 46 => exact gs_46 X (by omega) (by omega)
  | 47 => exact gs_47 X
  | 48 => exact gs_48
  | _ + 49 => exact trivial
theorem gs_36 (X : gCx base sp D cI cL cQ p s m args meth c own cc ini nL) (hr : meth.sig.returnType = ret) : gRule own cc ret ini call (gJW base sp D cI cL cQ p l e R s m args below meth c nL (MQ below (gQc base sp D cI cL cQ P) args s R.cells R.slots (gA base))) P 36 := by
  intro pc v ls h ge hd hty hP H locs cells slots arr ws hH hS hL hc hs
  obtain ⟨hx, hb, hml, hown, hts, hE, hbase, hin, hlocks⟩ := X
  obtain ⟨ty, hret, hnar⟩ := hty
  refine W.widen (k := R.cells) (n := R.slots) (by omega) (by omega) ?_
  exact W.zret hx hb (hr.trans hret) hnar (fun t ht hW => ⟨⟨some (.int v), h, ge, rfl, hP, ws, by rw [ht]; exact hH⟩, hS.F ht⟩) hS.2.2 hd hlocks
theorem gs_37 (X : gCx base sp D cI cL cQ p s m args meth c own cc ini nL) (hr : meth.sig.returnType = ret) : gRule own cc ret ini call (gJW base sp D cI cL cQ p l e R s m args below meth c nL (MQ below (gQc base sp D cI cL cQ P) args s R.cells R.slots (gA base))) P 37 := by
  intro pc v ls h ge hd hret hP H locs cells slots arr ws hH hS hL hc hs
  obtain ⟨hx, hb, hml, hown, hts, hE, hbase, hin, hlocks⟩ := X
  refine W.widen (k := R.cells) (n := R.slots) (by omega) (by omega) ?_
  exact W.lret hx hb (hr.trans hret) (fun t ht hW => ⟨⟨some (.long v), h, ge, rfl, hP, ws, by rw [ht]; exact hH⟩, hS.F ht⟩) hS.2.2 hd hlocks
theorem gs_38 (X : gCx base sp D cI cL cQ p s m args meth c own cc ini nL) (hr : meth.sig.returnType = ret) : gRule own cc ret ini call (gJW base sp D cI cL cQ p l e R s m args below meth c nL (MQ below (gQc base sp D cI cL cQ P) args s R.cells R.slots (gA base))) P 38 := by
  intro pc ls h ge hd hret hP H locs cells slots arr ws hH hS hL hc hs
  obtain ⟨hx, hb, hml, hown, hts, hE, hbase, hin, hlocks⟩ := X
  refine W.widen (k := R.cells) (n := R.slots) (by omega) (by omega) ?_
  exact W.vret hx hb (hr.trans hret) (fun t ht hW => ⟨⟨none, h, ge, rfl, hP, ws, by rw [ht]; exact hH⟩, hS.F ht⟩) hS.2.2 hd hlocks
/-- every run of the small machine is one of the real -/
theorem g_sound (l : Launch) : ∀ (d : Nat) (y : MethodName) (vs : List Value) (h : GH) (ge : GE) (P : RT), gRuns d y vs h ge P → gMet base sp D cI cL cQ l d y vs h ge P := by
  intro d
  induction d with
  | zero => intro y vs h ge P hR; exact hR.elim
  | succ d ih =>
    intro y vs h ge P hR
    obtain ⟨cc, maxL, ret, hM, hfit, hJ⟩ := hR
    refine ⟨cc, maxL, ret, hM, Met.ofW (cc := cc) (maxL := maxL) (ret := ret) hM.2.2.1 rfl ?_⟩
    intro p e s m args below meth c s₁ B hml hv
    obtain ⟨rfl, hbase, ⟨ws, hH⟩, hE⟩ := hv
    have hts : ∀ w ∈ gTs, w.before (vs.map (gmv base sp)).toArray s = true := fun w hw => atoms_spec (ws := Cond.code y cc maxL ret :: gTs) B.pre w (List.mem_cons_of_mem _ hw)
    have X : gCx base sp D cI cL cQ p s m (vs.map (gmv base sp)).toArray meth c y.cls cc (y.name == "<init>") maxL := ⟨B.exec, B.bytes, hml, findClass_of_methodNamed B.named, hts, hE, hbase, fun q => (name_of_methodNamed B.named B.method).1.trans (by simpa using q), B.notSynchronized⟩
    have K := hJ _ (gCl_of (l := l) (e := e) (R := grm (d + 1) ge) (below := below) (Q := MQ below (gQc base sp D cI cL cQ P) (vs.map (gmv base sp)).toArray s ge.2.1 ge.2.2.1 (gA base)) X (Nat.le_refl _) (Nat.le_refl _) ih (gs_36 X B.returns) (gs_37 X B.returns) (gs_38 X B.returns))
    rw [lg_entry_eq]
    exact K s.heap [] 0 0 _ ws hH va_S.rf (gLr_entry hfit) (by show 0 + ge.2.1 ≤ ge.2.1; omega) (by show 0 + ge.2.2.1 ≤ ge.2.2.1; omega)
end GRX
