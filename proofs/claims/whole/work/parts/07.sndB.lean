/-! ===== the rules hold of the real machine ===== -/
def gCx (base : Nat) (sp : Nat → Nat) (D : va_G) (cI cL : ClassId) (cQ : Nat → ClassId) (p : Program) (s : State) (m : MethodId) (args : Array Value) (meth : Method) (c : Code) (own : String) (cc : ByteArray) (ini : Bool) (nL : Nat) : Prop :=
  p.tables.exec = Jvm.exec ∧ c.code = cc ∧ c.maxLocals = nL ∧ s.vm.findClass own = some m.cls ∧ (∀ w ∈ gTs, w.before args s = true) ∧ gEnv base sp D cI cL cQ s ∧ base ≤ s.heap.size ∧ (ini = true → meth.name = "<init>") ∧ meth.locks = false
def gJW (base : Nat) (sp : Nat → Nat) (D : va_G) (cI cL : ClassId) (cQ : Nat → ClassId) (p : Program) (l : Launch) (e : Env) (R : Room) (s : State) (m : MethodId) (args : Array Value) (below : List Frame) (meth : Method) (c : Code) (nL : Nat) (Q : State → Prop) : JT := fun pc ls st h ge =>
  ∀ (H : Heap) (locs : List Loc) (cells slots : Nat) (arr : Array Slot) (ws : va_W), gHd base sp D cI cL cQ h ge H ws → va_S (gA base) s.heap H locs → gLr base sp nL ls arr → cells + ge.2.1 ≤ R.cells → slots + ge.2.2.1 ≤ R.slots →
    W p l e R s m args below meth c H locs cells slots Q (F0 m pc arr (st.map (gmv base sp)))
theorem gu_good (C : String) (T : u_T) (N : Nat) : ∀ w ∈ u_ws C T N, goodWord w = true := by
  intro w hw
  obtain ⟨k, -, rfl⟩ := List.mem_map.mp hw
  unfold u_lay
  split <;> rfl
theorem gcl_all {t : Nat} {C : String} {T : u_T} {N : Nat} (h : vwCl[t]? = some (C, T, N)) : (∀ w ∈ u_ws C T N, w ∈ gTs) ∧ ∃ ty : Nat → FieldType, (∀ k, k < N → parseFieldDescriptor (T k).2.2.1 = some (ty k)) ∧ ∀ a, a < N → ∀ b, b < N → a ≠ b → (T a).2.1 ≠ (T b).2.1 := by
  have key : (∀ w ∈ u_ws C T N, w ∈ lw_tbl) ∧ ∃ ty : Nat → FieldType, (∀ k, k < N → parseFieldDescriptor (T k).2.2.1 = some (ty k)) ∧ ∀ a, a < N → ∀ b, b < N → a ≠ b → (T a).2.1 ≠ (T b).2.1 := by
    match t, h with
    | 0, h => cases h; exact ⟨inX0, tyX0, tyX0_ok, nmX0⟩
    | 1, h => cases h; exact ⟨inX1, tyX1, tyX1_ok, nmX1⟩
    | 2, h => cases h; exact ⟨inX2, tyX2, tyX2_ok, nmX2⟩
    | 3, h => cases h; exact ⟨inX3, tyX3, tyX3_ok, nmX3⟩
    | 4, h => cases h; exact ⟨inX4, tyX4, tyX4_ok, nmX4⟩
    | 5, h => cases h; exact ⟨inX5, tyX5, tyX5_ok, nmX5⟩
    | 6, h => cases h; exact ⟨inX6, tyX6, tyX6_ok, nmX6⟩
    | t + 7, h => simp [vwCl] at h
  exact ⟨fun w hw => gT_mem (key.1 w hw) (gu_good C T N w hw), key.2⟩
section GRU
variable {base : Nat} {sp : Nat → Nat} {D : va_G} {cI cL : ClassId} {cQ : Nat → ClassId}
variable {p : Program} {l : Launch} {e : Env} {R : Room} {s : State} {m : MethodId} {args : Array Value} {below : List Frame} {meth : Method} {c : Code} {Q : State → Prop}
variable {own : String} {cc : ByteArray} {ret : Option FieldType} {ini : Bool} {call : CT} {P : RT} {nL : Nat}
set_option maxHeartbeats 4000000 in
theorem gs_0 (X : gCx base sp D cI cL cQ p s m args meth c own cc ini nL) : gRule own cc ret ini call (gJW base sp D cI cL cQ p l e R s m args below meth c nL Q) P 0 := by
  intro pc i nx ls st ls' st' h ge hd hn hp hJ H locs cells slots arr ws hH hS hL hc hs
  obtain ⟨hx, hb, -⟩ := X
  subst hn
  have K : ∀ arr', gLr base sp nL ls' arr' → W p l e R s m args below meth c H locs cells slots Q (F0 m (pc + gsz i) arr' (st'.map (gmv base sp))) := fun arr' hL' => hJ H locs cells slots arr' ws hH hS hL' hc hs
  have hln : ls.length = nL := hL.1
  cases i with
  | iload n =>
    obtain ⟨v, hv, rfl, rfl⟩ := gpush_spec (show gpush (gldI ls n) ls st = some (ls', st') from hp)
    obtain ⟨x, rfl, hx1⟩ := gldI_spec hv
    exact lv_iload hx hb hd (hL.2.2.2 _ _ hx1) (K arr hL)
  | iload_n n =>
    obtain ⟨v, hv, rfl, rfl⟩ := gpush_spec (show gpush (gldI ls n.val) ls st = some (ls', st') from hp)
    obtain ⟨x, rfl, hx1⟩ := gldI_spec hv
    exact lv_iload_n hx hb hd rfl (hL.2.2.2 _ _ hx1) (K arr hL)
  | lload n =>
    obtain ⟨v, hv, rfl, rfl⟩ := gpush_spec (show gpush (gldL ls n) ls st = some (ls', st') from hp)
    obtain ⟨x, rfl, hx1⟩ := gldL_spec hv
    exact lv_lload hx hb hd (hL.2.2.2 _ _ hx1) (K arr hL)
  | lload_n n =>
    obtain ⟨v, hv, rfl, rfl⟩ := gpush_spec (show gpush (gldL ls n.val) ls st = some (ls', st') from hp)
    obtain ⟨x, rfl, hx1⟩ := gldL_spec hv
    exact lv_lload_n hx hb hd rfl (hL.2.2.2 _ _ hx1) (K arr hL)
  | aload n =>
    obtain ⟨v, hv, rfl, rfl⟩ := gpush_spec (show gpush (gldA ls n) ls st = some (ls', st') from hp)
    obtain ⟨x, rfl, hx1⟩ := gldA_spec hv
    exact lv_aload hx hb hd (hL.2.2.2 _ _ hx1) (K arr hL)
  | aload_n n =>
    obtain ⟨v, hv, rfl, rfl⟩ := gpush_spec (show gpush (gldA ls n.val) ls st = some (ls', st') from hp)
    obtain ⟨x, rfl, hx1⟩ := gldA_spec hv
    exact lv_aload_n hx hb hd rfl (hL.2.2.2 _ _ hx1) (K arr hL)
  | istore n =>
    simp only [gps] at hp
    split at hp
    · obtain ⟨h1, h2, rfl, rfl⟩ := gst1_spec hp
      exact lv_istore hx hb hd hL.has (hln ▸ h1) rfl (fun arr' hL' => K arr' (hL.st1 h1 h2 hL'))
    · cases hp
  | istore_n n =>
    simp only [gps] at hp
    split at hp
    · obtain ⟨h1, h2, rfl, rfl⟩ := gst1_spec hp
      exact lv_istore_n hx hb hd rfl hL.has (hln ▸ h1) rfl (fun arr' hL' => K arr' (hL.st1 h1 h2 hL'))
    · cases hp
  | astore n =>
    simp only [gps] at hp
    split at hp
    · obtain ⟨h1, h2, rfl, rfl⟩ := gst1_spec hp
      exact lv_astore hx hb hd hL.has (hln ▸ h1) rfl (fun arr' hL' => K arr' (hL.st1 h1 h2 hL'))
    · cases hp
  | astore_n n =>
    simp only [gps] at hp
    split at hp
    · obtain ⟨h1, h2, rfl, rfl⟩ := gst1_spec hp
      exact lv_astore_n hx hb hd rfl hL.has (hln ▸ h1) rfl (fun arr' hL' => K arr' (hL.st1 h1 h2 hL'))
    · cases hp
  | lstore n =>
    simp only [gps] at hp
    split at hp
    · obtain ⟨h1, h2, rfl, rfl⟩ := gst2_spec hp
      exact lv_lstore hx hb hd hL.has (hln ▸ h1) rfl (fun arr' hL' => K arr' (hL.st2 h1 h2 hL'))
    · cases hp
  | lstore_n n =>
    simp only [gps] at hp
    split at hp
    · obtain ⟨h1, h2, rfl, rfl⟩ := gst2_spec hp
      exact lv_lstore_n hx hb hd rfl hL.has (hln ▸ h1) rfl (fun arr' hL' => K arr' (hL.st2 h1 h2 hL'))
    · cases hp
  | iadd =>
    simp only [gps] at hp
    split at hp
    · cases hp; exact lv_iadd hx hb hd (K arr hL)
    · cases hp
  | isub =>
    simp only [gps] at hp
    split at hp
    · cases hp; exact lv_isub hx hb hd (K arr hL)
    · cases hp
  | imul =>
    simp only [gps] at hp
    split at hp
    · cases hp; exact lv_imul hx hb hd (K arr hL)
    · cases hp
  | iand =>
    simp only [gps] at hp
    split at hp
    · cases hp; exact lv_iand hx hb hd (K arr hL)
    · cases hp
  | ishr =>
    simp only [gps] at hp
    split at hp
    · cases hp; exact lv_ishr hx hb hd (K arr hL)
    · cases hp
  | ladd =>
    simp only [gps] at hp
    split at hp
    · cases hp; exact lv_ladd hx hb hd (K arr hL)
    · cases hp
  | lmul =>
    simp only [gps] at hp
    split at hp
    · cases hp; exact lv_lmul hx hb hd (K arr hL)
    · cases hp
  | land =>
    simp only [gps] at hp
    split at hp
    · cases hp; exact lv_land hx hb hd (K arr hL)
    · cases hp
  | lor =>
    simp only [gps] at hp
    split at hp
    · cases hp; exact lv_lor hx hb hd (K arr hL)
    · cases hp
  | lshl =>
    simp only [gps] at hp
    split at hp
    · cases hp; exact lv_lshl hx hb hd rfl (K arr hL)
    · cases hp
  | lcmp =>
    simp only [gps] at hp
    split at hp
    · cases hp; exact W.lcmp hx hb hd (K arr hL)
    · cases hp
  | i2l =>
    simp only [gps] at hp
    split at hp
    · cases hp; exact lv_i2l hx hb hd rfl (K arr hL)
    · cases hp
  | l2i =>
    simp only [gps] at hp
    split at hp
    · cases hp; exact lv_l2i hx hb hd rfl (K arr hL)
    · cases hp
  | i2b =>
    simp only [gps] at hp
    split at hp
    · cases hp; exact lv_i2b hx hb hd rfl (K arr hL)
    · cases hp
  | i2c =>
    simp only [gps] at hp
    split at hp
    · cases hp; exact lv_i2c hx hb hd rfl (K arr hL)
    · cases hp
  | dup =>
    simp only [gps] at hp
    split at hp
    · cases hp; exact lv_dup hx hb hd rfl (K arr hL)
    · cases hp; exact lv_dup hx hb hd rfl (K arr hL)
    · cases hp
  | pop =>
    simp only [gps] at hp
    split at hp
    · cases hp; exact lv_pop hx hb hd rfl (K arr hL)
    · cases hp; exact lv_pop hx hb hd rfl (K arr hL)
    · cases hp
  | dup2 =>
    simp only [gps] at hp
    split at hp
    · cases hp; exact lv_dup2_11 hx hb hd rfl rfl (K arr hL)
    · cases hp
  | _ => cases hp
theorem gs_1 (X : gCx base sp D cI cL cQ p s m args meth c own cc ini nL) : gRule own cc ret ini call (gJW base sp D cI cL cQ p l e R s m args below meth c nL Q) P 1 := by
  intro pc i nx v ls st h ge hd hn hp hJ H locs cells slots arr ws hH hS hL hc hs
  obtain ⟨hx, hb, -⟩ := X
  subst hn
  have K : W p l e R s m args below meth c H locs cells slots Q (F0 m (pc + gsz i) arr (.int v :: st.map (gmv base sp))) := hJ H locs cells slots arr ws hH hS hL hc hs
  cases i with
  | iconst n => exact lv_iconst hx hb hd (Option.some.inj hp) K
  | bipush n => exact lv_bipush hx hb hd (Option.some.inj hp) K
  | sipush n => exact lv_sipush hx hb hd (Option.some.inj hp) K
  | _ => cases hp
theorem gs_2 (X : gCx base sp D cI cL cQ p s m args meth c own cc ini nL) : gRule own cc ret ini call (gJW base sp D cI cL cQ p l e R s m args below meth c nL Q) P 2 := by
  intro pc n nx v ls st h ge hd hn hp hJ H locs cells slots arr ws hH hS hL hc hs
  subst hn
  exact lv_lconst X.1 X.2.1 hd hp (hJ H locs cells slots arr ws hH hS hL hc hs)
theorem gs_3 (X : gCx base sp D cI cL cQ p s m args meth c own cc ini nL) : gRule own cc ret ini call (gJW base sp D cI cL cQ p l e R s m args below meth c nL Q) P 3 := by
  intro pc n z nx x v ls ls' st h ge hd hn hl hv hp hJ H locs cells slots arr ws hH hS hL hc hs
  subst hn
  obtain ⟨h1, h2, rfl, -⟩ := gst1_spec hp
  obtain ⟨x', hx', hx1⟩ := gldI_spec hl
  cases hx'
  have hm : ((n, Value.int x) : Nat × Value) ∈ gasc base sp ls := gasc_mem.mpr ⟨.int x, hx1, rfl⟩
  obtain ⟨k, hk⟩ := List.getElem?_of_mem hm
  exact lv_iinc (v := v) X.1 X.2.1 hd hL.has hk hv (hL.1 ▸ h1) rfl (fun arr' hL' => hJ H locs cells slots arr' ws hH hS (hL.st1 h1 h2 hL') hc hs)
theorem gs_4 (X : gCx base sp D cI cL cQ p s m args meth c own cc ini nL) : gRule own cc ret ini call (gJW base sp D cI cL cQ p l e R s m args below meth c nL Q) P 4 := by
  intro pc off tgt ls st h ge hd ht hJ H locs cells slots arr ws hH hS hL hc hs
  exact lv_goto X.1 X.2.1 hd ht (hJ H locs cells slots arr ws hH hS hL hc hs)
theorem gs_5 (X : gCx base sp D cI cL cQ p s m args meth c own cc ini nL) : gRule own cc ret ini call (gJW base sp D cI cL cQ p l e R s m args below meth c nL Q) P 5 := by
  intro pc cd off nx tgt x ls st h ge hd hn ht hJ1 hJ2 H locs cells slots arr ws hH hS hL hc hs
  subst hn
  cases cd with
  | eq => exact lv_if_eq X.1 X.2.1 hd ht (fun q => hJ1 q H locs cells slots arr ws hH hS hL hc hs) (fun q => hJ2 q H locs cells slots arr ws hH hS hL hc hs)
  | ne => exact lv_if_ne X.1 X.2.1 hd ht (fun q => hJ1 q H locs cells slots arr ws hH hS hL hc hs) (fun q => hJ2 q H locs cells slots arr ws hH hS hL hc hs)
  | lt => exact lv_if_lt X.1 X.2.1 hd ht (fun q => hJ1 q H locs cells slots arr ws hH hS hL hc hs) (fun q => hJ2 q H locs cells slots arr ws hH hS hL hc hs)
  | ge => exact lv_if_ge X.1 X.2.1 hd ht (fun q => hJ1 q H locs cells slots arr ws hH hS hL hc hs) (fun q => hJ2 q H locs cells slots arr ws hH hS hL hc hs)
  | gt => exact lv_if_gt X.1 X.2.1 hd ht (fun q => hJ1 q H locs cells slots arr ws hH hS hL hc hs) (fun q => hJ2 q H locs cells slots arr ws hH hS hL hc hs)
  | le => exact lv_if_le X.1 X.2.1 hd ht (fun q => hJ1 q H locs cells slots arr ws hH hS hL hc hs) (fun q => hJ2 q H locs cells slots arr ws hH hS hL hc hs)
theorem gs_6 (X : gCx base sp D cI cL cQ p s m args meth c own cc ini nL) : gRule own cc ret ini call (gJW base sp D cI cL cQ p l e R s m args below meth c nL Q) P 6 := by
  intro pc cd off nx tgt x y ls st h ge hd hn ht hJ1 hJ2 H locs cells slots arr ws hH hS hL hc hs
  subst hn
  cases cd with
  | eq => exact lv_icmp_eq X.1 X.2.1 hd ht (fun q => hJ1 q H locs cells slots arr ws hH hS hL hc hs) (fun q => hJ2 q H locs cells slots arr ws hH hS hL hc hs)
  | ne => exact lv_icmp_ne X.1 X.2.1 hd ht (fun q => hJ1 q H locs cells slots arr ws hH hS hL hc hs) (fun q => hJ2 q H locs cells slots arr ws hH hS hL hc hs)
  | lt => exact lv_icmp_lt X.1 X.2.1 hd ht (fun q => hJ1 q H locs cells slots arr ws hH hS hL hc hs) (fun q => hJ2 q H locs cells slots arr ws hH hS hL hc hs)
  | ge => exact lv_icmp_ge X.1 X.2.1 hd ht (fun q => hJ1 q H locs cells slots arr ws hH hS hL hc hs) (fun q => hJ2 q H locs cells slots arr ws hH hS hL hc hs)
  | gt => exact lv_icmp_gt X.1 X.2.1 hd ht (fun q => hJ1 q H locs cells slots arr ws hH hS hL hc hs) (fun q => hJ2 q H locs cells slots arr ws hH hS hL hc hs)
  | le => exact lv_icmp_le X.1 X.2.1 hd ht (fun q => hJ1 q H locs cells slots arr ws hH hS hL hc hs) (fun q => hJ2 q H locs cells slots arr ws hH hS hL hc hs)
theorem gs_7 (X : gCx base sp D cI cL cQ p s m args meth c own cc ini nL) : gRule own cc ret ini call (gJW base sp D cI cL cQ p l e R s m args below meth c nL Q) P 7 := by
  intro pc idx nx v ls st h ge hd hn hw hJ H locs cells slots arr ws hH hS hL hc hs
  subst hn
  obtain ⟨hx, hb, hml, hown, hts, -⟩ := X
  exact lv_ldc hx hb hown (hts _ (gT_mem hw rfl)) hd (hJ H locs cells slots arr ws hH hS hL hc hs)
theorem gs_8 (X : gCx base sp D cI cL cQ p s m args meth c own cc ini nL) : gRule own cc ret ini call (gJW base sp D cI cL cQ p l e R s m args below meth c nL Q) P 8 := by
  intro pc idx nx v ls st h ge hd hn hw hJ H locs cells slots arr ws hH hS hL hc hs
  subst hn
  obtain ⟨hx, hb, hml, hown, hts, -⟩ := X
  exact lv_ldc2 hx hb hown (hts _ (gT_mem hw rfl)) hd (hJ H locs cells slots arr ws hH hS hL hc hs)
theorem gs_9 (X : gCx base sp D cI cL cQ p s m args meth c own cc ini nL) : gRule own cc ret ini call (gJW base sp D cI cL cQ p l e R s m args below meth c nL Q) P 9 := by
  intro pc idx nx i tx ls st h ge hd hn hw hJ H locs cells slots arr ws hH hS hL hc hs
  subst hn
  obtain ⟨hx, hb, hml, hown, hts, hE, -⟩ := X
  have hR := hE.2.2.2.1 _ hw
  refine va_ldcS hx hb hown hR hd ?_
  have hK := hJ H locs cells slots arr ws hH hS hL hc hs
  have e1 : gmv base sp (.ref (1000000 + i)) = .ref (sp i) := by
    show Value.ref (grho base sp (1000000 + i)) = _
    unfold grho
    rw [if_neg (by omega), Nat.add_sub_cancel_left]
  rw [List.map_cons, e1] at hK
  exact hK
theorem gs_10 (X : gCx base sp D cI cL cQ p s m args meth c own cc ini nL) : gRule own cc ret ini call (gJW base sp D cI cL cQ p l e R s m args below meth c nL Q) P 10 := by
  intro pc dflt lo hi offs len tgt x ls st h ge hd hw ht hJ H locs cells slots arr ws hH hS hL hc hs
  exact lv_tableOut X.1 X.2.1 hd hw ht (hJ H locs cells slots arr ws hH hS hL hc hs)
theorem gs_11 (X : gCx base sp D cI cL cQ p s m args meth c own cc ini nL) : gRule own cc ret ini call (gJW base sp D cI cL cQ p l e R s m args below meth c nL Q) P 11 := by
  intro pc dflt lo hi offs off len tgt x ls st h ge hd h1 h2 ho ht hJ H locs cells slots arr ws hH hS hL hc hs
  exact lv_tableIn X.1 X.2.1 hd h1 h2 ho ht (hJ H locs cells slots arr ws hH hS hL hc hs)
theorem gs_12 (X : gCx base sp D cI cL cQ p s m args meth c own cc ini nL) : gRule own cc ret ini call (gJW base sp D cI cL cQ p l e R s m args below meth c nL Q) P 12 := by
  intro pc nx x y ls st h ge hd hn hy hJ H locs cells slots arr ws hH hS hL hc hs
  subst hn
  exact lv_idiv X.1 X.2.1 hd hy (hJ H locs cells slots arr ws hH hS hL hc hs)
theorem gs_13 (X : gCx base sp D cI cL cQ p s m args meth c own cc ini nL) : gRule own cc ret ini call (gJW base sp D cI cL cQ p l e R s m args below meth c nL Q) P 13 := by
  intro pc nx x y ls st h ge hd hn hy hJ H locs cells slots arr ws hH hS hL hc hs
  subst hn
  exact lv_irem X.1 X.2.1 hd hy (hJ H locs cells slots arr ws hH hS hL hc hs)
theorem gs_14 (X : gCx base sp D cI cL cQ p s m args meth c own cc ini nL) : gRule own cc ret ini call (gJW base sp D cI cL cQ p l e R s m args below meth c nL Q) P 14 := by
  intro pc idx nx t j a fs v ls st h ge hd hn hF ha hv hJ H locs cells slots arr ws hH hS hL hc hs
  subst hn
  obtain ⟨hx, hb, hml, hown, hts, hE, -⟩ := X
  obtain ⟨C, T, N, hcl, hj, hw⟩ := hF
  obtain ⟨-, k, hk⟩ := hH.1 a _ ha
  exact va_get (D := D) (ci := t) (C := C) (T := T) (N := N) (v := gmv base sp v) hx hb hts (gcl_all hcl).1 hown hE.1 hH.2.1 k hk hcl j hj (hts _ (gT_mem hw rfl)) (fun _ h9 => h9) (by rw [List.getElem?_map, hv]; rfl) hd (hJ H locs cells slots arr ws hH hS hL hc hs)
end GRU
