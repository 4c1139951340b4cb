/-! ===== the small machine's heap and locals within the real one's ===== -/
def grho (base : Nat) (sp : Nat → Nat) (a : Nat) : Nat := if a < 1000000 then base + gphi a else sp (a - 1000000)
def gmv (base : Nat) (sp : Nat → Nat) : Value → Value
  | .ref a => .ref (grho base sp a)
  | .int x => .int x
  | .long x => .long x
  | .float x => .float x
  | .double x => .double x
  | .null => .null
  | .retAddr x => .retAddr x
def gcv (base : Nat) (sp : Nat → Nat) (cI cL : ClassId) (cQ : Nat → ClassId) : GC → va_E
  | .inl x => .inr (x.1, x.2.map (gmv base sp))
  | .inr (.inl x) => .inl (cI, x.1, .inl x.2)
  | .inr (.inr (.inl x)) => .inl (cL, x.1, .inr (.inl x.2))
  | .inr (.inr (.inr x)) => .inl (cQ x.1, x.2.1, .inr (.inr (.inr (.inr (fun j => (x.2.2 j).map (grho base sp))))))
def gA (base : Nat) : Nat → Prop := fun q => base ≤ q
def gtys (cI cL : ClassId) (cQ : Nat → ClassId) : List (ClassId × FieldType) := [(cI, .int), (cL, .long), (cQ 2, .object RX2), (cQ 4, .object RX4)]
def gHd (base : Nat) (sp : Nat → Nat) (D : va_G) (cI cL : ClassId) (cQ : Nat → ClassId) (h : GH) (e : GE) (H : Heap) (ws : va_W) : Prop :=
  (∀ (a : Nat) (c : GC), h a = some c → gphi a < e.1 ∧ ∃ k : Nat, ws[k]? = some (grho base sp a, gcv base sp cI cL cQ c)) ∧ va_P D vwCl ws H ∧ va_D (gA base) ws ∧ (e.2.2.2 = false ∨ H.size = base + e.1) ∧ e.1 ≤ 1000000
def gLr (base : Nat) (sp : Nat → Nat) (nL : Nat) (ls : GL) (arr : Array Slot) : Prop :=
  ls.length = nL ∧ arr.size = nL ∧ lv_wf arr ∧ ∀ (i : Nat) (v : Value), ls[i]? = some (some v) → arr[i]? = some (.val (gmv base sp v))
def gasc (base : Nat) (sp : Nat → Nat) (ls : GL) : List (Nat × Value) := ls.zipIdx.filterMap (fun q => q.1.map fun v => (q.2, gmv base sp v))
theorem gasc_mem {base : Nat} {sp : Nat → Nat} {ls : GL} {i : Nat} {w : Value} : (i, w) ∈ gasc base sp ls ↔ ∃ v, ls[i]? = some (some v) ∧ w = gmv base sp v := by
  unfold gasc
  rw [List.mem_filterMap]
  constructor
  · rintro ⟨⟨o, j⟩, h1, h2⟩
    have h3 := List.mem_zipIdx_iff_getElem?.mp h1
    cases o with
    | none => cases h2
    | some v =>
      simp only [Option.map_some, Option.some.injEq, Prod.mk.injEq] at h2
      obtain ⟨rfl, rfl⟩ := h2
      exact ⟨v, h3, rfl⟩
  · rintro ⟨v, h1, rfl⟩
    exact ⟨(some v, i), List.mem_zipIdx_iff_getElem?.mpr h1, rfl⟩
theorem gmv_cat (base : Nat) (sp : Nat → Nat) (v : Value) : (gmv base sp v).category = v.category := by cases v <;> rfl
theorem gLr.has {base : Nat} {sp : Nat → Nat} {nL : Nat} {ls : GL} {arr : Array Slot} (h : gLr base sp nL ls arr) : lv_has arr nL (gasc base sp ls) := by
  refine ⟨h.2.1, h.2.2.1, fun q hq => ?_⟩
  obtain ⟨i, w⟩ := q
  obtain ⟨v, h1, rfl⟩ := gasc_mem.mp hq
  exact h.2.2.2 i v h1
theorem gokS_spec {ls : GL} {j : Nat} {v : Value} (h : gokS ls (j + 1) = true) (hv : ls[j]? = some (some v)) : v.category = 1 := by
  simp only [gokS, hv] at h
  cases v <;> first | rfl | cases h
theorem gLr.st1 {base : Nat} {sp : Nat → Nat} {nL i : Nat} {ls : GL} {arr arr' : Array Slot} {v : Value} (h : gLr base sp nL ls arr) (hi : i < ls.length) (ho : gokS ls i = true)
    (h' : lv_has arr' nL ((i, gmv base sp v) :: (gasc base sp ls).filter (fun q => !(q.1 == i) && !(q.1 + 1 == i && q.2.category == 2)))) : gLr base sp nL (ls.set i (some v)) arr' := by
  refine ⟨by rw [List.length_set]; exact h.1, h'.1, h'.2.1, fun j w hw => ?_⟩
  by_cases hj : j = i
  · subst hj
    rw [List.getElem?_set_self hi] at hw
    cases hw
    exact h'.2.2 (j, gmv base sp v) List.mem_cons_self
  · rw [List.getElem?_set_ne (fun q => hj q.symm)] at hw
    refine h'.2.2 (j, gmv base sp w) (List.mem_cons_of_mem _ (List.mem_filter.mpr ⟨gasc_mem.mpr ⟨w, hw, rfl⟩, ?_⟩))
    have h1 : (j == i) = false := by simpa using hj
    by_cases hji : j + 1 = i
    · subst hji
      have := gokS_spec ho hw
      simp [gmv_cat, this]
    · simp [h1, hji]
theorem gLr.st2 {base : Nat} {sp : Nat → Nat} {nL i : Nat} {ls : GL} {arr arr' : Array Slot} {v : Value} (h : gLr base sp nL ls arr) (hi : i + 1 < ls.length) (ho : gokS ls i = true)
    (h' : lv_has arr' nL ((i, gmv base sp v) :: (gasc base sp ls).filter (fun q => !(q.1 == i) && (!(q.1 == i + 1) && !(q.1 + 1 == i && q.2.category == 2))))) : gLr base sp nL ((ls.set (i + 1) none).set i (some v)) arr' := by
  refine ⟨by rw [List.length_set, List.length_set]; exact h.1, h'.1, h'.2.1, fun j w hw => ?_⟩
  by_cases hj : j = i
  · subst hj
    rw [List.getElem?_set_self (by rw [List.length_set]; omega)] at hw
    cases hw
    exact h'.2.2 (j, gmv base sp v) List.mem_cons_self
  · rw [List.getElem?_set_ne (fun q => hj q.symm)] at hw
    by_cases hj2 : j = i + 1
    · subst hj2
      rw [List.getElem?_set_self hi] at hw
      cases hw
    · rw [List.getElem?_set_ne (fun q => hj2 q.symm)] at hw
      refine h'.2.2 (j, gmv base sp w) (List.mem_cons_of_mem _ (List.mem_filter.mpr ⟨gasc_mem.mpr ⟨w, hw, rfl⟩, ?_⟩))
      by_cases hji : j + 1 = i
      · subst hji
        have := gokS_spec ho hw
        simp [gmv_cat, this]
        omega
      · simp [hj, hj2, hji]
theorem gpush_spec {o : Option Value} {ls ls' : GL} {st st' : List Value} (h : gpush o ls st = some (ls', st')) : ∃ v, o = some v ∧ ls' = ls ∧ st' = v :: st := by
  cases o with
  | none => cases h
  | some v => cases h; exact ⟨v, rfl, rfl, rfl⟩
theorem gldI_spec {ls : GL} {n : Nat} {v : Value} (h : gldI ls n = some v) : ∃ x, v = .int x ∧ ls[n]? = some (some (.int x)) := by
  unfold gldI at h
  split at h
  · next x hx => cases h; exact ⟨x, rfl, hx⟩
  · cases h
theorem gldL_spec {ls : GL} {n : Nat} {v : Value} (h : gldL ls n = some v) : ∃ x, v = .long x ∧ ls[n]? = some (some (.long x)) := by
  unfold gldL at h
  split at h
  · next x hx => cases h; exact ⟨x, rfl, hx⟩
  · cases h
theorem gldA_spec {ls : GL} {n : Nat} {v : Value} (h : gldA ls n = some v) : ∃ x, v = .ref x ∧ ls[n]? = some (some (.ref x)) := by
  unfold gldA at h
  split at h
  · next x hx => cases h; exact ⟨x, rfl, hx⟩
  · cases h
theorem gst1_spec {ls ls' : GL} {i : Nat} {v : Value} {st st' : List Value} (h : gst1 ls i v st = some (ls', st')) : i < ls.length ∧ gokS ls i = true ∧ ls' = ls.set i (some v) ∧ st' = st := by
  unfold gst1 at h
  split at h
  · next hc =>
    cases h
    simp only [Bool.and_eq_true, decide_eq_true_eq] at hc
    exact ⟨hc.1, hc.2, rfl, rfl⟩
  · cases h
theorem gst2_spec {ls ls' : GL} {i : Nat} {v : Value} {st st' : List Value} (h : gst2 ls i v st = some (ls', st')) : i + 1 < ls.length ∧ gokS ls i = true ∧ ls' = (ls.set (i + 1) none).set i (some v) ∧ st' = st := by
  unfold gst2 at h
  split at h
  · next hc =>
    cases h
    simp only [Bool.and_eq_true, decide_eq_true_eq] at hc
    exact ⟨hc.1, hc.2, rfl, rfl⟩
  · cases h
/-- the words that ride along -/
def gTs : List Cond := lw_tbl.filter goodWord
theorem gT_mem {w : Cond} (h : w ∈ lw_tbl) (hg : goodWord w = true) : w ∈ gTs := List.mem_filter.mpr ⟨h, hg⟩
def gEnv (base : Nat) (sp : Nat → Nat) (D : va_G) (cI cL : ClassId) (cQ : Nat → ClassId) (U : State) : Prop :=
  va_K D vwCl (gtys cI cL cQ) U ∧ (va_AO RX2 U ∧ va_AO RX4 U) ∧ (∀ w ∈ gnestW, va_Nw w U) ∧ (∀ q ∈ gstrs, vk_R q.1 q.2.1 q.2.2.1 (sp q.2.2.2) U) ∧ vk_S 5 glen gbyt sp (fun i => sp (100 + i)) (gA base) U U.heap ∧ va_Z "java/lang/String" "COMPACT_STRINGS" "Z" (.int 1) (gA base) U U.heap ∧
  ∃ v : Value, (v = .null ∨ v = .ref (sp 200)) ∧ va_Z "jdk/internal/util/Preconditions" "SIOOBE_FORMATTER" "Ljava/util/function/BiFunction;" v (gA base) U U.heap
theorem gnest_warm {s U : State} (hW : s.WarmedH U.vm) (h : ∀ w ∈ gnestW, va_Nw w s) : ∀ w ∈ gnestW, va_Nw w U := by
  intro w hw
  have h1 := h w hw
  simp only [gnestW, List.mem_cons, List.not_mem_nil, or_false] at hw
  rcases hw with rfl | rfl | rfl | rfl | rfl
  · exact va_Nw.warmM hW h1
  · exact va_Nw.warmM hW h1
  · exact va_Nw.warmM hW h1
  · exact va_Nw.warmM hW h1
  · exact va_Nw.warmM hW h1
theorem gnest_same {s U : State} (hv : s.vm = U.vm) (h : ∀ w ∈ gnestW, va_Nw w s) : ∀ w ∈ gnestW, va_Nw w U := by
  intro w hw
  have h1 := h w hw
  simp only [gnestW, List.mem_cons, List.not_mem_nil, or_false] at hw
  rcases hw with rfl | rfl | rfl | rfl | rfl
  · exact va_Nw.same rfl hv h1
  · exact va_Nw.same rfl hv h1
  · exact va_Nw.same rfl hv h1
  · exact va_Nw.same rfl hv h1
  · exact va_Nw.same rfl hv h1
section GENV
variable {base : Nat} {sp : Nat → Nat} {D : va_G} {cI cL : ClassId} {cQ : Nat → ClassId}
theorem gEnv.move {s U : State} {locs : List Loc} (h : gEnv base sp D cI cL cQ s) (hW : s.WarmedH U.vm) (hS : va_S (gA base) s.heap U.heap locs) : gEnv base sp D cI cL cQ U := by
  obtain ⟨h1, h0, h2, h3, h4, h5, v, h6, h7⟩ := h
  exact ⟨va_K.moved hW.alike h1, ⟨va_AO.moved hW.alike h0.1, va_AO.moved hW.alike h0.2⟩, gnest_warm hW h2, fun q hq => vk_R.warm hW (h3 q hq), (vk_S.moved hW.alike h4).kept hS.2.1, (va_Z.moved hW.alike h5).kept hS.2.1, v, h6, (va_Z.moved hW.alike h7).kept hS.2.1⟩
theorem gEnv.same {U U' : State} (h : gEnv base sp D cI cL cQ U) (hv : U.vm = U'.vm) (hh : U'.heap = U.heap) : gEnv base sp D cI cL cQ U' := by
  obtain ⟨h1, h0, h2, h3, h4, h5, v, h6, h7⟩ := h
  have ha : U.vm.Alike U'.vm := by rw [hv]; exact Vm.Alike.refl _
  refine ⟨va_K.moved ha h1, ⟨va_AO.moved ha h0.1, va_AO.moved ha h0.2⟩, gnest_same hv h2, fun q hq => vk_R.same hv.symm (h3 q hq), ?_, ?_, v, h6, ?_⟩
  · rw [hh]; exact vk_S.moved ha h4
  · rw [hh]; exact va_Z.moved ha h5
  · rw [hh]; exact va_Z.moved ha h7
theorem gphi_lt {a : Nat} (h : gphi a < 1000000) : a < 1000000 := by
  unfold gphi at h
  split at h
  · omega
  · split at h
    · omega
    · split at h <;> omega
theorem gphi_inj {a b : Nat} (h : gphi a = gphi b) : a = b := by
  unfold gphi at h
  split at h
  · split at h
    · exact h
    · split at h
      · omega
      · split at h <;> omega
  · split at h
    · split at h
      · omega
      · split at h
        · omega
        · split at h <;> omega
    · split at h
      · split at h
        · omega
        · split at h
          · omega
          · split at h <;> omega
      · split at h
        · omega
        · split at h
          · omega
          · split at h <;> omega
theorem grho_lt {a : Nat} (h : gphi a < 1000000) : grho base sp a = base + gphi a := by simp [grho, gphi_lt h]
/-- a cell written -/
theorem gHd.put {h : GH} {e : GE} {H H1 : Heap} {ws : va_W} {a k : Nat} {c0 c1 : GC} (hH : gHd base sp D cI cL cQ h e H ws) (ha : h a = some c0) (hk : ws[k]? = some (grho base sp a, gcv base sp cI cL cQ c0))
    (hP : va_P D vwCl (ws.set k (grho base sp a, gcv base sp cI cL cQ c1)) H1) (hD : va_D (gA base) (ws.set k (grho base sp a, gcv base sp cI cL cQ c1))) (hz : H1.size = H.size) :
    gHd base sp D cI cL cQ (gup h a c1) e H1 (ws.set k (grho base sp a, gcv base sp cI cL cQ c1)) := by
  obtain ⟨h1, -, -, h4, h5⟩ := hH
  have hkl : k < ws.length := (List.getElem?_eq_some_iff.mp hk).1
  refine ⟨fun b c hb => ?_, hP, hD, ?_, h5⟩
  · by_cases hba : b = a
    · subst hba
      rw [gup_same] at hb
      cases hb
      exact ⟨(h1 b c0 ha).1, k, List.getElem?_set_self hkl⟩
    · rw [gup_ne _ _ hba] at hb
      obtain ⟨hl, k', hk'⟩ := h1 b c hb
      refine ⟨hl, k', ?_⟩
      have hne : k ≠ k' := by
        intro q
        subst q
        have h9 := Option.some.inj (hk.symm.trans hk')
        have h8 : grho base sp a = grho base sp b := congrArg Prod.fst h9
        have hla := (h1 a c0 ha).1
        rw [grho_lt (by omega), grho_lt (by omega)] at h8
        exact hba (gphi_inj (Nat.add_left_cancel h8)).symm
      rw [List.getElem?_set_ne hne]
      exact hk'
  · rcases h4 with h4 | h4
    · exact Or.inl h4
    · exact Or.inr (by rw [hz]; exact h4)
theorem gHd.put0 {h : GH} {n bc bs : Nat} {fl : Bool} {H H1 : Heap} {ws : va_W} {a k : Nat} {c0 c1 : GC} (hH : gHd base sp D cI cL cQ h (n, bc, bs, fl) H ws) (ha : h a = some c0) (hk : ws[k]? = some (grho base sp a, gcv base sp cI cL cQ c0))
    (hP : va_P D vwCl (ws.set k (grho base sp a, gcv base sp cI cL cQ c1)) H1) (hD : va_D (gA base) (ws.set k (grho base sp a, gcv base sp cI cL cQ c1))) :
    gHd base sp D cI cL cQ (gup h a c1) (n, bc, bs, false) H1 (ws.set k (grho base sp a, gcv base sp cI cL cQ c1)) := by
  obtain ⟨h1, -, -, h4, h5⟩ := hH
  have hkl : k < ws.length := (List.getElem?_eq_some_iff.mp hk).1
  refine ⟨fun b c hb => ?_, hP, hD, Or.inl rfl, h5⟩
  by_cases hba : b = a
  · subst hba
    rw [gup_same] at hb
    cases hb
    exact ⟨(h1 b c0 ha).1, k, List.getElem?_set_self hkl⟩
  · rw [gup_ne _ _ hba] at hb
    obtain ⟨hl, k', hk'⟩ := h1 b c hb
    refine ⟨hl, k', ?_⟩
    have hne : k ≠ k' := by
      intro q
      subst q
      have h9 := Option.some.inj (hk.symm.trans hk')
      have h8 : grho base sp a = grho base sp b := congrArg Prod.fst h9
      have hla : gphi a < n := (h1 a c0 ha).1
      have hlb : gphi b < n := hl
      have h5' : n ≤ 1000000 := h5
      rw [grho_lt (by omega), grho_lt (by omega)] at h8
      exact hba (gphi_inj (Nat.add_left_cancel h8)).symm
    rw [List.getElem?_set_ne hne]
    exact hk'
/-- a cell made -/
theorem gHd.new {h : GH} {n bc bs m a : Nat} {H H1 : Heap} {ws : va_W} {c1 : GC} (hH : gHd base sp D cI cL cQ h (n, bc + 1, bs + m, true) H ws) (ha : gphi a = n) (hn : n + 1 ≤ 1000000)
    (hP : va_P D vwCl (ws ++ [(H.size, gcv base sp cI cL cQ c1)]) H1) (hD : va_D (gA base) (ws ++ [(H.size, gcv base sp cI cL cQ c1)])) (hz : H1.size = H.size + 1) :
    gHd base sp D cI cL cQ (gup h a c1) (n + 1, bc, bs, true) H1 (ws ++ [(H.size, gcv base sp cI cL cQ c1)]) ∧ grho base sp a = H.size := by
  obtain ⟨h1, -, -, h4, h5⟩ := hH
  have hs : H.size = base + n := by
    rcases h4 with h4 | h4
    · cases h4
    · exact h4
  have hr : grho base sp a = H.size := by rw [grho_lt (by omega), hs, ha]
  refine ⟨⟨fun b c hb => ?_, hP, hD, Or.inr (by rw [hz, hs]; rfl), hn⟩, hr⟩
  by_cases hba : b = a
  · subst hba
    rw [gup_same] at hb
    cases hb
    exact ⟨by show gphi b < n + 1; omega, ws.length, by rw [hr]; simp⟩
  · rw [gup_ne _ _ hba] at hb
    obtain ⟨hl, k', hk'⟩ := h1 b c hb
    refine ⟨Nat.lt_succ_of_lt hl, k', ?_⟩
    rw [List.getElem?_append_left (List.getElem?_eq_some_iff.mp hk').1]
    exact hk'
end GENV
