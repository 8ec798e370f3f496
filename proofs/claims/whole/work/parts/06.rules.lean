/-! THE JUDGEMENT jw_J: the machine, in method M at pc with locals ls, operand stack st and heap h, with room for kc cells of ks slots, comes to an end with Q. -/
abbrev jw_B : Type := Nat → Option (Instr × Nat)
abbrev jw_M : Type := MethodName × ByteArray × Nat × Option FieldType × jw_B
/-- a value: an int, a long, a reference -/
abbrev jV : Type := Int32 ⊕ Int64 ⊕ Option Nat
abbrev jw_O : Type := Option jV ⊕ String
def jv (x : jV) : Value := match x with
  | .inl x => .int x
  | .inr (.inl x) => .long x
  | .inr (.inr r) => va_rf r
def jv_c (x : jV) : Nat := match x with
  | .inr (.inl _) => 2
  | _ => 1
def lo_has (arr : Array Slot) (nL : Nat) (ls : List (Option jV)) : Prop := arr.size = nL ∧ lv_wf arr ∧ ∀ (i : Nat) (v : jV), ls[i]? = some (some v) → arr[i]? = some (.val (jv v))
def jw_wd (g : jg_G) (U : State) : Prop := va_K (jg_D g) jc_cl (jg_t g) U ∧ jg_b g ≤ U.heap.size ∧ jc_con g U U.heap
theorem jw_wd.moved {g : jg_G} {u U : State} (hW : u.WarmedH U.vm) (h : jw_wd g u) (hz : u.heap.size ≤ U.heap.size) (hq : ∀ q : Nat, q < u.heap.size → ¬ jg_S g q → U.heap[q]? = u.heap[q]?) : jw_wd g U :=
  ⟨va_K.moved hW.alike h.1, Nat.le_trans h.2.1 hz, jc_con_kept (jc_con_moved hW h.2.2) hq⟩
theorem jw_wd.same {g : jg_G} {u U : State} (hv : U.vm = u.vm) (hh : U.heap = u.heap) (h : jw_wd g u) : jw_wd g U :=
  ⟨va_K.moved (by rw [hv]; exact Vm.Alike.refl _) h.1, by rw [hh]; exact h.2.1, by rw [hh]; exact jc_con_same hv h.2.2⟩
/-- where the method stands -/
def jw_At (g : jg_G) (M : jw_M) (d : Nat) (R : Room) (p : Program) (s : State) (m : MethodId) (args : Array Value) (meth : Method) (c : Code) : Prop :=
  p.tables.exec = Jvm.exec ∧ c.code = M.2.1 ∧ c.maxLocals = M.2.2.1 ∧ s.vm.findClass M.1.cls = some m.cls ∧ (∀ w ∈ jw_big, w.before args s = true) ∧ meth.sig.returnType = M.2.2.2.1 ∧ meth.locks = false ∧ meth.name = M.1.name ∧ jw_wd g s ∧ d ≤ R.frames ∧ 40 * d ≤ R.locals ∧ (jg_l g).stackTraces = false ∧ ∀ pc x, M.2.2.2.2 pc = some x → decode M.2.1 pc = .ok x
/-- the instruction by which v goes back -/
def jw_rt (M : jw_M) (pc : Nat) (v : Option jV) : Prop :=
  (∃ x, v = some (.inl x) ∧ decode M.2.1 pc = .ok (.ireturn, 1) ∧ ∃ ty, M.2.2.2.1 = some ty ∧ narrow ty (.int x) = .int x) ∨ (∃ x, v = some (.inr (.inl x)) ∧ decode M.2.1 pc = .ok (.lreturn, 1) ∧ M.2.2.2.1 = some .long) ∨ (∃ r, v = some (.inr (.inr r)) ∧ decode M.2.1 pc = .ok (.areturn, 1) ∧ ∃ ty, M.2.2.2.1 = some ty ∧ ((∃ n, ty = .object n) ∨ ∃ t, ty = .array t)) ∨ (v = none ∧ decode M.2.1 pc = .ok (.return_, 1) ∧ M.2.2.2.1 = none)
/-- a place where E is made with a text and thrown -/
def jw_ts0 (M : jw_M) (pc : Nat) (E : String) : Prop := ∃ (names : List String) (ik is ic n : Nat) (text : String),
  Jvm.Bundle.fit E = true ∧ (∀ x ∈ names, Jvm.Bundle.fit x = true) ∧ Cond.classLink M.1.cls ik E ∈ jw_big ∧ Cond.initialized E ∈ jw_big ∧ (∀ w ∈ vx_atS M.1.cls ic E names, w ∈ jw_big ∨ w ∈ jw_nest) ∧ (∀ w ∈ Cond.classLink M.1.cls ik E :: Cond.initialized E :: vx_atS M.1.cls ic E names, vx_ot w = true) ∧
  jc_strs[n]? = some (M.1.cls, is, text) ∧ decode M.2.1 pc = .ok (.new ik, 3) ∧ decode M.2.1 (pc + 3) = .ok (.dup, 1) ∧ decode M.2.1 (pc + 4) = .ok (.ldc is, 2) ∧ decode M.2.1 (pc + 6) = .ok (.invokespecial ic, 3) ∧ decode M.2.1 (pc + 9) = .ok (.athrow, 1) ∧ names.length ≤ 5
/-- the same, where E's constructor names its superclass's by an index of its own -/
def jw_tsX (M : jw_M) (pc : Nat) (E : String) : Prop := ∃ (names : List String) (ik is ic n : Nat) (text : String) (ix : Nat) (rx : ByteArray),
  Jvm.Bundle.fit E = true ∧ (∀ x ∈ names, Jvm.Bundle.fit x = true) ∧ Cond.classLink M.1.cls ik E ∈ jw_big ∧ Cond.initialized E ∈ jw_big ∧ (∀ w ∈ vx_atX M.1.cls ic E ix rx names, w ∈ jw_big ∨ w ∈ jw_nest) ∧ (∀ w ∈ Cond.classLink M.1.cls ik E :: Cond.initialized E :: vx_atX M.1.cls ic E ix rx names, vx_ot w = true) ∧
  jc_strs[n]? = some (M.1.cls, is, text) ∧ decode M.2.1 pc = .ok (.new ik, 3) ∧ decode M.2.1 (pc + 3) = .ok (.dup, 1) ∧ decode M.2.1 (pc + 4) = .ok (.ldc is, 2) ∧ decode M.2.1 (pc + 6) = .ok (.invokespecial ic, 3) ∧ decode M.2.1 (pc + 9) = .ok (.athrow, 1) ∧ names.length ≤ 5 ∧ decode rx 0 = .ok (.aload_n 0, 1) ∧ decode rx 1 = .ok (.aload_n 1, 1) ∧ decode rx 2 = .ok (.invokespecial ix, 3) ∧ decode rx 5 = .ok (.return_, 1)
/-- either -/
def jw_ts (M : jw_M) (pc : Nat) (E : String) : Prop := jw_ts0 M pc E ∨ jw_tsX M pc E
/-- the ends -/
def jw_Ex (g : jg_G) (M : jw_M) (R : Room) (p : Program) (e : Env) (s : State) (m : MethodId) (args : Array Value) (below : List Frame) (meth : Method) (c : Code) (Z : State → Prop) (Q : jw_O → jh_H → Prop) : Prop :=
  (∀ v h', Q (.inl v) h' → ∀ H locs cells slots pc arr, jh_P g h' H → va_S (jg_S g) s.heap H locs → cells ≤ R.cells → slots ≤ R.slots → jw_rt M pc v → W p (jg_l g) e R s m args below meth c H locs cells slots Z (F0 m pc arr (v.toList.map jv))) ∧
  (∀ E h', Q (.inr E) h' → (∀ H locs cells slots pc arr rest q ce, jh_P g h' H → va_S (jg_S g) s.heap H locs → cells ≤ R.cells → slots ≤ R.slots → H[q]? = some ce → ce.vm = .none → s.vm.findClass E = some ce.cls → (∀ x ∈ c.exceptionTable.toList, covers x pc = false) → vx_W p (jg_l g) e R s m args below meth c H locs cells slots Z (F0 m pc arr rest) q) ∧
    (∀ H locs cells slots pc arr rest, jh_P g h' H → va_S (jg_S g) s.heap H locs → arr.size = c.maxLocals → cells + 1 ≤ R.cells → slots + 6 ≤ R.slots → (rest.map fun v => v.category).sum ≤ 8 → jw_ts M pc E → (∀ x ∈ c.exceptionTable.toList, covers x (pc + 9) = false) → 10 ≤ R.frames → 200 ≤ R.locals → W p (jg_l g) e R s m args below meth c H locs cells slots Z (F0 m pc arr rest)))
def jw_J (g : jg_G) (d : Nat) (M : jw_M) (T : Code → Prop) (pc : Nat) (ls : List (Option jV)) (st : List jV) (h : jh_H) (kc ks : Nat) (Q : jw_O → jh_H → Prop) : Prop :=
  ∀ (p : Program) (e : Env) (s : State) (m : MethodId) (args : Array Value) (below : List Frame) (meth : Method) (c : Code) (R : Room) (Z : State → Prop) (H : Heap) (locs : List Loc) (cells slots : Nat) (arr : Array Slot),
    jw_At g M d R p s m args meth c → T c → jw_Ex g M R p e s m args below meth c Z Q → jh_P g h H → va_S (jg_S g) s.heap H locs → lo_has arr M.2.2.1 ls → cells + kc ≤ R.cells → slots + ks ≤ R.slots → W p (jg_l g) e R s m args below meth c H locs cells slots Z (F0 m pc arr (st.map jv))

section JWR
variable {g : jg_G} {d : Nat} {M : jw_M} {T : Code → Prop} {pc : Nat} {ls : List (Option jV)} {st : List jV} {h : jh_H} {kc ks : Nat} {Q : jw_O → jh_H → Prop}
theorem jw_iconst {n : Int} (hd : M.2.2.2.2 pc = some (.iconst n, 1)) (k : jw_J g d M T (pc + 1) ls (.inl (Int32.ofInt n) :: st) h kc ks Q) : jw_J g d M T pc ls st h kc ks Q := by
  intro p e s m args below meth c R Z H locs cells slots arr hA hT hE hP hS hl hc hs
  obtain ⟨hx, hb, hml, hown, hts, hr, hlk, hnm, hwd, hdf, hdl, hst, hok⟩ := id hA
  exact lv_iconst hx hb (hok _ _ hd) rfl (k p e s m args below meth c R Z H locs cells slots arr hA hT hE hP hS hl hc hs)
theorem jw_bipush {n : Int} (hd : M.2.2.2.2 pc = some (.bipush n, 2)) (k : jw_J g d M T (pc + 2) ls (.inl (Int8.ofInt n).toInt32 :: st) h kc ks Q) : jw_J g d M T pc ls st h kc ks Q := by
  intro p e s m args below meth c R Z H locs cells slots arr hA hT hE hP hS hl hc hs
  obtain ⟨hx, hb, hml, hown, hts, hr, hlk, hnm, hwd, hdf, hdl, hst, hok⟩ := id hA
  exact lv_bipush hx hb (hok _ _ hd) rfl (k p e s m args below meth c R Z H locs cells slots arr hA hT hE hP hS hl hc hs)
theorem jw_sipush {n : Int} (hd : M.2.2.2.2 pc = some (.sipush n, 3)) (k : jw_J g d M T (pc + 3) ls (.inl (Int16.ofInt n).toInt32 :: st) h kc ks Q) : jw_J g d M T pc ls st h kc ks Q := by
  intro p e s m args below meth c R Z H locs cells slots arr hA hT hE hP hS hl hc hs
  obtain ⟨hx, hb, hml, hown, hts, hr, hlk, hnm, hwd, hdf, hdl, hst, hok⟩ := id hA
  exact lv_sipush hx hb (hok _ _ hd) rfl (k p e s m args below meth c R Z H locs cells slots arr hA hT hE hP hS hl hc hs)
theorem jw_lconst {n : Fin 2} (hd : M.2.2.2.2 pc = some (.lconst n, 1)) (k : jw_J g d M T (pc + 1) ls (.inr (.inl (Int64.ofNat (n : Nat))) :: st) h kc ks Q) : jw_J g d M T pc ls st h kc ks Q := by
  intro p e s m args below meth c R Z H locs cells slots arr hA hT hE hP hS hl hc hs
  obtain ⟨hx, hb, hml, hown, hts, hr, hlk, hnm, hwd, hdf, hdl, hst, hok⟩ := id hA
  exact lv_lconst hx hb (hok _ _ hd) rfl (k p e s m args below meth c R Z H locs cells slots arr hA hT hE hP hS hl hc hs)
theorem jw_null (hd : M.2.2.2.2 pc = some (.aconst_null, 1)) (k : jw_J g d M T (pc + 1) ls (.inr (.inr none) :: st) h kc ks Q) : jw_J g d M T pc ls st h kc ks Q := by
  intro p e s m args below meth c R Z H locs cells slots arr hA hT hE hP hS hl hc hs
  obtain ⟨hx, hb, hml, hown, hts, hr, hlk, hnm, hwd, hdf, hdl, hst, hok⟩ := id hA
  exact lv_null hx hb (hok _ _ hd) (k p e s m args below meth c R Z H locs cells slots arr hA hT hE hP hS hl hc hs)
theorem jw_iload_n {k : Fin 4} {x : Int32} (hd : M.2.2.2.2 pc = some (.iload_n k, 1)) (hv : ls[(k : Nat)]? = some (some (.inl x))) (k : jw_J g d M T (pc + 1) ls (.inl x :: st) h kc ks Q) : jw_J g d M T pc ls st h kc ks Q := by
  intro p e s m args below meth c R Z H locs cells slots arr hA hT hE hP hS hl hc hs
  obtain ⟨hx, hb, hml, hown, hts, hr, hlk, hnm, hwd, hdf, hdl, hst, hok⟩ := id hA
  exact lv_iload_n hx hb (hok _ _ hd) rfl (hl.2.2 _ _ hv) (k p e s m args below meth c R Z H locs cells slots arr hA hT hE hP hS hl hc hs)
theorem jw_iload {i : Nat} {x : Int32} (hd : M.2.2.2.2 pc = some (.iload i, 2)) (hv : ls[i]? = some (some (.inl x))) (k : jw_J g d M T (pc + 2) ls (.inl x :: st) h kc ks Q) : jw_J g d M T pc ls st h kc ks Q := by
  intro p e s m args below meth c R Z H locs cells slots arr hA hT hE hP hS hl hc hs
  obtain ⟨hx, hb, hml, hown, hts, hr, hlk, hnm, hwd, hdf, hdl, hst, hok⟩ := id hA
  exact lv_iload hx hb (hok _ _ hd) (hl.2.2 _ _ hv) (k p e s m args below meth c R Z H locs cells slots arr hA hT hE hP hS hl hc hs)
theorem jw_lload_n {k : Fin 4} {x : Int64} (hd : M.2.2.2.2 pc = some (.lload_n k, 1)) (hv : ls[(k : Nat)]? = some (some (.inr (.inl x)))) (k : jw_J g d M T (pc + 1) ls (.inr (.inl x) :: st) h kc ks Q) : jw_J g d M T pc ls st h kc ks Q := by
  intro p e s m args below meth c R Z H locs cells slots arr hA hT hE hP hS hl hc hs
  obtain ⟨hx, hb, hml, hown, hts, hr, hlk, hnm, hwd, hdf, hdl, hst, hok⟩ := id hA
  exact lv_lload_n hx hb (hok _ _ hd) rfl (hl.2.2 _ _ hv) (k p e s m args below meth c R Z H locs cells slots arr hA hT hE hP hS hl hc hs)
theorem jw_lload {i : Nat} {x : Int64} (hd : M.2.2.2.2 pc = some (.lload i, 2)) (hv : ls[i]? = some (some (.inr (.inl x)))) (k : jw_J g d M T (pc + 2) ls (.inr (.inl x) :: st) h kc ks Q) : jw_J g d M T pc ls st h kc ks Q := by
  intro p e s m args below meth c R Z H locs cells slots arr hA hT hE hP hS hl hc hs
  obtain ⟨hx, hb, hml, hown, hts, hr, hlk, hnm, hwd, hdf, hdl, hst, hok⟩ := id hA
  exact lv_lload hx hb (hok _ _ hd) (hl.2.2 _ _ hv) (k p e s m args below meth c R Z H locs cells slots arr hA hT hE hP hS hl hc hs)
theorem jw_aload_n {k : Fin 4} {r : Option Nat} (hd : M.2.2.2.2 pc = some (.aload_n k, 1)) (hv : ls[(k : Nat)]? = some (some (.inr (.inr r)))) (k : jw_J g d M T (pc + 1) ls ((.inr (.inr r)) :: st) h kc ks Q) : jw_J g d M T pc ls st h kc ks Q := by
  intro p e s m args below meth c R Z H locs cells slots arr hA hT hE hP hS hl hc hs
  obtain ⟨hx, hb, hml, hown, hts, hr, hlk, hnm, hwd, hdf, hdl, hst, hok⟩ := id hA
  cases r with
  | none => exact lv_aload_nN hx hb (hok _ _ hd) rfl (hl.2.2 _ _ hv) (k p e s m args below meth c R Z H locs cells slots arr hA hT hE hP hS hl hc hs)
  | some x => exact lv_aload_n hx hb (hok _ _ hd) rfl (hl.2.2 _ _ hv) (k p e s m args below meth c R Z H locs cells slots arr hA hT hE hP hS hl hc hs)
theorem jw_aload {i : Nat} {r : Option Nat} (hd : M.2.2.2.2 pc = some (.aload i, 2)) (hv : ls[i]? = some (some (.inr (.inr r)))) (k : jw_J g d M T (pc + 2) ls ((.inr (.inr r)) :: st) h kc ks Q) : jw_J g d M T pc ls st h kc ks Q := by
  intro p e s m args below meth c R Z H locs cells slots arr hA hT hE hP hS hl hc hs
  obtain ⟨hx, hb, hml, hown, hts, hr, hlk, hnm, hwd, hdf, hdl, hst, hok⟩ := id hA
  cases r with
  | none => exact lv_aloadN hx hb (hok _ _ hd) (hl.2.2 _ _ hv) (k p e s m args below meth c R Z H locs cells slots arr hA hT hE hP hS hl hc hs)
  | some x => exact lv_aload hx hb (hok _ _ hd) (hl.2.2 _ _ hv) (k p e s m args below meth c R Z H locs cells slots arr hA hT hE hP hS hl hc hs)
theorem jv_cat (x : jV) : (jv x).category = jv_c x := by
  rcases x with x | x | r
  · rfl
  · rfl
  · cases r <;> rfl
/-- the locals as pairs -/
def lo_as (ls : List (Option jV)) : List (Nat × Value) := (List.range ls.length).filterMap (fun i => (ls[i]?).join.map (fun v => (i, jv v)))
theorem lo_as_mem {ls : List (Option jV)} {i : Nat} {w : Value} : (i, w) ∈ lo_as ls ↔ ∃ v, ls[i]? = some (some v) ∧ w = jv v := by
  simp only [lo_as, List.mem_filterMap, List.mem_range, Option.map_eq_some_iff, Option.join_eq_some_iff, Prod.mk.injEq]
  constructor
  · rintro ⟨j, -, w, h, rfl, rfl⟩; exact ⟨w, h, rfl⟩
  · rintro ⟨v, h, rfl⟩; exact ⟨i, (List.getElem?_eq_some_iff.mp h).1, v, h, rfl, rfl⟩
theorem lo_lv {arr : Array Slot} {nL : Nat} {ls : List (Option jV)} (h : lo_has arr nL ls) : lv_has arr nL (lo_as ls) := ⟨h.1, h.2.1, fun q hq => by
  obtain ⟨v, h1, h2⟩ := lo_as_mem.mp (show (q.1, q.2) ∈ lo_as ls from hq)
  rw [h2]; exact h.2.2 q.1 v h1⟩
/-- a value stored at i does no harm to a long just before it -/
def lo_c1 (ls : List (Option jV)) (i : Nat) : Prop := ∀ (j : Nat) (w : jV), j + 1 = i → ls[j]? = some (some w) → jv_c w = 1
theorem lo_st1 {arr' : Array Slot} {nL i : Nat} {v : jV} {ls : List (Option jV)} (hp : lo_c1 ls i) (h : lv_has arr' nL ((i, jv v) :: (lo_as ls).filter (fun q => !(q.1 == i) && !(q.1 + 1 == i && q.2.category == 2)))) : lo_has arr' nL (ls.set i (some v)) := by
  refine ⟨h.1, h.2.1, fun j w hw => ?_⟩
  by_cases e : i = j
  · subst e
    rw [List.getElem?_set_self'] at hw
    cases hz : ls[i]? with
    | none => rw [hz] at hw; cases hw
    | some z => rw [hz] at hw; simp at hw; subst hw; exact h.2.2 _ List.mem_cons_self
  · rw [List.getElem?_set_ne e] at hw
    refine h.2.2 (j, jv w) (List.mem_cons_of_mem _ (List.mem_filter.mpr ⟨lo_as_mem.mpr ⟨w, hw, rfl⟩, ?_⟩))
    have e3 : ¬ j = i := fun x => e x.symm
    by_cases e2 : j + 1 = i
    · have h1 := hp j w e2 hw
      simp [e3, jv_cat, h1]
    · simp [e2, e3]
theorem lo_st2 {arr' : Array Slot} {nL i : Nat} {v : jV} {ls : List (Option jV)} (hp : lo_c1 ls i) (h : lv_has arr' nL ((i, jv v) :: (lo_as ls).filter (fun q => !(q.1 == i) && (!(q.1 == i + 1) && !(q.1 + 1 == i && q.2.category == 2))))) : lo_has arr' nL ((ls.set (i + 1) none).set i (some v)) := by
  refine ⟨h.1, h.2.1, fun j w hw => ?_⟩
  by_cases e : i = j
  · subst e
    rw [List.getElem?_set_self'] at hw
    cases hz : (ls.set (i + 1) none)[i]? with
    | none => rw [hz] at hw; cases hw
    | some z => rw [hz] at hw; simp at hw; subst hw; exact h.2.2 _ List.mem_cons_self
  · rw [List.getElem?_set_ne e] at hw
    by_cases e1 : i + 1 = j
    · subst e1
      rw [List.getElem?_set_self'] at hw
      cases hz : ls[i + 1]? with
      | none => rw [hz] at hw; cases hw
      | some z => rw [hz] at hw; simp at hw
    rw [List.getElem?_set_ne e1] at hw
    refine h.2.2 (j, jv w) (List.mem_cons_of_mem _ (List.mem_filter.mpr ⟨lo_as_mem.mpr ⟨w, hw, rfl⟩, ?_⟩))
    have e3 : ¬ j = i := fun x => e x.symm
    have e4 : ¬ j = i + 1 := fun x => e1 x.symm
    by_cases e2 : j + 1 = i
    · have h1 := hp j w e2 hw
      simp [e3, e4, jv_cat, h1]
    · simp [e2, e3, e4]
theorem jw_istore_n {k : Fin 4} {x : Int32} (hd : M.2.2.2.2 pc = some (.istore_n k, 1)) (hp : lo_c1 ls (k : Nat)) (hn : (k : Nat) < M.2.2.1) (k : jw_J g d M T (pc + 1) (ls.set (k : Nat) (some (.inl x))) st h kc ks Q) : jw_J g d M T pc ls (.inl x :: st) h kc ks Q := by
  intro p e s m args below meth c R Z H locs cells slots arr hA hT hE hP hS hl hc hs
  obtain ⟨hx, hb, hml, hown, hts, hr, hlk, hnm, hwd, hdf, hdl, hst, hok⟩ := id hA
  exact lv_istore_n hx hb (hok _ _ hd) rfl (lo_lv hl) hn rfl (fun arr2 hl2 => k p e s m args below meth c R Z H locs cells slots arr2 hA hT hE hP hS (lo_st1 (v := .inl x) hp hl2) hc hs)
theorem jw_astore_n {k : Fin 4} {r : Option Nat} (hd : M.2.2.2.2 pc = some (.astore_n k, 1)) (hp : lo_c1 ls (k : Nat)) (hn : (k : Nat) < M.2.2.1) (k : jw_J g d M T (pc + 1) (ls.set (k : Nat) (some (.inr (.inr r)))) st h kc ks Q) : jw_J g d M T pc ls ((.inr (.inr r)) :: st) h kc ks Q := by
  intro p e s m args below meth c R Z H locs cells slots arr hA hT hE hP hS hl hc hs
  obtain ⟨hx, hb, hml, hown, hts, hr, hlk, hnm, hwd, hdf, hdl, hst, hok⟩ := id hA
  cases r with
  | none => exact lv_astore_nN hx hb (hok _ _ hd) rfl (lo_lv hl) hn rfl (fun arr2 hl2 => k p e s m args below meth c R Z H locs cells slots arr2 hA hT hE hP hS (lo_st1 (v := .inr (.inr none)) hp hl2) hc hs)
  | some x => exact lv_astore_n hx hb (hok _ _ hd) rfl (lo_lv hl) hn rfl (fun arr2 hl2 => k p e s m args below meth c R Z H locs cells slots arr2 hA hT hE hP hS (lo_st1 (v := .inr (.inr (some x))) hp hl2) hc hs)
theorem jw_lstore_n {k : Fin 4} {x : Int64} (hd : M.2.2.2.2 pc = some (.lstore_n k, 1)) (hp : lo_c1 ls (k : Nat)) (hn : (k : Nat) + 1 < M.2.2.1) (k : jw_J g d M T (pc + 1) ((ls.set ((k : Nat) + 1) none).set (k : Nat) (some (.inr (.inl x)))) st h kc ks Q) : jw_J g d M T pc ls (.inr (.inl x) :: st) h kc ks Q := by
  intro p e s m args below meth c R Z H locs cells slots arr hA hT hE hP hS hl hc hs
  obtain ⟨hx, hb, hml, hown, hts, hr, hlk, hnm, hwd, hdf, hdl, hst, hok⟩ := id hA
  exact lv_lstore_n hx hb (hok _ _ hd) rfl (lo_lv hl) hn rfl (fun arr2 hl2 => k p e s m args below meth c R Z H locs cells slots arr2 hA hT hE hP hS (lo_st2 (v := .inr (.inl x)) hp hl2) hc hs)
theorem jw_istore {i : Nat} {x : Int32} (hd : M.2.2.2.2 pc = some (.istore i, 2)) (hp : lo_c1 ls i) (hn : i < M.2.2.1) (k : jw_J g d M T (pc + 2) (ls.set i (some (.inl x))) st h kc ks Q) : jw_J g d M T pc ls (.inl x :: st) h kc ks Q := by
  intro p e s m args below meth c R Z H locs cells slots arr hA hT hE hP hS hl hc hs
  obtain ⟨hx, hb, hml, hown, hts, hr, hlk, hnm, hwd, hdf, hdl, hst, hok⟩ := id hA
  exact lv_istore hx hb (hok _ _ hd) (lo_lv hl) hn rfl (fun arr2 hl2 => k p e s m args below meth c R Z H locs cells slots arr2 hA hT hE hP hS (lo_st1 (v := .inl x) hp hl2) hc hs)
theorem jw_astore {i : Nat} {r : Option Nat} (hd : M.2.2.2.2 pc = some (.astore i, 2)) (hp : lo_c1 ls i) (hn : i < M.2.2.1) (k : jw_J g d M T (pc + 2) (ls.set i (some (.inr (.inr r)))) st h kc ks Q) : jw_J g d M T pc ls ((.inr (.inr r)) :: st) h kc ks Q := by
  intro p e s m args below meth c R Z H locs cells slots arr hA hT hE hP hS hl hc hs
  obtain ⟨hx, hb, hml, hown, hts, hr, hlk, hnm, hwd, hdf, hdl, hst, hok⟩ := id hA
  cases r with
  | none => exact lv_astoreN hx hb (hok _ _ hd) (lo_lv hl) hn rfl (fun arr2 hl2 => k p e s m args below meth c R Z H locs cells slots arr2 hA hT hE hP hS (lo_st1 (v := .inr (.inr none)) hp hl2) hc hs)
  | some x => exact lv_astore hx hb (hok _ _ hd) (lo_lv hl) hn rfl (fun arr2 hl2 => k p e s m args below meth c R Z H locs cells slots arr2 hA hT hE hP hS (lo_st1 (v := .inr (.inr (some x))) hp hl2) hc hs)
theorem jw_lstore {i : Nat} {x : Int64} (hd : M.2.2.2.2 pc = some (.lstore i, 2)) (hp : lo_c1 ls i) (hn : i + 1 < M.2.2.1) (k : jw_J g d M T (pc + 2) ((ls.set (i + 1) none).set i (some (.inr (.inl x)))) st h kc ks Q) : jw_J g d M T pc ls (.inr (.inl x) :: st) h kc ks Q := by
  intro p e s m args below meth c R Z H locs cells slots arr hA hT hE hP hS hl hc hs
  obtain ⟨hx, hb, hml, hown, hts, hr, hlk, hnm, hwd, hdf, hdl, hst, hok⟩ := id hA
  exact lv_lstore hx hb (hok _ _ hd) (lo_lv hl) hn rfl (fun arr2 hl2 => k p e s m args below meth c R Z H locs cells slots arr2 hA hT hE hP hS (lo_st2 (v := .inr (.inl x)) hp hl2) hc hs)
theorem jw_iinc {i : Nat} {n : Int} {x : Int32} (hd : M.2.2.2.2 pc = some (.iinc i n, 3)) (hv : ls[i]? = some (some (.inl x))) (hp : lo_c1 ls i) (hn : i < M.2.2.1) (k : jw_J g d M T (pc + 3) (ls.set i (some (.inl (x + Int32.ofInt n)))) st h kc ks Q) : jw_J g d M T pc ls st h kc ks Q := by
  intro p e s m args below meth c R Z H locs cells slots arr hA hT hE hP hS hl hc hs
  obtain ⟨hx, hb, hml, hown, hts, hr, hlk, hnm, hwd, hdf, hdl, hst, hok⟩ := id hA
  obtain ⟨j, hj⟩ := List.mem_iff_getElem?.mp (lo_as_mem.mpr ⟨_, hv, rfl⟩)
  exact lv_iinc hx hb (hok _ _ hd) (lo_lv hl) hj rfl hn rfl (fun arr2 hl2 => k p e s m args below meth c R Z H locs cells slots arr2 hA hT hE hP hS (lo_st1 (v := .inl (x + Int32.ofInt n)) hp hl2) hc hs)
theorem jw_iadd {x y : Int32} (hd : M.2.2.2.2 pc = some (.iadd, 1)) (k : jw_J g d M T (pc + 1) ls (.inl (x + y) :: st) h kc ks Q) : jw_J g d M T pc ls (.inl y :: .inl x :: st) h kc ks Q := by
  intro p e s m args below meth c R Z H locs cells slots arr hA hT hE hP hS hl hc hs
  obtain ⟨hx, hb, hml, hown, hts, hr, hlk, hnm, hwd, hdf, hdl, hst, hok⟩ := id hA
  exact lv_iadd hx hb (hok _ _ hd) (k p e s m args below meth c R Z H locs cells slots arr hA hT hE hP hS hl hc hs)
theorem jw_isub {x y : Int32} (hd : M.2.2.2.2 pc = some (.isub, 1)) (k : jw_J g d M T (pc + 1) ls (.inl (x - y) :: st) h kc ks Q) : jw_J g d M T pc ls (.inl y :: .inl x :: st) h kc ks Q := by
  intro p e s m args below meth c R Z H locs cells slots arr hA hT hE hP hS hl hc hs
  obtain ⟨hx, hb, hml, hown, hts, hr, hlk, hnm, hwd, hdf, hdl, hst, hok⟩ := id hA
  exact lv_isub hx hb (hok _ _ hd) (k p e s m args below meth c R Z H locs cells slots arr hA hT hE hP hS hl hc hs)
theorem jw_imul {x y : Int32} (hd : M.2.2.2.2 pc = some (.imul, 1)) (k : jw_J g d M T (pc + 1) ls (.inl (x * y) :: st) h kc ks Q) : jw_J g d M T pc ls (.inl y :: .inl x :: st) h kc ks Q := by
  intro p e s m args below meth c R Z H locs cells slots arr hA hT hE hP hS hl hc hs
  obtain ⟨hx, hb, hml, hown, hts, hr, hlk, hnm, hwd, hdf, hdl, hst, hok⟩ := id hA
  exact lv_imul hx hb (hok _ _ hd) (k p e s m args below meth c R Z H locs cells slots arr hA hT hE hP hS hl hc hs)
theorem jw_iand {x y : Int32} (hd : M.2.2.2.2 pc = some (.iand, 1)) (k : jw_J g d M T (pc + 1) ls (.inl (x &&& y) :: st) h kc ks Q) : jw_J g d M T pc ls (.inl y :: .inl x :: st) h kc ks Q := by
  intro p e s m args below meth c R Z H locs cells slots arr hA hT hE hP hS hl hc hs
  obtain ⟨hx, hb, hml, hown, hts, hr, hlk, hnm, hwd, hdf, hdl, hst, hok⟩ := id hA
  exact lv_iand hx hb (hok _ _ hd) (k p e s m args below meth c R Z H locs cells slots arr hA hT hE hP hS hl hc hs)
theorem jw_ior {x y : Int32} (hd : M.2.2.2.2 pc = some (.ior, 1)) (k : jw_J g d M T (pc + 1) ls (.inl (x ||| y) :: st) h kc ks Q) : jw_J g d M T pc ls (.inl y :: .inl x :: st) h kc ks Q := by
  intro p e s m args below meth c R Z H locs cells slots arr hA hT hE hP hS hl hc hs
  obtain ⟨hx, hb, hml, hown, hts, hr, hlk, hnm, hwd, hdf, hdl, hst, hok⟩ := id hA
  exact lv_ior hx hb (hok _ _ hd) (k p e s m args below meth c R Z H locs cells slots arr hA hT hE hP hS hl hc hs)
theorem jw_ixor {x y : Int32} (hd : M.2.2.2.2 pc = some (.ixor, 1)) (k : jw_J g d M T (pc + 1) ls (.inl (x ^^^ y) :: st) h kc ks Q) : jw_J g d M T pc ls (.inl y :: .inl x :: st) h kc ks Q := by
  intro p e s m args below meth c R Z H locs cells slots arr hA hT hE hP hS hl hc hs
  obtain ⟨hx, hb, hml, hown, hts, hr, hlk, hnm, hwd, hdf, hdl, hst, hok⟩ := id hA
  exact lv_ixor hx hb (hok _ _ hd) (k p e s m args below meth c R Z H locs cells slots arr hA hT hE hP hS hl hc hs)
theorem jw_idiv {x y : Int32} (hd : M.2.2.2.2 pc = some (.idiv, 1)) (hne : ¬ y = 0) (k : jw_J g d M T (pc + 1) ls (.inl (x / y) :: st) h kc ks Q) : jw_J g d M T pc ls (.inl y :: .inl x :: st) h kc ks Q := by
  intro p e s m args below meth c R Z H locs cells slots arr hA hT hE hP hS hl hc hs
  obtain ⟨hx, hb, hml, hown, hts, hr, hlk, hnm, hwd, hdf, hdl, hst, hok⟩ := id hA
  exact lv_idiv hx hb (hok _ _ hd) hne (k p e s m args below meth c R Z H locs cells slots arr hA hT hE hP hS hl hc hs)
theorem jw_irem {x y : Int32} (hd : M.2.2.2.2 pc = some (.irem, 1)) (hne : ¬ y = 0) (k : jw_J g d M T (pc + 1) ls (.inl (x - x / y * y) :: st) h kc ks Q) : jw_J g d M T pc ls (.inl y :: .inl x :: st) h kc ks Q := by
  intro p e s m args below meth c R Z H locs cells slots arr hA hT hE hP hS hl hc hs
  obtain ⟨hx, hb, hml, hown, hts, hr, hlk, hnm, hwd, hdf, hdl, hst, hok⟩ := id hA
  exact lv_irem hx hb (hok _ _ hd) hne (k p e s m args below meth c R Z H locs cells slots arr hA hT hE hP hS hl hc hs)
theorem jw_ineg {x : Int32} (hd : M.2.2.2.2 pc = some (.ineg, 1)) (k : jw_J g d M T (pc + 1) ls (.inl (-x) :: st) h kc ks Q) : jw_J g d M T pc ls (.inl x :: st) h kc ks Q := by
  intro p e s m args below meth c R Z H locs cells slots arr hA hT hE hP hS hl hc hs
  obtain ⟨hx, hb, hml, hown, hts, hr, hlk, hnm, hwd, hdf, hdl, hst, hok⟩ := id hA
  exact lv_ineg hx hb (hok _ _ hd) (k p e s m args below meth c R Z H locs cells slots arr hA hT hE hP hS hl hc hs)
theorem jw_ladd {x y : Int64} (hd : M.2.2.2.2 pc = some (.ladd, 1)) (k : jw_J g d M T (pc + 1) ls (.inr (.inl (x + y)) :: st) h kc ks Q) : jw_J g d M T pc ls (.inr (.inl y) :: .inr (.inl x) :: st) h kc ks Q := by
  intro p e s m args below meth c R Z H locs cells slots arr hA hT hE hP hS hl hc hs
  obtain ⟨hx, hb, hml, hown, hts, hr, hlk, hnm, hwd, hdf, hdl, hst, hok⟩ := id hA
  exact lv_ladd hx hb (hok _ _ hd) (k p e s m args below meth c R Z H locs cells slots arr hA hT hE hP hS hl hc hs)
theorem jw_lsub {x y : Int64} (hd : M.2.2.2.2 pc = some (.lsub, 1)) (k : jw_J g d M T (pc + 1) ls (.inr (.inl (x - y)) :: st) h kc ks Q) : jw_J g d M T pc ls (.inr (.inl y) :: .inr (.inl x) :: st) h kc ks Q := by
  intro p e s m args below meth c R Z H locs cells slots arr hA hT hE hP hS hl hc hs
  obtain ⟨hx, hb, hml, hown, hts, hr, hlk, hnm, hwd, hdf, hdl, hst, hok⟩ := id hA
  exact lv_lsub hx hb (hok _ _ hd) (k p e s m args below meth c R Z H locs cells slots arr hA hT hE hP hS hl hc hs)
theorem jw_lmul {x y : Int64} (hd : M.2.2.2.2 pc = some (.lmul, 1)) (k : jw_J g d M T (pc + 1) ls (.inr (.inl (x * y)) :: st) h kc ks Q) : jw_J g d M T pc ls (.inr (.inl y) :: .inr (.inl x) :: st) h kc ks Q := by
  intro p e s m args below meth c R Z H locs cells slots arr hA hT hE hP hS hl hc hs
  obtain ⟨hx, hb, hml, hown, hts, hr, hlk, hnm, hwd, hdf, hdl, hst, hok⟩ := id hA
  exact lv_lmul hx hb (hok _ _ hd) (k p e s m args below meth c R Z H locs cells slots arr hA hT hE hP hS hl hc hs)
theorem jw_i2c {x : Int32} (hd : M.2.2.2.2 pc = some (.i2c, 1)) (k : jw_J g d M T (pc + 1) ls (.inl (x.toUInt32 % 65536).toInt32 :: st) h kc ks Q) : jw_J g d M T pc ls (.inl x :: st) h kc ks Q := by
  intro p e s m args below meth c R Z H locs cells slots arr hA hT hE hP hS hl hc hs
  obtain ⟨hx, hb, hml, hown, hts, hr, hlk, hnm, hwd, hdf, hdl, hst, hok⟩ := id hA
  exact lv_i2c hx hb (hok _ _ hd) rfl (k p e s m args below meth c R Z H locs cells slots arr hA hT hE hP hS hl hc hs)
theorem jw_i2l {x : Int32} (hd : M.2.2.2.2 pc = some (.i2l, 1)) (k : jw_J g d M T (pc + 1) ls (.inr (.inl x.toInt64) :: st) h kc ks Q) : jw_J g d M T pc ls (.inl x :: st) h kc ks Q := by
  intro p e s m args below meth c R Z H locs cells slots arr hA hT hE hP hS hl hc hs
  obtain ⟨hx, hb, hml, hown, hts, hr, hlk, hnm, hwd, hdf, hdl, hst, hok⟩ := id hA
  exact lv_i2l hx hb (hok _ _ hd) rfl (k p e s m args below meth c R Z H locs cells slots arr hA hT hE hP hS hl hc hs)
theorem jw_l2i {x : Int64} (hd : M.2.2.2.2 pc = some (.l2i, 1)) (k : jw_J g d M T (pc + 1) ls (.inl x.toInt32 :: st) h kc ks Q) : jw_J g d M T pc ls (.inr (.inl x) :: st) h kc ks Q := by
  intro p e s m args below meth c R Z H locs cells slots arr hA hT hE hP hS hl hc hs
  obtain ⟨hx, hb, hml, hown, hts, hr, hlk, hnm, hwd, hdf, hdl, hst, hok⟩ := id hA
  exact lv_l2i hx hb (hok _ _ hd) rfl (k p e s m args below meth c R Z H locs cells slots arr hA hT hE hP hS hl hc hs)
theorem jw_lcmp {x y : Int64} (hd : M.2.2.2.2 pc = some (.lcmp, 1)) (k : jw_J g d M T (pc + 1) ls (.inl (lg_cmp x y) :: st) h kc ks Q) : jw_J g d M T pc ls (.inr (.inl y) :: .inr (.inl x) :: st) h kc ks Q := by
  intro p e s m args below meth c R Z H locs cells slots arr hA hT hE hP hS hl hc hs
  obtain ⟨hx, hb, hml, hown, hts, hr, hlk, hnm, hwd, hdf, hdl, hst, hok⟩ := id hA
  exact W.lcmp hx hb (hok _ _ hd) (k p e s m args below meth c R Z H locs cells slots arr hA hT hE hP hS hl hc hs)
theorem jw_dup {v : jV} (hd : M.2.2.2.2 pc = some (.dup, 1)) (hv : jv_c v = 1) (k : jw_J g d M T (pc + 1) ls (v :: v :: st) h kc ks Q) : jw_J g d M T pc ls (v :: st) h kc ks Q := by
  intro p e s m args below meth c R Z H locs cells slots arr hA hT hE hP hS hl hc hs
  obtain ⟨hx, hb, hml, hown, hts, hr, hlk, hnm, hwd, hdf, hdl, hst, hok⟩ := id hA
  exact lv_dup hx hb (hok _ _ hd) ((jv_cat v).trans hv) (k p e s m args below meth c R Z H locs cells slots arr hA hT hE hP hS hl hc hs)
theorem jw_pop {v : jV} (hd : M.2.2.2.2 pc = some (.pop, 1)) (hv : jv_c v = 1) (k : jw_J g d M T (pc + 1) ls st h kc ks Q) : jw_J g d M T pc ls (v :: st) h kc ks Q := by
  intro p e s m args below meth c R Z H locs cells slots arr hA hT hE hP hS hl hc hs
  obtain ⟨hx, hb, hml, hown, hts, hr, hlk, hnm, hwd, hdf, hdl, hst, hok⟩ := id hA
  exact lv_pop hx hb (hok _ _ hd) ((jv_cat v).trans hv) (k p e s m args below meth c R Z H locs cells slots arr hA hT hE hP hS hl hc hs)
theorem jw_dup_x1 {v w : jV} (hd : M.2.2.2.2 pc = some (.dup_x1, 1)) (hv : jv_c v = 1) (hw : jv_c w = 1) (k : jw_J g d M T (pc + 1) ls (v :: w :: v :: st) h kc ks Q) : jw_J g d M T pc ls (v :: w :: st) h kc ks Q := by
  intro p e s m args below meth c R Z H locs cells slots arr hA hT hE hP hS hl hc hs
  obtain ⟨hx, hb, hml, hown, hts, hr, hlk, hnm, hwd, hdf, hdl, hst, hok⟩ := id hA
  exact lv_dup_x1 hx hb (hok _ _ hd) ((jv_cat v).trans hv) ((jv_cat w).trans hw) (k p e s m args below meth c R Z H locs cells slots arr hA hT hE hP hS hl hc hs)
theorem jw_dup2 {v w : jV} (hd : M.2.2.2.2 pc = some (.dup2, 1)) (hv : jv_c v = 1) (hw : jv_c w = 1) (k : jw_J g d M T (pc + 1) ls (v :: w :: v :: w :: st) h kc ks Q) : jw_J g d M T pc ls (v :: w :: st) h kc ks Q := by
  intro p e s m args below meth c R Z H locs cells slots arr hA hT hE hP hS hl hc hs
  obtain ⟨hx, hb, hml, hown, hts, hr, hlk, hnm, hwd, hdf, hdl, hst, hok⟩ := id hA
  exact lv_dup2_11 hx hb (hok _ _ hd) ((jv_cat v).trans hv) ((jv_cat w).trans hw) (k p e s m args below meth c R Z H locs cells slots arr hA hT hE hP hS hl hc hs)
theorem jw_if_eq {x : Int32} {off : Int} (tgt : Nat) (hd : M.2.2.2.2 pc = some (.ifCond .eq off, 3)) (ht : (pc : Int) + off = (tgt : Int)) (kt : x = 0 → jw_J g d M T tgt ls st h kc ks Q) (kf : ¬ (x = 0) → jw_J g d M T (pc + 3) ls st h kc ks Q) : jw_J g d M T pc ls (.inl x :: st) h kc ks Q := by
  intro p e s m args below meth c R Z H locs cells slots arr hA hT hE hP hS hl hc hs
  obtain ⟨hx, hb, hml, hown, hts, hr, hlk, hnm, hwd, hdf, hdl, hst, hok⟩ := id hA
  exact lv_if_eq hx hb (hok _ _ hd) ht (fun w => kt w p e s m args below meth c R Z H locs cells slots arr hA hT hE hP hS hl hc hs) (fun w => kf w p e s m args below meth c R Z H locs cells slots arr hA hT hE hP hS hl hc hs)
theorem jw_if_ne {x : Int32} {off : Int} (tgt : Nat) (hd : M.2.2.2.2 pc = some (.ifCond .ne off, 3)) (ht : (pc : Int) + off = (tgt : Int)) (kt : ¬ x = 0 → jw_J g d M T tgt ls st h kc ks Q) (kf : x = 0 → jw_J g d M T (pc + 3) ls st h kc ks Q) : jw_J g d M T pc ls (.inl x :: st) h kc ks Q := by
  intro p e s m args below meth c R Z H locs cells slots arr hA hT hE hP hS hl hc hs
  obtain ⟨hx, hb, hml, hown, hts, hr, hlk, hnm, hwd, hdf, hdl, hst, hok⟩ := id hA
  exact lv_if_ne hx hb (hok _ _ hd) ht (fun w => kt w p e s m args below meth c R Z H locs cells slots arr hA hT hE hP hS hl hc hs) (fun w => kf w p e s m args below meth c R Z H locs cells slots arr hA hT hE hP hS hl hc hs)
theorem jw_if_lt {x : Int32} {off : Int} (tgt : Nat) (hd : M.2.2.2.2 pc = some (.ifCond .lt off, 3)) (ht : (pc : Int) + off = (tgt : Int)) (kt : x < 0 → jw_J g d M T tgt ls st h kc ks Q) (kf : ¬ (x < 0) → jw_J g d M T (pc + 3) ls st h kc ks Q) : jw_J g d M T pc ls (.inl x :: st) h kc ks Q := by
  intro p e s m args below meth c R Z H locs cells slots arr hA hT hE hP hS hl hc hs
  obtain ⟨hx, hb, hml, hown, hts, hr, hlk, hnm, hwd, hdf, hdl, hst, hok⟩ := id hA
  exact lv_if_lt hx hb (hok _ _ hd) ht (fun w => kt w p e s m args below meth c R Z H locs cells slots arr hA hT hE hP hS hl hc hs) (fun w => kf w p e s m args below meth c R Z H locs cells slots arr hA hT hE hP hS hl hc hs)
theorem jw_if_ge {x : Int32} {off : Int} (tgt : Nat) (hd : M.2.2.2.2 pc = some (.ifCond .ge off, 3)) (ht : (pc : Int) + off = (tgt : Int)) (kt : 0 ≤ x → jw_J g d M T tgt ls st h kc ks Q) (kf : ¬ (0 ≤ x) → jw_J g d M T (pc + 3) ls st h kc ks Q) : jw_J g d M T pc ls (.inl x :: st) h kc ks Q := by
  intro p e s m args below meth c R Z H locs cells slots arr hA hT hE hP hS hl hc hs
  obtain ⟨hx, hb, hml, hown, hts, hr, hlk, hnm, hwd, hdf, hdl, hst, hok⟩ := id hA
  exact lv_if_ge hx hb (hok _ _ hd) ht (fun w => kt w p e s m args below meth c R Z H locs cells slots arr hA hT hE hP hS hl hc hs) (fun w => kf w p e s m args below meth c R Z H locs cells slots arr hA hT hE hP hS hl hc hs)
theorem jw_if_gt {x : Int32} {off : Int} (tgt : Nat) (hd : M.2.2.2.2 pc = some (.ifCond .gt off, 3)) (ht : (pc : Int) + off = (tgt : Int)) (kt : 0 < x → jw_J g d M T tgt ls st h kc ks Q) (kf : ¬ (0 < x) → jw_J g d M T (pc + 3) ls st h kc ks Q) : jw_J g d M T pc ls (.inl x :: st) h kc ks Q := by
  intro p e s m args below meth c R Z H locs cells slots arr hA hT hE hP hS hl hc hs
  obtain ⟨hx, hb, hml, hown, hts, hr, hlk, hnm, hwd, hdf, hdl, hst, hok⟩ := id hA
  exact lv_if_gt hx hb (hok _ _ hd) ht (fun w => kt w p e s m args below meth c R Z H locs cells slots arr hA hT hE hP hS hl hc hs) (fun w => kf w p e s m args below meth c R Z H locs cells slots arr hA hT hE hP hS hl hc hs)
theorem jw_if_le {x : Int32} {off : Int} (tgt : Nat) (hd : M.2.2.2.2 pc = some (.ifCond .le off, 3)) (ht : (pc : Int) + off = (tgt : Int)) (kt : x ≤ 0 → jw_J g d M T tgt ls st h kc ks Q) (kf : ¬ (x ≤ 0) → jw_J g d M T (pc + 3) ls st h kc ks Q) : jw_J g d M T pc ls (.inl x :: st) h kc ks Q := by
  intro p e s m args below meth c R Z H locs cells slots arr hA hT hE hP hS hl hc hs
  obtain ⟨hx, hb, hml, hown, hts, hr, hlk, hnm, hwd, hdf, hdl, hst, hok⟩ := id hA
  exact lv_if_le hx hb (hok _ _ hd) ht (fun w => kt w p e s m args below meth c R Z H locs cells slots arr hA hT hE hP hS hl hc hs) (fun w => kf w p e s m args below meth c R Z H locs cells slots arr hA hT hE hP hS hl hc hs)
theorem jw_icmp_eq {x y : Int32} {off : Int} (tgt : Nat) (hd : M.2.2.2.2 pc = some (.if_icmp .eq off, 3)) (ht : (pc : Int) + off = (tgt : Int)) (kt : x = y → jw_J g d M T tgt ls st h kc ks Q) (kf : ¬ (x = y) → jw_J g d M T (pc + 3) ls st h kc ks Q) : jw_J g d M T pc ls (.inl y :: .inl x :: st) h kc ks Q := by
  intro p e s m args below meth c R Z H locs cells slots arr hA hT hE hP hS hl hc hs
  obtain ⟨hx, hb, hml, hown, hts, hr, hlk, hnm, hwd, hdf, hdl, hst, hok⟩ := id hA
  exact lv_icmp_eq hx hb (hok _ _ hd) ht (fun w => kt w p e s m args below meth c R Z H locs cells slots arr hA hT hE hP hS hl hc hs) (fun w => kf w p e s m args below meth c R Z H locs cells slots arr hA hT hE hP hS hl hc hs)
theorem jw_icmp_ne {x y : Int32} {off : Int} (tgt : Nat) (hd : M.2.2.2.2 pc = some (.if_icmp .ne off, 3)) (ht : (pc : Int) + off = (tgt : Int)) (kt : ¬ x = y → jw_J g d M T tgt ls st h kc ks Q) (kf : x = y → jw_J g d M T (pc + 3) ls st h kc ks Q) : jw_J g d M T pc ls (.inl y :: .inl x :: st) h kc ks Q := by
  intro p e s m args below meth c R Z H locs cells slots arr hA hT hE hP hS hl hc hs
  obtain ⟨hx, hb, hml, hown, hts, hr, hlk, hnm, hwd, hdf, hdl, hst, hok⟩ := id hA
  exact lv_icmp_ne hx hb (hok _ _ hd) ht (fun w => kt w p e s m args below meth c R Z H locs cells slots arr hA hT hE hP hS hl hc hs) (fun w => kf w p e s m args below meth c R Z H locs cells slots arr hA hT hE hP hS hl hc hs)
theorem jw_icmp_lt {x y : Int32} {off : Int} (tgt : Nat) (hd : M.2.2.2.2 pc = some (.if_icmp .lt off, 3)) (ht : (pc : Int) + off = (tgt : Int)) (kt : x < y → jw_J g d M T tgt ls st h kc ks Q) (kf : ¬ (x < y) → jw_J g d M T (pc + 3) ls st h kc ks Q) : jw_J g d M T pc ls (.inl y :: .inl x :: st) h kc ks Q := by
  intro p e s m args below meth c R Z H locs cells slots arr hA hT hE hP hS hl hc hs
  obtain ⟨hx, hb, hml, hown, hts, hr, hlk, hnm, hwd, hdf, hdl, hst, hok⟩ := id hA
  exact lv_icmp_lt hx hb (hok _ _ hd) ht (fun w => kt w p e s m args below meth c R Z H locs cells slots arr hA hT hE hP hS hl hc hs) (fun w => kf w p e s m args below meth c R Z H locs cells slots arr hA hT hE hP hS hl hc hs)
theorem jw_icmp_ge {x y : Int32} {off : Int} (tgt : Nat) (hd : M.2.2.2.2 pc = some (.if_icmp .ge off, 3)) (ht : (pc : Int) + off = (tgt : Int)) (kt : y ≤ x → jw_J g d M T tgt ls st h kc ks Q) (kf : ¬ (y ≤ x) → jw_J g d M T (pc + 3) ls st h kc ks Q) : jw_J g d M T pc ls (.inl y :: .inl x :: st) h kc ks Q := by
  intro p e s m args below meth c R Z H locs cells slots arr hA hT hE hP hS hl hc hs
  obtain ⟨hx, hb, hml, hown, hts, hr, hlk, hnm, hwd, hdf, hdl, hst, hok⟩ := id hA
  exact lv_icmp_ge hx hb (hok _ _ hd) ht (fun w => kt w p e s m args below meth c R Z H locs cells slots arr hA hT hE hP hS hl hc hs) (fun w => kf w p e s m args below meth c R Z H locs cells slots arr hA hT hE hP hS hl hc hs)
theorem jw_icmp_gt {x y : Int32} {off : Int} (tgt : Nat) (hd : M.2.2.2.2 pc = some (.if_icmp .gt off, 3)) (ht : (pc : Int) + off = (tgt : Int)) (kt : y < x → jw_J g d M T tgt ls st h kc ks Q) (kf : ¬ (y < x) → jw_J g d M T (pc + 3) ls st h kc ks Q) : jw_J g d M T pc ls (.inl y :: .inl x :: st) h kc ks Q := by
  intro p e s m args below meth c R Z H locs cells slots arr hA hT hE hP hS hl hc hs
  obtain ⟨hx, hb, hml, hown, hts, hr, hlk, hnm, hwd, hdf, hdl, hst, hok⟩ := id hA
  exact lv_icmp_gt hx hb (hok _ _ hd) ht (fun w => kt w p e s m args below meth c R Z H locs cells slots arr hA hT hE hP hS hl hc hs) (fun w => kf w p e s m args below meth c R Z H locs cells slots arr hA hT hE hP hS hl hc hs)
theorem jw_icmp_le {x y : Int32} {off : Int} (tgt : Nat) (hd : M.2.2.2.2 pc = some (.if_icmp .le off, 3)) (ht : (pc : Int) + off = (tgt : Int)) (kt : x ≤ y → jw_J g d M T tgt ls st h kc ks Q) (kf : ¬ (x ≤ y) → jw_J g d M T (pc + 3) ls st h kc ks Q) : jw_J g d M T pc ls (.inl y :: .inl x :: st) h kc ks Q := by
  intro p e s m args below meth c R Z H locs cells slots arr hA hT hE hP hS hl hc hs
  obtain ⟨hx, hb, hml, hown, hts, hr, hlk, hnm, hwd, hdf, hdl, hst, hok⟩ := id hA
  exact lv_icmp_le hx hb (hok _ _ hd) ht (fun w => kt w p e s m args below meth c R Z H locs cells slots arr hA hT hE hP hS hl hc hs) (fun w => kf w p e s m args below meth c R Z H locs cells slots arr hA hT hE hP hS hl hc hs)
theorem jw_acmp_eq {r q : Option Nat} {off : Int} (tgt : Nat) (hd : M.2.2.2.2 pc = some (.if_acmp .eq off, 3)) (ht : (pc : Int) + off = (tgt : Int)) (kt : r = q → jw_J g d M T tgt ls st h kc ks Q) (kf : ¬ (r = q) → jw_J g d M T (pc + 3) ls st h kc ks Q) : jw_J g d M T pc ls (.inr (.inr q) :: .inr (.inr r) :: st) h kc ks Q := by
  intro p e s m args below meth c R Z H locs cells slots arr hA hT hE hP hS hl hc hs
  obtain ⟨hx, hb, hml, hown, hts, hr, hlk, hnm, hwd, hdf, hdl, hst, hok⟩ := id hA
  exact lv_acmp_eq hx hb (hok _ _ hd) ht (fun w => kt w p e s m args below meth c R Z H locs cells slots arr hA hT hE hP hS hl hc hs) (fun w => kf w p e s m args below meth c R Z H locs cells slots arr hA hT hE hP hS hl hc hs)
theorem jw_acmp_ne {r q : Option Nat} {off : Int} (tgt : Nat) (hd : M.2.2.2.2 pc = some (.if_acmp .ne off, 3)) (ht : (pc : Int) + off = (tgt : Int)) (kt : ¬ r = q → jw_J g d M T tgt ls st h kc ks Q) (kf : r = q → jw_J g d M T (pc + 3) ls st h kc ks Q) : jw_J g d M T pc ls (.inr (.inr q) :: .inr (.inr r) :: st) h kc ks Q := by
  intro p e s m args below meth c R Z H locs cells slots arr hA hT hE hP hS hl hc hs
  obtain ⟨hx, hb, hml, hown, hts, hr, hlk, hnm, hwd, hdf, hdl, hst, hok⟩ := id hA
  exact lv_acmp_ne hx hb (hok _ _ hd) ht (fun w => kt w p e s m args below meth c R Z H locs cells slots arr hA hT hE hP hS hl hc hs) (fun w => kf w p e s m args below meth c R Z H locs cells slots arr hA hT hE hP hS hl hc hs)
theorem jw_goto {off : Int} (tgt : Nat) (hd : M.2.2.2.2 pc = some (.goto off, 3)) (ht : (pc : Int) + off = (tgt : Int)) (k : jw_J g d M T tgt ls st h kc ks Q) : jw_J g d M T pc ls st h kc ks Q := by
  intro p e s m args below meth c R Z H locs cells slots arr hA hT hE hP hS hl hc hs
  obtain ⟨hx, hb, hml, hown, hts, hr, hlk, hnm, hwd, hdf, hdl, hst, hok⟩ := id hA
  exact lv_goto hx hb (hok _ _ hd) ht (k p e s m args below meth c R Z H locs cells slots arr hA hT hE hP hS hl hc hs)
theorem jw_ifnull {r : Option Nat} {off : Int} (tgt : Nat) (hd : M.2.2.2.2 pc = some (.ifnull off, 3)) (ht : (pc : Int) + off = (tgt : Int)) (kn : r = none → jw_J g d M T tgt ls st h kc ks Q) (kz : ∀ x, r = some x → jw_J g d M T (pc + 3) ls st h kc ks Q) : jw_J g d M T pc ls ((.inr (.inr r)) :: st) h kc ks Q := by
  intro p e s m args below meth c R Z H locs cells slots arr hA hT hE hP hS hl hc hs
  obtain ⟨hx, hb, hml, hown, hts, hr, hlk, hnm, hwd, hdf, hdl, hst, hok⟩ := id hA
  cases r with
  | none => exact lv_ifnullN hx hb (hok _ _ hd) ht (kn rfl p e s m args below meth c R Z H locs cells slots arr hA hT hE hP hS hl hc hs)
  | some x => exact lv_ifnull hx hb (hok _ _ hd) (kz x rfl p e s m args below meth c R Z H locs cells slots arr hA hT hE hP hS hl hc hs)
theorem jw_ifnonnull {r : Option Nat} {off : Int} (tgt : Nat) (hd : M.2.2.2.2 pc = some (.ifnonnull off, 3)) (ht : (pc : Int) + off = (tgt : Int)) (kn : r = none → jw_J g d M T (pc + 3) ls st h kc ks Q) (kz : ∀ x, r = some x → jw_J g d M T tgt ls st h kc ks Q) : jw_J g d M T pc ls ((.inr (.inr r)) :: st) h kc ks Q := by
  intro p e s m args below meth c R Z H locs cells slots arr hA hT hE hP hS hl hc hs
  obtain ⟨hx, hb, hml, hown, hts, hr, hlk, hnm, hwd, hdf, hdl, hst, hok⟩ := id hA
  cases r with
  | none => exact lv_ifnonnullN hx hb (hok _ _ hd) (kn rfl p e s m args below meth c R Z H locs cells slots arr hA hT hE hP hS hl hc hs)
  | some x => exact lv_ifnonnull hx hb (hok _ _ hd) ht (kz x rfl p e s m args below meth c R Z H locs cells slots arr hA hT hE hP hS hl hc hs)
theorem jw_tableIn {dflt lo hi : Int} {offs : Array Int} {len : Nat} {x : Int32} {off : Int} (tgt : Nat) (hd : M.2.2.2.2 pc = some (.tableswitch dflt lo hi offs, len)) (h1 : ¬ x.toInt < lo) (h2 : ¬ hi < x.toInt) (ho : offs[(x.toInt - lo).toNat]? = some off) (ht : (pc : Int) + off = (tgt : Int)) (k : jw_J g d M T tgt ls st h kc ks Q) : jw_J g d M T pc ls (.inl x :: st) h kc ks Q := by
  intro p e s m args below meth c R Z H locs cells slots arr hA hT hE hP hS hl hc hs
  obtain ⟨hx, hb, hml, hown, hts, hr, hlk, hnm, hwd, hdf, hdl, hst, hok⟩ := id hA
  exact lv_tableIn hx hb (hok _ _ hd) h1 h2 ho ht (k p e s m args below meth c R Z H locs cells slots arr hA hT hE hP hS hl hc hs)
theorem jw_tableOut {dflt lo hi : Int} {offs : Array Int} {len : Nat} {x : Int32} (tgt : Nat) (hd : M.2.2.2.2 pc = some (.tableswitch dflt lo hi offs, len)) (h1 : x.toInt < lo ∨ hi < x.toInt) (ht : (pc : Int) + dflt = (tgt : Int)) (k : jw_J g d M T tgt ls st h kc ks Q) : jw_J g d M T pc ls (.inl x :: st) h kc ks Q := by
  intro p e s m args below meth c R Z H locs cells slots arr hA hT hE hP hS hl hc hs
  obtain ⟨hx, hb, hml, hown, hts, hr, hlk, hnm, hwd, hdf, hdl, hst, hok⟩ := id hA
  exact lv_tableOut hx hb (hok _ _ hd) h1 ht (k p e s m args below meth c R Z H locs cells slots arr hA hT hE hP hS hl hc hs)
theorem jw_less {ls' : List (Option jV)} (hw : ∀ (i : Nat) (v : jV), ls'[i]? = some (some v) → ls[i]? = some (some v)) (k : jw_J g d M T pc ls' st h kc ks Q) : jw_J g d M T pc ls st h kc ks Q := by
  intro p e s m args below meth c R Z H locs cells slots arr hA hT hE hP hS hl hc hs
  exact k p e s m args below meth c R Z H locs cells slots arr hA hT hE hP hS ⟨hl.1, hl.2.1, fun i v q => hl.2.2 i v (hw i v q)⟩ hc hs
theorem jw_room {kc' ks' : Nat} (h1 : kc' ≤ kc) (h2 : ks' ≤ ks) (k : jw_J g d M T pc ls st h kc' ks' Q) : jw_J g d M T pc ls st h kc ks Q := by
  intro p e s m args below meth c R Z H locs cells slots arr hA hT hE hP hS hl hc hs
  exact k p e s m args below meth c R Z H locs cells slots arr hA hT hE hP hS hl (by omega) (by omega)
theorem jw_post {Q' : jw_O → jh_H → Prop} (hq : ∀ o h', Q' o h' → Q o h') (k : jw_J g d M T pc ls st h kc ks Q') : jw_J g d M T pc ls st h kc ks Q := by
  intro p e s m args below meth c R Z H locs cells slots arr hA hT hE hP hS hl hc hs
  exact k p e s m args below meth c R Z H locs cells slots arr hA hT ⟨fun v h' q => hE.1 v h' (hq _ _ q), fun E h' q => hE.2 E h' (hq _ _ q)⟩ hP hS hl hc hs
theorem jw_ireturn {x : Int32} (hd : M.2.2.2.2 pc = some (.ireturn, 1)) {ty : FieldType} (hr : M.2.2.2.1 = some ty) (hn : narrow ty (.int x) = .int x) (hq : Q (.inl (some (.inl x))) h) : jw_J g d M T pc ls [.inl x] h kc ks Q := by
  intro p e s m args below meth c R Z H locs cells slots arr hA hT hE hP hS hl hc hs
  obtain ⟨hx, hb, hml, hown, hts, -, hlk, hnm, hwd, hdf, hdl, hst, hok⟩ := id hA
  exact hE.1 _ _ hq H locs cells slots pc arr hP hS (by omega) (by omega) (Or.inl ⟨x, rfl, hok _ _ hd, ty, hr, hn⟩)
theorem jw_lreturn {x : Int64} (hd : M.2.2.2.2 pc = some (.lreturn, 1)) (hr : M.2.2.2.1 = some .long) (hq : Q (.inl (some (.inr (.inl x)))) h) : jw_J g d M T pc ls [.inr (.inl x)] h kc ks Q := by
  intro p e s m args below meth c R Z H locs cells slots arr hA hT hE hP hS hl hc hs
  obtain ⟨hx, hb, hml, hown, hts, -, hlk, hnm, hwd, hdf, hdl, hst, hok⟩ := id hA
  exact hE.1 _ _ hq H locs cells slots pc arr hP hS (by omega) (by omega) (Or.inr (Or.inl ⟨x, rfl, hok _ _ hd, hr⟩))
theorem jw_areturn {r : Option Nat} (hd : M.2.2.2.2 pc = some (.areturn, 1)) {ty : FieldType} (hr : M.2.2.2.1 = some ty) (hty : (∃ n, ty = .object n) ∨ ∃ t, ty = .array t) (hq : Q (.inl (some (.inr (.inr r)))) h) : jw_J g d M T pc ls [.inr (.inr r)] h kc ks Q := by
  intro p e s m args below meth c R Z H locs cells slots arr hA hT hE hP hS hl hc hs
  obtain ⟨hx, hb, hml, hown, hts, -, hlk, hnm, hwd, hdf, hdl, hst, hok⟩ := id hA
  exact hE.1 _ _ hq H locs cells slots pc arr hP hS (by omega) (by omega) (Or.inr (Or.inr (Or.inl ⟨r, rfl, hok _ _ hd, ty, hr, hty⟩)))
theorem jw_return (hd : M.2.2.2.2 pc = some (.return_, 1)) (hr : M.2.2.2.1 = none) (hq : Q (.inl none) h) : jw_J g d M T pc ls [] h kc ks Q := by
  intro p e s m args below meth c R Z H locs cells slots arr hA hT hE hP hS hl hc hs
  obtain ⟨hx, hb, hml, hown, hts, -, hlk, hnm, hwd, hdf, hdl, hst, hok⟩ := id hA
  exact hE.1 _ _ hq H locs cells slots pc arr hP hS (by omega) (by omega) (Or.inr (Or.inr (Or.inr ⟨rfl, hok _ _ hd, hr⟩)))
end JWR
