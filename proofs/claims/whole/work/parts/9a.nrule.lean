/-! THE JUDGEMENT WITH A FACT N of the state in which the method began; the law's own rules; methods with a table of handlers -/
def jy_J (N : State → Prop) (g : jg_G) (d : Nat) (M : jw_M) (T : Code → Prop) (pc : Nat) (ls : List (Option jV)) (st : List jV) (h : jh_H) (kc ks : Nat) (Q : jw_O → jh_H → Prop) : Prop :=
  ∀ (p : Program) (e : Env) (s : State) (m : MethodId) (args : Array Value) (below : List Frame) (meth : Method) (c : Code) (R : Room) (Z : State → Prop) (H : Heap) (locs : List Loc) (cells slots : Nat) (arr : Array Slot),
    N s → jw_At g M d R p s m args meth c → T c → jw_Ex g M R p e s m args below meth c Z Q → jh_P g h H → va_S (jg_S g) s.heap H locs → lo_has arr M.2.2.1 ls → cells + kc ≤ R.cells → slots + ks ≤ R.slots → W p (jg_l g) e R s m args below meth c H locs cells slots Z (F0 m pc arr (st.map jv))
section JYR
variable {N : State → Prop} {g : jg_G} {d : Nat} {M : jw_M} {T : Code → Prop} {pc : Nat} {ls ls' : List (Option jV)} {st : List jV} {h : jh_H} {kc ks : Nat} {Q : jw_O → jh_H → Prop}
theorem jy_of (k : jw_J g d M T pc ls st h kc ks Q) : jy_J N g d M T pc ls st h kc ks Q := fun p e s m args below meth c R Z H locs cells slots arr _ => k p e s m args below meth c R Z H locs cells slots arr
theorem jy_iconst {n : Int} (hd : M.2.2.2.2 pc = some (.iconst n, 1)) (k : jy_J N g d M T (pc + 1) ls (.inl (Int32.ofInt n) :: st) h kc ks Q) : jy_J N g d M T pc ls st h kc ks Q := by
  intro p e s m args below meth c R Z H locs cells slots arr hN hA hT hE hP hS hl hc hs
  obtain ⟨hx, hb, hml, hown, hts, hr, hlk, hnm, hwd, hdf, hdl, hst, hok⟩ := id hA
  exact lv_iconst hx hb (hok _ _ hd) rfl (k p e s m args below meth c R Z H locs cells slots arr hN hA hT hE hP hS hl hc hs)
theorem jy_bipush {n : Int} (hd : M.2.2.2.2 pc = some (.bipush n, 2)) (k : jy_J N g d M T (pc + 2) ls (.inl (Int8.ofInt n).toInt32 :: st) h kc ks Q) : jy_J N g d M T pc ls st h kc ks Q := by
  intro p e s m args below meth c R Z H locs cells slots arr hN hA hT hE hP hS hl hc hs
  obtain ⟨hx, hb, hml, hown, hts, hr, hlk, hnm, hwd, hdf, hdl, hst, hok⟩ := id hA
  exact lv_bipush hx hb (hok _ _ hd) rfl (k p e s m args below meth c R Z H locs cells slots arr hN hA hT hE hP hS hl hc hs)
theorem jy_iload_n {k : Fin 4} {x : Int32} (hd : M.2.2.2.2 pc = some (.iload_n k, 1)) (hv : ls[(k : Nat)]? = some (some (.inl x))) (k : jy_J N g d M T (pc + 1) ls (.inl x :: st) h kc ks Q) : jy_J N g d M T pc ls st h kc ks Q := by
  intro p e s m args below meth c R Z H locs cells slots arr hN hA hT hE hP hS hl hc hs
  obtain ⟨hx, hb, hml, hown, hts, hr, hlk, hnm, hwd, hdf, hdl, hst, hok⟩ := id hA
  exact lv_iload_n hx hb (hok _ _ hd) rfl (hl.2.2 _ _ hv) (k p e s m args below meth c R Z H locs cells slots arr hN hA hT hE hP hS hl hc hs)
theorem jy_iload {i : Nat} {x : Int32} (hd : M.2.2.2.2 pc = some (.iload i, 2)) (hv : ls[i]? = some (some (.inl x))) (k : jy_J N g d M T (pc + 2) ls (.inl x :: st) h kc ks Q) : jy_J N g d M T pc ls st h kc ks Q := by
  intro p e s m args below meth c R Z H locs cells slots arr hN hA hT hE hP hS hl hc hs
  obtain ⟨hx, hb, hml, hown, hts, hr, hlk, hnm, hwd, hdf, hdl, hst, hok⟩ := id hA
  exact lv_iload hx hb (hok _ _ hd) (hl.2.2 _ _ hv) (k p e s m args below meth c R Z H locs cells slots arr hN hA hT hE hP hS hl hc hs)
theorem jy_aload_n {k : Fin 4} {r : Option Nat} (hd : M.2.2.2.2 pc = some (.aload_n k, 1)) (hv : ls[(k : Nat)]? = some (some (.inr (.inr r)))) (k : jy_J N g d M T (pc + 1) ls ((.inr (.inr r)) :: st) h kc ks Q) : jy_J N g d M T pc ls st h kc ks Q := by
  intro p e s m args below meth c R Z H locs cells slots arr hN hA hT hE hP hS hl hc hs
  obtain ⟨hx, hb, hml, hown, hts, hr, hlk, hnm, hwd, hdf, hdl, hst, hok⟩ := id hA
  cases r with
  | none => exact lv_aload_nN hx hb (hok _ _ hd) rfl (hl.2.2 _ _ hv) (k p e s m args below meth c R Z H locs cells slots arr hN hA hT hE hP hS hl hc hs)
  | some x => exact lv_aload_n hx hb (hok _ _ hd) rfl (hl.2.2 _ _ hv) (k p e s m args below meth c R Z H locs cells slots arr hN hA hT hE hP hS hl hc hs)
theorem jy_istore {i : Nat} {x : Int32} (hd : M.2.2.2.2 pc = some (.istore i, 2)) (hp : lo_c1 ls i) (hn : i < M.2.2.1) (k : jy_J N g d M T (pc + 2) (ls.set i (some (.inl x))) st h kc ks Q) : jy_J N g d M T pc ls (.inl x :: st) h kc ks Q := by
  intro p e s m args below meth c R Z H locs cells slots arr hN hA hT hE hP hS hl hc hs
  obtain ⟨hx, hb, hml, hown, hts, hr, hlk, hnm, hwd, hdf, hdl, hst, hok⟩ := id hA
  exact lv_istore hx hb (hok _ _ hd) (lo_lv hl) hn rfl (fun arr2 hl2 => k p e s m args below meth c R Z H locs cells slots arr2 hN hA hT hE hP hS (lo_st1 (v := .inl x) hp hl2) hc hs)
theorem jy_astore_n {k : Fin 4} {r : Option Nat} (hd : M.2.2.2.2 pc = some (.astore_n k, 1)) (hp : lo_c1 ls (k : Nat)) (hn : (k : Nat) < M.2.2.1) (k : jy_J N g d M T (pc + 1) (ls.set (k : Nat) (some (.inr (.inr r)))) st h kc ks Q) : jy_J N g d M T pc ls ((.inr (.inr r)) :: st) h kc ks Q := by
  intro p e s m args below meth c R Z H locs cells slots arr hN hA hT hE hP hS hl hc hs
  obtain ⟨hx, hb, hml, hown, hts, hr, hlk, hnm, hwd, hdf, hdl, hst, hok⟩ := id hA
  cases r with
  | none => exact lv_astore_nN hx hb (hok _ _ hd) rfl (lo_lv hl) hn rfl (fun arr2 hl2 => k p e s m args below meth c R Z H locs cells slots arr2 hN hA hT hE hP hS (lo_st1 (v := .inr (.inr none)) hp hl2) hc hs)
  | some x => exact lv_astore_n hx hb (hok _ _ hd) rfl (lo_lv hl) hn rfl (fun arr2 hl2 => k p e s m args below meth c R Z H locs cells slots arr2 hN hA hT hE hP hS (lo_st1 (v := .inr (.inr (some x))) hp hl2) hc hs)
theorem jy_iinc {i : Nat} {n : Int} {x : Int32} (hd : M.2.2.2.2 pc = some (.iinc i n, 3)) (hv : ls[i]? = some (some (.inl x))) (hp : lo_c1 ls i) (hn : i < M.2.2.1) (k : jy_J N g d M T (pc + 3) (ls.set i (some (.inl (x + Int32.ofInt n)))) st h kc ks Q) : jy_J N g d M T pc ls st h kc ks Q := by
  intro p e s m args below meth c R Z H locs cells slots arr hN hA hT hE hP hS hl hc hs
  obtain ⟨hx, hb, hml, hown, hts, hr, hlk, hnm, hwd, hdf, hdl, hst, hok⟩ := id hA
  obtain ⟨j, hj⟩ := List.mem_iff_getElem?.mp (lo_as_mem.mpr ⟨_, hv, rfl⟩)
  exact lv_iinc hx hb (hok _ _ hd) (lo_lv hl) hj rfl hn rfl (fun arr2 hl2 => k p e s m args below meth c R Z H locs cells slots arr2 hN hA hT hE hP hS (lo_st1 (v := .inl (x + Int32.ofInt n)) hp hl2) hc hs)
theorem jy_iadd {x y : Int32} (hd : M.2.2.2.2 pc = some (.iadd, 1)) (k : jy_J N g d M T (pc + 1) ls (.inl (x + y) :: st) h kc ks Q) : jy_J N g d M T pc ls (.inl y :: .inl x :: st) h kc ks Q := by
  intro p e s m args below meth c R Z H locs cells slots arr hN hA hT hE hP hS hl hc hs
  obtain ⟨hx, hb, hml, hown, hts, hr, hlk, hnm, hwd, hdf, hdl, hst, hok⟩ := id hA
  exact lv_iadd hx hb (hok _ _ hd) (k p e s m args below meth c R Z H locs cells slots arr hN hA hT hE hP hS hl hc hs)
theorem jy_isub {x y : Int32} (hd : M.2.2.2.2 pc = some (.isub, 1)) (k : jy_J N g d M T (pc + 1) ls (.inl (x - y) :: st) h kc ks Q) : jy_J N g d M T pc ls (.inl y :: .inl x :: st) h kc ks Q := by
  intro p e s m args below meth c R Z H locs cells slots arr hN hA hT hE hP hS hl hc hs
  obtain ⟨hx, hb, hml, hown, hts, hr, hlk, hnm, hwd, hdf, hdl, hst, hok⟩ := id hA
  exact lv_isub hx hb (hok _ _ hd) (k p e s m args below meth c R Z H locs cells slots arr hN hA hT hE hP hS hl hc hs)
theorem jy_iand {x y : Int32} (hd : M.2.2.2.2 pc = some (.iand, 1)) (k : jy_J N g d M T (pc + 1) ls (.inl (x &&& y) :: st) h kc ks Q) : jy_J N g d M T pc ls (.inl y :: .inl x :: st) h kc ks Q := by
  intro p e s m args below meth c R Z H locs cells slots arr hN hA hT hE hP hS hl hc hs
  obtain ⟨hx, hb, hml, hown, hts, hr, hlk, hnm, hwd, hdf, hdl, hst, hok⟩ := id hA
  exact lv_iand hx hb (hok _ _ hd) (k p e s m args below meth c R Z H locs cells slots arr hN hA hT hE hP hS hl hc hs)
theorem jy_i2l {x : Int32} (hd : M.2.2.2.2 pc = some (.i2l, 1)) (k : jy_J N g d M T (pc + 1) ls (.inr (.inl x.toInt64) :: st) h kc ks Q) : jy_J N g d M T pc ls (.inl x :: st) h kc ks Q := by
  intro p e s m args below meth c R Z H locs cells slots arr hN hA hT hE hP hS hl hc hs
  obtain ⟨hx, hb, hml, hown, hts, hr, hlk, hnm, hwd, hdf, hdl, hst, hok⟩ := id hA
  exact lv_i2l hx hb (hok _ _ hd) rfl (k p e s m args below meth c R Z H locs cells slots arr hN hA hT hE hP hS hl hc hs)
theorem jy_lcmp {x y : Int64} (hd : M.2.2.2.2 pc = some (.lcmp, 1)) (k : jy_J N g d M T (pc + 1) ls (.inl (lg_cmp x y) :: st) h kc ks Q) : jy_J N g d M T pc ls (.inr (.inl y) :: .inr (.inl x) :: st) h kc ks Q := by
  intro p e s m args below meth c R Z H locs cells slots arr hN hA hT hE hP hS hl hc hs
  obtain ⟨hx, hb, hml, hown, hts, hr, hlk, hnm, hwd, hdf, hdl, hst, hok⟩ := id hA
  exact W.lcmp hx hb (hok _ _ hd) (k p e s m args below meth c R Z H locs cells slots arr hN hA hT hE hP hS hl hc hs)
theorem jy_if_ne {x : Int32} {off : Int} (tgt : Nat) (hd : M.2.2.2.2 pc = some (.ifCond .ne off, 3)) (ht : (pc : Int) + off = (tgt : Int)) (kt : ¬ x = 0 → jy_J N g d M T tgt ls st h kc ks Q) (kf : x = 0 → jy_J N g d M T (pc + 3) ls st h kc ks Q) : jy_J N g d M T pc ls (.inl x :: st) h kc ks Q := by
  intro p e s m args below meth c R Z H locs cells slots arr hN hA hT hE hP hS hl hc hs
  obtain ⟨hx, hb, hml, hown, hts, hr, hlk, hnm, hwd, hdf, hdl, hst, hok⟩ := id hA
  exact lv_if_ne hx hb (hok _ _ hd) ht (fun w => kt w p e s m args below meth c R Z H locs cells slots arr hN hA hT hE hP hS hl hc hs) (fun w => kf w p e s m args below meth c R Z H locs cells slots arr hN hA hT hE hP hS hl hc hs)
theorem jy_if_eq {x : Int32} {off : Int} (tgt : Nat) (hd : M.2.2.2.2 pc = some (.ifCond .eq off, 3)) (ht : (pc : Int) + off = (tgt : Int)) (kt : x = 0 → jy_J N g d M T tgt ls st h kc ks Q) (kf : ¬ (x = 0) → jy_J N g d M T (pc + 3) ls st h kc ks Q) : jy_J N g d M T pc ls (.inl x :: st) h kc ks Q := by
  intro p e s m args below meth c R Z H locs cells slots arr hN hA hT hE hP hS hl hc hs
  obtain ⟨hx, hb, hml, hown, hts, hr, hlk, hnm, hwd, hdf, hdl, hst, hok⟩ := id hA
  exact lv_if_eq hx hb (hok _ _ hd) ht (fun w => kt w p e s m args below meth c R Z H locs cells slots arr hN hA hT hE hP hS hl hc hs) (fun w => kf w p e s m args below meth c R Z H locs cells slots arr hN hA hT hE hP hS hl hc hs)
theorem jy_icmp_gt {x y : Int32} {off : Int} (tgt : Nat) (hd : M.2.2.2.2 pc = some (.if_icmp .gt off, 3)) (ht : (pc : Int) + off = (tgt : Int)) (kt : y < x → jy_J N g d M T tgt ls st h kc ks Q) (kf : ¬ (y < x) → jy_J N g d M T (pc + 3) ls st h kc ks Q) : jy_J N g d M T pc ls (.inl y :: .inl x :: st) h kc ks Q := by
  intro p e s m args below meth c R Z H locs cells slots arr hN hA hT hE hP hS hl hc hs
  obtain ⟨hx, hb, hml, hown, hts, hr, hlk, hnm, hwd, hdf, hdl, hst, hok⟩ := id hA
  exact lv_icmp_gt hx hb (hok _ _ hd) ht (fun w => kt w p e s m args below meth c R Z H locs cells slots arr hN hA hT hE hP hS hl hc hs) (fun w => kf w p e s m args below meth c R Z H locs cells slots arr hN hA hT hE hP hS hl hc hs)
theorem jy_icmp_eq {x y : Int32} {off : Int} (tgt : Nat) (hd : M.2.2.2.2 pc = some (.if_icmp .eq off, 3)) (ht : (pc : Int) + off = (tgt : Int)) (kt : x = y → jy_J N g d M T tgt ls st h kc ks Q) (kf : ¬ (x = y) → jy_J N g d M T (pc + 3) ls st h kc ks Q) : jy_J N g d M T pc ls (.inl y :: .inl x :: st) h kc ks Q := by
  intro p e s m args below meth c R Z H locs cells slots arr hN hA hT hE hP hS hl hc hs
  obtain ⟨hx, hb, hml, hown, hts, hr, hlk, hnm, hwd, hdf, hdl, hst, hok⟩ := id hA
  exact lv_icmp_eq hx hb (hok _ _ hd) ht (fun w => kt w p e s m args below meth c R Z H locs cells slots arr hN hA hT hE hP hS hl hc hs) (fun w => kf w p e s m args below meth c R Z H locs cells slots arr hN hA hT hE hP hS hl hc hs)
theorem jy_icmp_ne {x y : Int32} {off : Int} (tgt : Nat) (hd : M.2.2.2.2 pc = some (.if_icmp .ne off, 3)) (ht : (pc : Int) + off = (tgt : Int)) (kt : ¬ x = y → jy_J N g d M T tgt ls st h kc ks Q) (kf : x = y → jy_J N g d M T (pc + 3) ls st h kc ks Q) : jy_J N g d M T pc ls (.inl y :: .inl x :: st) h kc ks Q := by
  intro p e s m args below meth c R Z H locs cells slots arr hN hA hT hE hP hS hl hc hs
  obtain ⟨hx, hb, hml, hown, hts, hr, hlk, hnm, hwd, hdf, hdl, hst, hok⟩ := id hA
  exact lv_icmp_ne hx hb (hok _ _ hd) ht (fun w => kt w p e s m args below meth c R Z H locs cells slots arr hN hA hT hE hP hS hl hc hs) (fun w => kf w p e s m args below meth c R Z H locs cells slots arr hN hA hT hE hP hS hl hc hs)
theorem jy_tableIn {dflt lo hi : Int} {offs : Array Int} {len : Nat} {x : Int32} {off : Int} (tgt : Nat) (hd : M.2.2.2.2 pc = some (.tableswitch dflt lo hi offs, len)) (h1 : ¬ x.toInt < lo) (h2 : ¬ hi < x.toInt) (ho : offs[(x.toInt - lo).toNat]? = some off) (ht : (pc : Int) + off = (tgt : Int)) (k : jy_J N g d M T tgt ls st h kc ks Q) : jy_J N g d M T pc ls (.inl x :: st) h kc ks Q := by
  intro p e s m args below meth c R Z H locs cells slots arr hN hA hT hE hP hS hl hc hs
  obtain ⟨hx, hb, hml, hown, hts, hr, hlk, hnm, hwd, hdf, hdl, hst, hok⟩ := id hA
  exact lv_tableIn hx hb (hok _ _ hd) h1 h2 ho ht (k p e s m args below meth c R Z H locs cells slots arr hN hA hT hE hP hS hl hc hs)
theorem jy_tableOut {dflt lo hi : Int} {offs : Array Int} {len : Nat} {x : Int32} (tgt : Nat) (hd : M.2.2.2.2 pc = some (.tableswitch dflt lo hi offs, len)) (h1 : x.toInt < lo ∨ hi < x.toInt) (ht : (pc : Int) + dflt = (tgt : Int)) (k : jy_J N g d M T tgt ls st h kc ks Q) : jy_J N g d M T pc ls (.inl x :: st) h kc ks Q := by
  intro p e s m args below meth c R Z H locs cells slots arr hN hA hT hE hP hS hl hc hs
  obtain ⟨hx, hb, hml, hown, hts, hr, hlk, hnm, hwd, hdf, hdl, hst, hok⟩ := id hA
  exact lv_tableOut hx hb (hok _ _ hd) h1 ht (k p e s m args below meth c R Z H locs cells slots arr hN hA hT hE hP hS hl hc hs)
theorem jy_goto {off : Int} (tgt : Nat) (hd : M.2.2.2.2 pc = some (.goto off, 3)) (ht : (pc : Int) + off = (tgt : Int)) (k : jy_J N g d M T tgt ls st h kc ks Q) : jy_J N g d M T pc ls st h kc ks Q := by
  intro p e s m args below meth c R Z H locs cells slots arr hN hA hT hE hP hS hl hc hs
  obtain ⟨hx, hb, hml, hown, hts, hr, hlk, hnm, hwd, hdf, hdl, hst, hok⟩ := id hA
  exact lv_goto hx hb (hok _ _ hd) ht (k p e s m args below meth c R Z H locs cells slots arr hN hA hT hE hP hS hl hc hs)
theorem jy_ireturn {x : Int32} (hd : M.2.2.2.2 pc = some (.ireturn, 1)) {ty : FieldType} (hr : M.2.2.2.1 = some ty) (hn : narrow ty (.int x) = .int x) (hq : Q (.inl (some (.inl x))) h) : jy_J N g d M T pc ls [.inl x] h kc ks Q := by
  intro p e s m args below meth c R Z H locs cells slots arr hN hA hT hE hP hS hl hc hs
  obtain ⟨hx, hb, hml, hown, hts, -, hlk, hnm, hwd, hdf, hdl, hst, hok⟩ := id hA
  exact hE.1 _ _ hq H locs cells slots pc arr hP hS (by omega) (by omega) (Or.inl ⟨x, rfl, hok _ _ hd, ty, hr, hn⟩)
theorem jy_less {ls' : List (Option jV)} (hw : ∀ (i : Nat) (v : jV), ls'[i]? = some (some v) → ls[i]? = some (some v)) (k : jy_J N g d M T pc ls' st h kc ks Q) : jy_J N g d M T pc ls st h kc ks Q := by
  intro p e s m args below meth c R Z H locs cells slots arr hN hA hT hE hP hS hl hc hs
  exact k p e s m args below meth c R Z H locs cells slots arr hN hA hT hE hP hS ⟨hl.1, hl.2.1, fun i v q => hl.2.2 i v (hw i v q)⟩ hc hs
theorem jy_dup {v : jV} (hd : M.2.2.2.2 pc = some (.dup, 1)) (hv : jv_c v = 1) (k : jy_J N g d M T (pc + 1) ls (v :: v :: st) h kc ks Q) : jy_J N g d M T pc ls (v :: st) h kc ks Q := by
  intro p e s m args below meth c R Z H locs cells slots arr hN hA hT hE hP hS hl hc hs
  obtain ⟨hx, hb, hml, hown, hts, hr, hlk, hnm, hwd, hdf, hdl, hst, hok⟩ := id hA
  exact lv_dup hx hb (hok _ _ hd) ((jv_cat v).trans hv) (k p e s m args below meth c R Z H locs cells slots arr hN hA hT hE hP hS hl hc hs)
theorem jy_lald {a t n : Nat} {i : Int32} (j : Nat) (hd : M.2.2.2.2 pc = some (.laload, 1)) (ht : t < jc_an) (hty : jc_at t = .long) (ho : jh_A h a t n) (hi : i = nI j) (hj : j < n) (hn : n < 2 ^ 31) (kk : jy_J N g d M T (pc + 1) ls (.inr (.inl (jh_G h a j)) :: st) h kc ks Q) : jy_J N g d M T pc ls (.inl i :: .inr (.inr (some a)) :: st) h kc ks Q := by
  intro p e s m args below meth c R Z H locs cells slots arr hN hA hT hE hP hS hl hc hs
  obtain ⟨hx, hb, hml, hown, hts, hr, hlk, hnm, hwd, hdf, hdl, hst, hok⟩ := id hA
  obtain ⟨q0, he⟩ := jh_A_at (g := g) ho
  have e1 : jh_ac h a t = .inr (.inl (jh_G h a)) := by simp only [jh_ac, hty, jc_so]
  rw [e1] at he
  subst hi
  have e2 : (nI j).toNatClampNeg = j := nI_clamp (by omega)
  exact va_lald hx hb hwd.1 hP.1 q0 t he (by rw [jg_t_at g ht, hty]) (vp_in_nI hj hn) (hok _ _ hd) (by rw [e2]; exact kk p e s m args below meth c R Z H locs cells slots arr hN hA hT hE hP hS hl hc hs)
theorem jy_new {idx ci : Nat} (hd : M.2.2.2.2 pc = some (.new idx, 3)) (hcq : jc_ok ci) (hcl : Cond.classLink M.1.cls idx (jc_q ci).1 ∈ jw_big) (hin : Cond.instantiable (jc_q ci).1 (jc_q ci).2.2 ∈ jw_big) (hini : Cond.initialized (jc_q ci).1 ∈ jw_big) (hdv : ∀ j, j < (jc_q ci).2.2 → defaultValue (jc_ty ci j) = (match jc_so (jc_ty ci j) with | 0 => Value.int 0 | 1 => .long 0 | _ => .null)) (h1 : 1 ≤ kc) (h2 : (jc_q ci).2.2 ≤ ks)
    (kk : ∀ q, q ∉ jh_L h → jy_J N g d M T (pc + 3) ls (.inr (.inr (some q)) :: st) (jh_nw h q ci (jc_q ci).2.2) (kc - 1) (ks - (jc_q ci).2.2) Q) : jy_J N g d M T pc ls st h kc ks Q := by
  intro p e s m args below meth c R Z H locs cells slots arr hN hA hT hE hP hS hl hc hs
  obtain ⟨hx, hb, hml, hown, hts, hr, hlk, hnm, hwd, hdf, hdl, hst, hok⟩ := id hA
  obtain ⟨hq, h100, hw, hty, hnn⟩ := hcq
  have hcl0 : jc_cl[ci]? = some ((jc_q ci).1, (jc_q ci).2.1, (jc_q ci).2.2) := hq
  refine va_new hx hb hts hw (jc_ty ci) hty hown (hts _ hcl) (hts _ hin) (hts _ hini) hwd.1 hP.1 hP.2 hS (fun q z => Nat.le_trans hwd.2.1 z) hcl0 (fs := (List.range (jc_q ci).2.2).map (fun j => match jc_so (jc_ty ci j) with | 0 => Value.int 0 | 1 => .long 0 | _ => .null)) (fun j hj => ?_) (by omega) (by omega) (hok _ _ hd) (fun q H1 p1 d1 s1 => ?_)
  · rw [hdv j hj, vp_V, List.getD_eq_getElem?_getD]; simp [hj]
  · have hn := jh_nin d1
    have he : jh_E g (jh_nw h q ci (jc_q ci).2.2) q = .inr (ci, (List.range (jc_q ci).2.2).map (fun j => match jc_so (jc_ty ci j) with | 0 => Value.int 0 | 1 => .long 0 | _ => .null)) := by
      have ho : jh_O (jh_nw h q ci (jc_q ci).2.2) q ci := ⟨by simp [jh_nw, jh_L], va_up_self _ _ _⟩
      rw [jh_E_O h100 ho]
      refine congrArg (fun z => Sum.inr (ci, z)) (List.map_congr_left (fun j _ => ?_))
      simp only [jh_fv]
      show (match jc_so (jc_ty ci j) with | 0 => Value.int (jh_z (jh_i h) q 0 q (64 * ci + j)) | 1 => .long (jh_z (jh_g h) q 0 q (64 * ci + j)) | _ => va_rf (jh_z (jh_r h) q none q (64 * ci + j))) = _
      rw [jh_z_s, jh_z_s, jh_z_s]; rfl
    rw [jh_push hn he] at p1 d1
    exact kk q hn p e s m args below meth c R Z H1 locs (cells + 1) (slots + (jc_q ci).2.2) arr hN hA hT hE ⟨p1, d1⟩ s1 hl (by omega) (by omega)
theorem jy_newa {t n : Nat} {i : Int32} {aty : ArrayType} (hd : M.2.2.2.2 pc = some (.newarray aty, 2)) (ht : t < jc_an) (hty : newarray.typeOf aty = jc_at t) (hso : (jc_so (jc_at t) = 0 ∧ defaultValue (jc_at t) = .int 0) ∨ (jc_at t = .long)) (harr : Cond.arrayClass (newarray.typeOf aty) ∈ jw_big) (hi : i = nI n) (hn : n * componentBytes (jc_at t) ≤ 536870912) (hn2 : n < 2 ^ 31) (h1 : 1 ≤ kc) (h2 : n ≤ ks)
    (kk : ∀ q, q ∉ jh_L h → jy_J N g d M T (pc + 2) ls (.inr (.inr (some q)) :: st) (jh_nw h q (100 + t) n) (kc - 1) (ks - n) Q) : jy_J N g d M T pc ls (.inl i :: st) h kc ks Q := by
  intro p e s m args below meth c R Z H locs cells slots arr hN hA hT hE hP hS hl hc hs
  obtain ⟨hx, hb, hml, hown, hts, hr, hlk, hnm, hwd, hdf, hdl, hst, hok⟩ := id hA
  subst hi
  have hneg : ¬ nI n < 0 := nI_pos hn2
  have hcl : (nI n).toNatClampNeg = n := nI_clamp hn2
  have hgo : ∀ (a0 : vp_A), a0 = (n, jh_ac (jh_nw h 0 (100 + t) n) 0 t) → True := fun _ _ => trivial
  rcases hso with ⟨hso, hdv⟩ | hso
  · refine va_newa hx hb (hts _ harr) hty hwd.1 hP.1 hP.2 hS (fun q z => Nat.le_trans hwd.2.1 z) (N' := n) (a0 := (n, .inl (fun _ => 0))) (fun cA => ?_) hneg hcl hn (by omega) (by omega) (hok _ _ hd) (fun q cA H1 k1 p1 d1 s1 => ?_)
    · rw [hdv]; rfl
    · have hn := jh_nin d1
      have ecA := jw_cA ht hwd.1 k1
      subst ecA
      have he : jh_E g (jh_nw h q (100 + t) n) q = .inl (jg_A g t, n, .inl (fun _ => 0)) := by
        have ho : jh_A (jh_nw h q (100 + t) n) q t n := ⟨by simp [jh_nw, jh_L], va_up_self _ _ _⟩
        rw [jh_E_A ho]
        have : jh_ac (jh_nw h q (100 + t) n) q t = .inl (fun _ => 0) := by
          simp only [jh_ac, hso]; exact congrArg Sum.inl (funext (fun j => jh_z_s _ _ _ _))
        rw [this]
      rw [jh_push hn he] at p1 d1
      exact kk q hn p e s m args below meth c R Z H1 locs (cells + 1) (slots + n) arr hN hA hT hE ⟨p1, d1⟩ s1 hl (by omega) (by omega)
  · refine va_newa hx hb (hts _ harr) hty hwd.1 hP.1 hP.2 hS (fun q z => Nat.le_trans hwd.2.1 z) (N' := n) (a0 := (n, .inr (.inl (fun _ => 0)))) (fun cA => ?_) hneg hcl hn (by omega) (by omega) (hok _ _ hd) (fun q cA H1 k1 p1 d1 s1 => ?_)
    · rw [hso]; rfl
    · have hn := jh_nin d1
      have ecA := jw_cA ht hwd.1 k1
      subst ecA
      have he : jh_E g (jh_nw h q (100 + t) n) q = .inl (jg_A g t, n, .inr (.inl (fun _ => 0))) := by
        have ho : jh_A (jh_nw h q (100 + t) n) q t n := ⟨by simp [jh_nw, jh_L], va_up_self _ _ _⟩
        rw [jh_E_A ho]
        have : jh_ac (jh_nw h q (100 + t) n) q t = .inr (.inl (fun _ => 0)) := by
          simp only [jh_ac, hso, jc_so]; exact congrArg (fun z => Sum.inr (Sum.inl z)) (funext (fun j => jh_z_s _ _ _ _))
        rw [this]
      rw [jh_push hn he] at p1 d1
      exact kk q hn p e s m args below meth c R Z H1 locs (cells + 1) (slots + n) arr hN hA hT hE ⟨p1, d1⟩ s1 hl (by omega) (by omega)
theorem jy_after {p : Program} {e : Env} {s : State} {m : MethodId} {args : Array Value} {below : List Frame} {meth : Method} {c : Code} {R : Room} {Z : State → Prop} {H : Heap} {locs : List Loc} {cells slots mc ms : Nat} {arr : Array Slot} {st0 : List Value} {a : Array Value} {Q' : jw_O → jh_H → Prop}
    (hN : N s) (hA : jw_At g M d R p s m args meth c) (hT : T c) (hE : jw_Ex g M R p e s m args below meth c Z Q) (hS : va_S (jg_S g) s.heap H locs) (hl : lo_has arr M.2.2.1 ls) (hc : cells + kc ≤ R.cells) (hs : slots + ks ≤ R.slots) (hmc : mc ≤ kc) (hms : ms ≤ ks)
    (hr : vx_Run p (jg_l g) e R s m args below meth c H locs cells slots mc ms (F0 m pc arr st0) (st.map jv) (jw_Qc g Q' a) (jw_Xc g Q') (jg_S g))
    (kr : ∀ v h', Q' (.inl v) h' → jy_J N g d M T (pc + 3) ls (v.toList ++ st) h' (kc - mc) (ks - ms) Q) (kx : ∀ E h', Q' (.inr E) h' → Q (.inr E) h') (hcov : ∀ c, T c → ∀ x ∈ c.exceptionTable.toList, covers x pc = false) :
    W p (jg_l g) e R s m args below meth c H locs cells slots Z (F0 m pc arr st0) := by
  intro T0 hT0 X
  rcases hr T0 hT0 X with ⟨v, st₀, t, T', L, e0, X', hL, e1, e2, hq, go⟩ | ⟨q, st₀, t, T', L, E, ce, e0, X', hL, e1, e2, hq, hce, hcv, hcl, st9⟩
  · obtain ⟨v', h', e3, hq, hP', hF⟩ := hq
    injection e3 with e3
    subst e3
    obtain ⟨-, -, hS'⟩ := vx_keep e0 e1 hS (fun _ _ z => z) (fun _ z => z) hL hF
    obtain ⟨t2, s2, z2⟩ := kr v' h' hq p e s m args below meth c R Z T'.heap (locs ++ L) (cells + mc) (slots + ms) arr hN hA hT hE (by rw [e1]; exact hP') hS' hl (by omega) (by omega) T' rfl X'
    have e4 : (v'.toList ++ st).map jv = (v'.map jv).toList ++ st.map jv := by cases v' <;> rfl
    rw [e4] at s2
    exact ⟨t2, go t2 s2, z2⟩
  · obtain ⟨h', hq, hP', hF⟩ := hq
    obtain ⟨-, -, hS'⟩ := vx_keep e0 e1 hS (fun _ _ z => z) (fun _ z => z) hL hF
    obtain ⟨t2, s2, z2⟩ := (hE.2 E h' (kx E h' hq)).1 T'.heap (locs ++ L) (cells + mc) (slots + ms) pc arr (st.map jv) q ce (by rw [e1]; exact hP') hS' (by omega) (by omega) (by rw [e1]; exact hce) hcv hcl (hcov c hT) T' rfl X'
    exact ⟨t2, st9.trans s2, z2⟩
theorem jy_callV {M' : jw_M} {d' n idx mc ms a ci : Nat} {As : List jV} {Q' : jw_O → jh_H → Prop} (hd : M.2.2.2.2 pc = some (.invokevirtual idx, 3)) (hm : jl_m M' n) (hk : jl_k M.1.cls idx M'.1) (hin : Cond.instanceMethod M'.1 ∈ jw_big) (hse : Cond.selects M'.1.cls M'.1 M'.1 ∈ jw_big) (hd1 : d' + 1 ≤ d) (hcq : jc_ok ci) (hcn : (jc_q ci).1 = M'.1.cls) (ho : jh_O h a ci) (hn : As.length = n) (hst0 : ((st.map jv).map fun v => v.category).sum ≤ 8) (hmc : mc ≤ kc) (hms : ms ≤ ks) (hcov : ∀ c, T c → ∀ x ∈ c.exceptionTable.toList, covers x pc = false)
    (hC : jw_C g d' mc ms M' (.inr (.inr (some a)) :: As) h Q') (kr : ∀ v h', Q' (.inl v) h' → jy_J N g d M T (pc + 3) ls (v.toList ++ st) h' (kc - mc) (ks - ms) Q) (kx : ∀ E h', Q' (.inr E) h' → Q (.inr E) h') : jy_J N g d M T pc ls (As.reverse ++ .inr (.inr (some a)) :: st) h kc ks Q := by
  intro p e s m args below meth c R Z H locs cells slots arr hN hA hT hE hP hS hl hc hs
  obtain ⟨hx, hb, hml, hown, hts, hr, hlk, hnm, hwd, hdf, hdl, hst, hok⟩ := id hA
  obtain ⟨q0, he⟩ := jh_at (g := g) ho.1
  rw [jh_E_O hcq.2.1 ho] at he
  have hrec := va_recv hwd.1 hP.1 hcq.1 he
  rw [hcn] at hrec
  have hpre := jw_pre hA hP hS (.inr (.inr (some a)) :: As)
  refine jy_after hN hA hT hE hS hl hc hs hmc hms ?_ kr kx hcov (a := (Value.ref a :: As.map jv).toArray)
  rcases hk with hk | ⟨host, hk⟩
  · exact vx_runV (nL := M.2.2.1) (cc := M.2.1) ⟨hx, hb, hml, hown, hts⟩ hC ⟨jw_cb hts hm hk hd1 hdf hdl, hts _ hin, hts _ hse⟩ ⟨jw_blind, hrec, hpre⟩ rfl ((List.length_map _).trans hn) hl.1 (by simp [jv, va_rf]) (lv_room hst0) (hok _ _ hd) ⟨by omega, by omega⟩
  · exact jn_V (nL := M.2.2.1) (cc := M.2.1) ⟨hx, hb, hml, hown, hts⟩ hC ⟨jw_cn hts hm (hwd.2.2.2.1 _ hk) hd1 hdf hdl, hts _ hin, hts _ hse⟩ ⟨jw_blind, hrec, hpre⟩ rfl ((List.length_map _).trans hn) hl.1 (by simp [jv, va_rf]) (lv_room hst0) (hok _ _ hd) ⟨by omega, by omega⟩
theorem jy_callI {M' : jw_M} {d' n idx mc ms a : Nat} {As : List jV} {Q' : jw_O → jh_H → Prop} (hd : M.2.2.2.2 pc = some (.invokespecial idx, 3)) (hm : jl_m M' n) (hk : jl_k M.1.cls idx M'.1) (hin : Cond.instanceMethod M'.1 ∈ jw_big) (hname : M'.1.name = "<init>") (hret : M'.2.2.2.1 = none) (hd1 : d' + 1 ≤ d) (hn : As.length = n) (hst0 : ((st.map jv).map fun v => v.category).sum ≤ 8) (hmc : mc ≤ kc) (hms : ms ≤ ks) (hcov : ∀ c, T c → ∀ x ∈ c.exceptionTable.toList, covers x pc = false)
    (hC : jw_C g d' mc ms M' (.inr (.inr (some a)) :: As) h Q') (kr : ∀ v h', Q' (.inl v) h' → jy_J N g d M T (pc + 3) ls (v.toList ++ st) h' (kc - mc) (ks - ms) Q) (kx : ∀ E h', Q' (.inr E) h' → Q (.inr E) h') : jy_J N g d M T pc ls (As.reverse ++ .inr (.inr (some a)) :: st) h kc ks Q := by
  intro p e s m args below meth c R Z H locs cells slots arr hN hA hT hE hP hS hl hc hs
  obtain ⟨hx, hb, hml, hown, hts, hr, hlk, hnm, hwd, hdf, hdl, hst, hok⟩ := id hA
  have hpre := jw_pre hA hP hS (.inr (.inr (some a)) :: As)
  refine jy_after hN hA hT hE hS hl hc hs hmc hms ?_ kr kx hcov (a := (Value.ref a :: As.map jv).toArray)
  rcases hk with hk | ⟨host, hk⟩
  · have cb := jw_cb (mc := mc) (ms := ms) hts hm hk hd1 hdf hdl
    rw [hret] at cb
    exact jn_I (nL := M.2.2.1) (cc := M.2.1) ⟨hx, hb, hml, hown, hts⟩ hC ⟨cb, hname, hts _ hin⟩ ⟨jw_blind, hpre⟩ rfl ((List.length_map _).trans hn) hl.1 (by simp [jv, va_rf]) (lv_room hst0) (hok _ _ hd) ⟨by omega, by omega⟩
  · have cb := jw_cn (mc := mc) (ms := ms) hts hm (hwd.2.2.2.1 _ hk) hd1 hdf hdl
    rw [hret] at cb
    exact jn_IN (nL := M.2.2.1) (cc := M.2.1) ⟨hx, hb, hml, hown, hts⟩ hC ⟨cb, hname, hts _ hin⟩ ⟨jw_blind, hpre⟩ rfl ((List.length_map _).trans hn) hl.1 (by simp [jv, va_rf]) (lv_room hst0) (hok _ _ hd) ⟨by omega, by omega⟩
theorem jz_drop {ls' : List (Option jV)} (j : Nat) (hs : ls.set j none = ls') (k : jy_J N g d M T pc ls' st h kc ks Q) : jy_J N g d M T pc ls st h kc ks Q := by
  refine jy_less (fun i v hv => ?_) k
  rw [← hs] at hv
  by_cases q : j = i
  · subst q
    rw [List.getElem?_set_self'] at hv
    cases hz : ls[j]? with
    | none => rw [hz] at hv; cases hv
    | some z => rw [hz] at hv; simp at hv
  · rwa [List.getElem?_set_ne q] at hv
theorem jz_iconst {n : Int} {x : Int32} (hd : M.2.2.2.2 pc = some (.iconst n, 1)) (hx : Int32.ofInt n = x) (k : jy_J N g d M T (pc + 1) ls (.inl x :: st) h kc ks Q) : jy_J N g d M T pc ls st h kc ks Q := jy_iconst hd (by rw [hx]; exact k)
theorem jz_bipush {n : Int} {x : Int32} (hd : M.2.2.2.2 pc = some (.bipush n, 2)) (hx : (Int8.ofInt n).toInt32 = x) (k : jy_J N g d M T (pc + 2) ls (.inl x :: st) h kc ks Q) : jy_J N g d M T pc ls st h kc ks Q := jy_bipush hd (by rw [hx]; exact k)
theorem jz_istore {i : Nat} {x : Int32} (hd : M.2.2.2.2 pc = some (.istore i, 2)) (hp : lo_b1 ls i = true) (hn : i < M.2.2.1) (hs : ls.set i (some (.inl x)) = ls') (k : jy_J N g d M T (pc + 2) ls' st h kc ks Q) : jy_J N g d M T pc ls ((.inl x) :: st) h kc ks Q := jy_istore hd (lo_ok hp) hn (by rw [hs]; exact k)
theorem jz_astore_n {k : Fin 4} {r : Option Nat} (hd : M.2.2.2.2 pc = some (.astore_n k, 1)) (hp : lo_b1 ls (k : Nat) = true) (hn : (k : Nat) < M.2.2.1) (hs : ls.set (k : Nat) (some (.inr (.inr r))) = ls') (k : jy_J N g d M T (pc + 1) ls' st h kc ks Q) : jy_J N g d M T pc ls ((.inr (.inr r)) :: st) h kc ks Q := jy_astore_n hd (lo_ok hp) hn (by rw [hs]; exact k)
theorem jz_iinc {i : Nat} {n : Int} {x y : Int32} (hd : M.2.2.2.2 pc = some (.iinc i n, 3)) (hv : ls[i]? = some (some (.inl x))) (hy : x + Int32.ofInt n = y) (hp : lo_b1 ls i = true) (hn : i < M.2.2.1) (hs : ls.set i (some (.inl y)) = ls') (k : jy_J N g d M T (pc + 3) ls' st h kc ks Q) : jy_J N g d M T pc ls st h kc ks Q := jy_iinc hd hv (lo_ok hp) hn (by rw [hy, hs]; exact k)
theorem jz_lald {a t n : Nat} {i : Int32} (j : Nat) (hd : M.2.2.2.2 pc = some (.laload, 1)) (ho : jh_A h a t n) (ht : t < jc_an) (hty : jc_at t = .long) (hi : i = nI j) (hj : j < n) (hn : n < 2 ^ 31) (kk : jy_J N g d M T (pc + 1) ls (.inr (.inl (jh_G h a j)) :: st) h kc ks Q) : jy_J N g d M T pc ls (.inl i :: .inr (.inr (some a)) :: st) h kc ks Q := jy_lald j hd ht hty ho hi hj hn kk
theorem jz_call {M' : jw_M} {d' n idx mc ms a ci : Nat} {As : List jV} (hd : M.2.2.2.2 pc = some (.invokevirtual idx, 3)) (hm : jl_m M' n) (hk : jl_k M.1.cls idx M'.1) (hin : Cond.instanceMethod M'.1 ∈ jw_big) (hse : Cond.selects M'.1.cls M'.1 M'.1 ∈ jw_big) (hcq : jc_ok ci) (hcn : (jc_q ci).1 = M'.1.cls) (ho : jh_O h a ci) (hn : As.length = n)
    (hC : jw_C g d' mc ms M' (.inr (.inr (some a)) :: As) h (fun o h' => match o with | .inl (some x) => jy_J N g d M T (pc + 3) ls (x :: st) h' (kc - mc) (ks - ms) Q | .inl none => jy_J N g d M T (pc + 3) ls st h' (kc - mc) (ks - ms) Q | .inr E => Q (.inr E) h'))
    (hd1 : d' + 1 ≤ d) (hst0 : (st.map jv_c).sum ≤ 8) (hmc : mc ≤ kc) (hms : ms ≤ ks) (hT : T = jw_T0) : jy_J N g d M T pc ls (As.reverse ++ .inr (.inr (some a)) :: st) h kc ks Q :=
  jy_callV hd hm hk hin hse hd1 hcq hcn ho hn (by rw [jv_sum]; exact hst0) hmc hms (fun c hc x hx => by subst hT; exact absurd (hc x hx) id) hC (fun v _ z => by cases v <;> exact z) (fun _ _ z => z)
theorem jz_callI {M' : jw_M} {d' n idx mc ms a : Nat} {As : List jV} (hd : M.2.2.2.2 pc = some (.invokespecial idx, 3)) (hm : jl_m M' n) (hk : jl_k M.1.cls idx M'.1) (hin : Cond.instanceMethod M'.1 ∈ jw_big) (hnm : M'.1.name = "<init>") (hrt : M'.2.2.2.1 = none) (hn : As.length = n)
    (hC : jw_C g d' mc ms M' (.inr (.inr (some a)) :: As) h (fun o h' => match o with | .inl (some x) => jy_J N g d M T (pc + 3) ls (x :: st) h' (kc - mc) (ks - ms) Q | .inl none => jy_J N g d M T (pc + 3) ls st h' (kc - mc) (ks - ms) Q | .inr E => Q (.inr E) h'))
    (hd1 : d' + 1 ≤ d) (hst0 : (st.map jv_c).sum ≤ 8) (hmc : mc ≤ kc) (hms : ms ≤ ks) (hT : T = jw_T0) : jy_J N g d M T pc ls (As.reverse ++ .inr (.inr (some a)) :: st) h kc ks Q :=
  jy_callI hd hm hk hin hnm hrt hd1 hn (by rw [jv_sum]; exact hst0) hmc hms (fun c hc x hx => by subst hT; exact absurd (hc x hx) id) hC (fun v _ z => by cases v <;> exact z) (fun _ _ z => z)
/-- the law's own script: its length; one of its ints -/
def jy_scr (N : State → Prop) (g : jg_G) (b L : Nat) (xs : Nat → Int32) : Prop := ∀ s, N s → va_X b L xs s s.heap ∧ b < s.heap.size ∧ ¬ jg_S g b
theorem jy_slen {b L : Nat} {xs : Nat → Int32} (hX : jy_scr N g b L xs) (hd : M.2.2.2.2 pc = some (.arraylength, 1)) (k : jy_J N g d M T (pc + 1) ls (.inl (nI L) :: st) h kc ks Q) : jy_J N g d M T pc ls (.inr (.inr (some b)) :: st) h kc ks Q := by
  intro p e s m args below meth c R Z H locs cells slots arr hN hA hT hE hP hS hl hc hs
  obtain ⟨hx, hb, hml, hown, hts, hr, hlk, hnm, hwd, hdf, hdl, hst, hok⟩ := id hA
  obtain ⟨x1, x2, x3⟩ := hX s hN
  exact va_slen hx hb x1 x2 x3 hS (hok _ _ hd) (k p e s m args below meth c R Z H locs cells slots arr hN hA hT hE hP hS hl hc hs)
theorem jy_sld {b L : Nat} {xs : Nat → Int32} {i : Int32} (j : Nat) (hX : jy_scr N g b L xs) (hd : M.2.2.2.2 pc = some (.iaload, 1)) (hi : i = nI j) (hj : j < L) (hn : L < 2 ^ 31) (k : jy_J N g d M T (pc + 1) ls (.inl (xs j) :: st) h kc ks Q) : jy_J N g d M T pc ls (.inl i :: .inr (.inr (some b)) :: st) h kc ks Q := by
  intro p e s m args below meth c R Z H locs cells slots arr hN hA hT hE hP hS hl hc hs
  obtain ⟨hx, hb, hml, hown, hts, hr, hlk, hnm, hwd, hdf, hdl, hst, hok⟩ := id hA
  obtain ⟨x1, x2, x3⟩ := hX s hN
  subst hi
  have e2 : (nI j).toNatClampNeg = j := nI_clamp (by omega)
  exact va_sld hx hb x1 x2 x3 hS (vp_in_nI hj hn) (hok _ _ hd) (by rw [e2]; exact k p e s m args below meth c R Z H locs cells slots arr hN hA hT hE hP hS hl hc hs)
theorem jy_room {kc' ks' : Nat} (h1 : kc' ≤ kc) (h2 : ks' ≤ ks) (k : jy_J N g d M T pc ls st h kc' ks' Q) : jy_J N g d M T pc ls st h kc ks Q := by
  intro p e s m args below meth c R Z H locs cells slots arr hN hA hT hE hP hS hl hc hs
  exact k p e s m args below meth c R Z H locs cells slots arr hN hA hT hE hP hS hl (by omega) (by omega)
end JYR
/-! METHODS WITH A TABLE OF HANDLERS -/
def jx_E : List String := ["java/util/NoSuchElementException", "java/lang/IllegalArgumentException", "java/lang/IllegalStateException", "java/lang/IndexOutOfBoundsException", "java/lang/ArithmeticException"]
/-- none of these exceptions is another of them -/
def jw_NC (U : State) : Prop := ∀ a ∈ jx_E, ∀ b ∈ jx_E, a ≠ b → va_Nc a b U
theorem jw_NC.moved {u U : State} (hvm : u.vm.Alike U.vm) (h : jw_NC u) : jw_NC U := fun a ha b hb hn => va_Nc.moved hvm (h a ha b hb hn)
def jw_PcH (g : jg_G) (As : List jV) (h : jh_H) : Array Value → State → Prop := va_Pc (As.map jv) (fun U => (jh_P g h U.heap ∧ jw_wd g U) ∧ jw_NC U)
abbrev jx_H : Type := List (Nat × Nat × Nat × Nat)
abbrev jx_R : Type := List ((Nat × Nat × Nat × Nat) × String)
def jw_wsH (M : jw_M) (hh : jx_H) : List Cond := Cond.codeWith M.1 M.2.1 M.2.2.1 M.2.2.2.1 hh :: jw_big
def jw_CH (g : jg_G) (d mc ms : Nat) (M : jw_M) (hh : jx_H) (As : List jV) (h : jh_H) (Q : jw_O → jh_H → Prop) : Prop :=
  vx_Met (jg_l g) M.1 (jw_wsH M hh) { frames := d, cells := mc, slots := ms, locals := 40 * d } (jw_PcH g As h) (jw_Qc g Q) (jw_Xc g Q) mc ms (jg_S g)
def jw_TH (hh : jx_H) : Code → Prop := fun c => c.exceptionTable.toList = tableOf hh
theorem jw_blindH {g : jg_G} {As : List jV} {h : jh_H} : FrameBlind (jw_PcH g As h) := by
  intro a U fr mk q
  exact ⟨q.1, ⟨q.2.1.1, jw_wd.same (u := U) (U := U.calling fr mk a) rfl rfl q.2.1.2⟩, jw_NC.moved (u := U) (U := U.calling fr mk a) (Vm.Alike.refl U.vm) q.2.2⟩
section JYH
variable {N : State → Prop} {g : jg_G} {d : Nat} {M : jw_M} {T : Code → Prop} {pc : Nat} {ls ls' : List (Option jV)} {st : List jV} {h : jh_H} {kc ks : Nat} {Q : jw_O → jh_H → Prop}
theorem jw_introH {hh : jx_H} {mc ms : Nat} {As : List jV} (hy : plainName M.1.cls = true) (htb : ∀ pc x, M.2.2.2.2 pc = some x → decode M.2.1 pc = .ok x) (hll : ls.length = M.2.2.1) (hfit : lo_fit As ls) (hg : (jg_l g).stackTraces = false) (k : jy_J jw_NC g d M (jw_TH hh) 0 ls [] h mc ms Q) : jw_CH g d mc ms M hh As h Q := by
  have hlen : (lg_sl (As.map jv)).length ≤ M.2.2.1 := by rw [← hll]; exact lo_fit_len As ls hfit
  refine vx_ofWH (hh := hh) (cc := M.2.1) (maxL := M.2.2.1) (ret := M.2.2.2.1) hy rfl ?_
  intro p e s m args below meth c s₁ B hml hv
  obtain ⟨rfl, ⟨hP, hwd⟩, hnc⟩ := hv
  have hts := atoms_spec (ws := jw_wsH M hh) B.pre
  have htab : jw_TH hh c := vx_table (x := M.1) B (hts _ List.mem_cons_self)
  have hl := lv_entry (As.map jv) (n := M.2.2.1) hlen
  rw [lg_entry_eq]
  generalize (lg_sl (As.map jv) ++ List.replicate (M.2.2.1 - (lg_sl (As.map jv)).length) Slot.unset).toArray = arr at hl ⊢
  refine k p e s m (As.map jv).toArray below meth c _ _ s.heap [] 0 0 arr hnc ⟨B.exec, B.bytes, hml, findClass_of_methodNamed B.named, fun w hw => hts w (List.mem_cons_of_mem _ hw), B.returns, B.notSynchronized, (name_of_methodNamed B.named B.method).1, hwd, Nat.le_refl _, Nat.le_refl _, hg, htb⟩ htab ?_ hP va_S.rf ⟨hl.1, hl.2.1, fun i v q => hl.2.2 (i, jv v) (by have := lo_fit_ok As ls 0 hfit i v q; simpa using this)⟩ (by show 0 + mc ≤ mc; omega) (by show 0 + ms ≤ ms; omega)
  refine ⟨fun v h' hq H locs cells slots pc arr hP hS hc hs hrt => ?_, fun E h' hq => ⟨fun H locs cells slots pc arr rest q ce hP hS hc hs hce hcv hcl hcov => ?_, fun H locs cells slots pc arr rest hP hS harr hc hs hrest hts9 hcov hf hlo => ?_⟩⟩
  · have hend : ∀ t : State, t.heap = H → s.WarmedH t.vm → jw_Qc g Q (As.map jv).toArray s (.returned (v.map jv)) t := fun t ht hW => ⟨v, h', rfl, hq, by rw [ht]; exact hP, hS.F ht⟩
    refine vx_ret (W.widen hc hs ?_)
    rcases hrt with ⟨x, rfl, hd, ty, hret, hn⟩ | ⟨x, rfl, hd, hret⟩ | ⟨r, rfl, hd, ty, hret, hty⟩ | ⟨rfl, hd, hret⟩
    · exact W.zret B.exec B.bytes (B.returns.trans hret) hn hend hS.2.2 hd B.notSynchronized
    · exact W.lret B.exec B.bytes (B.returns.trans hret) hend hS.2.2 hd B.notSynchronized
    · exact W.aret B.exec B.bytes (B.returns.trans hret) hty (va_rf_or r) hend hS.2.2 hd B.notSynchronized
    · exact W.vret B.exec B.bytes (B.returns.trans hret) hend hS.2.2 hd B.notSynchronized
  · exact vx_out hcov B.notSynchronized hce hcv hcl (fun t ht hal => ⟨h', hq, by rw [ht]; exact hP, hS.F ht⟩) hS.2.2 hc hs
  · rcases hts9 with ⟨names, ik, is, ic, n, text, t1, t2, t3, t4, t5, t6, t7, t8, t9, t10, t11, t12, t13⟩ | ⟨names, ik, is, ic, n, text, ix, rx, t1, t2, t3, t4, t5, t6, t7, t8, t9, t10, t11, t12, t13, x0, x1, x2, x5⟩
    · have hbig : ∀ w ∈ jw_big, w.before (As.map jv).toArray s = true := fun w hw => hts w (List.mem_cons_of_mem _ hw)
      obtain ⟨sa, hstr⟩ := jc_con_str hwd.2.2 t7
      refine vx_throwS (is := is) (sa := sa) (text := text) (names := names) B.exec B.bytes hg (findClass_of_methodNamed B.named) t1 t2 (hbig _ t3) (hbig _ t4) hstr (fun w hw => (t5 w hw).elim (hbig w) (fun z => va_Nw.use (jw_nest_tab w z) (hwd.2.2.2.1 w z))) t6 (jc_con_U hwd.2.2) (jc_con_N hwd.2.2) hS harr t8 t9 t10 t11 t12 hcov (by omega) (by omega) hc hs B.notSynchronized (fun t hal hz hq9 => ⟨h', hq, hP.kept hq9, Nat.le_trans hS.1 hz, fun q q1 q2 => by rw [hq9 q (Nat.lt_of_lt_of_le q1 hS.1)]; exact hS.2.1 q q1 q2⟩) hS.2.2 hc hs
    · have hbig : ∀ w ∈ jw_big, w.before (As.map jv).toArray s = true := fun w hw => hts w (List.mem_cons_of_mem _ hw)
      obtain ⟨sa, hstr⟩ := jc_con_str hwd.2.2 t7
      refine vx_throwX (is := is) (sa := sa) (text := text) (names := names) B.exec B.bytes hg x0 x1 x2 x5 (findClass_of_methodNamed B.named) t1 t2 (hbig _ t3) (hbig _ t4) hstr (fun w hw => (t5 w hw).elim (hbig w) (fun z => va_Nw.use (jw_nest_tab w z) (hwd.2.2.2.1 w z))) t6 (jc_con_U hwd.2.2) (jc_con_N hwd.2.2) hS harr t8 t9 t10 t11 t12 hcov (by omega) (by omega) hc hs B.notSynchronized (fun t hal hz hq9 => ⟨h', hq, hP.kept hq9, Nat.le_trans hS.1 hz, fun q q1 q2 => by rw [hq9 q (Nat.lt_of_lt_of_le q1 hS.1)]; exact hS.2.1 q q1 q2⟩) hS.2.2 hc hs
/-- what a handler's row must be -/
def jx_ok (own : String) (pc : Nat) (z : (Nat × Nat × Nat × Nat) × String) : Prop := covers ⟨z.1.1, z.1.2.1, z.1.2.2.1, z.1.2.2.2⟩ pc = true ∧ z.1.2.2.2 ≠ 0 ∧ Cond.classLink own z.1.2.2.2 z.2 ∈ jw_big ∧ z.2 ∈ jx_E ∧ Cond.castable z.2 z.2 ∈ jw_nest
theorem jz_callX {rows : jx_R} {M' : jw_M} {d' n idx mc ms a ci : Nat} {As : List jV} (hd : M.2.2.2.2 pc = some (.invokevirtual idx, 3)) (hm : jl_m M' n) (hk : jl_k M.1.cls idx M'.1) (hin : Cond.instanceMethod M'.1 ∈ jw_big) (hse : Cond.selects M'.1.cls M'.1 M'.1 ∈ jw_big) (hcq : jc_ok ci) (hcn : (jc_q ci).1 = M'.1.cls) (ho : jh_O h a ci) (hn : As.length = n) (hrow : ∀ z ∈ rows, jx_ok M.1.cls pc z)
    (hC : jw_C g d' mc ms M' (.inr (.inr (some a)) :: As) h (fun o h' => match o with | .inl (some x) => jw_J g d M (jw_TH (rows.map (fun z => z.1))) (pc + 3) ls (x :: st) h' (kc - mc) (ks - ms) Q | .inl none => jw_J g d M (jw_TH (rows.map (fun z => z.1))) (pc + 3) ls st h' (kc - mc) (ks - ms) Q | .inr E => ∃ pre q suf, rows = pre ++ (q, E) :: suf ∧ (∀ z ∈ pre, z.2 ≠ E) ∧ ∀ r, jw_J g d M (jw_TH (rows.map (fun z => z.1))) q.2.2.1 ls [.inr (.inr (some r))] h' (kc - mc) (ks - ms) Q))
    (hd1 : d' + 1 ≤ d) (hst0 : (st.map jv_c).sum ≤ 8) (hmc : mc ≤ kc) (hms : ms ≤ ks) : jy_J jw_NC g d M (jw_TH (rows.map (fun z => z.1))) pc ls (As.reverse ++ .inr (.inr (some a)) :: st) h kc ks Q := by
  intro p e s m args below meth c R Z H locs cells slots arr hN hA hT hE hP hS hl hc hs
  obtain ⟨hx, hb, hml, hown, hts, hr, hlk, hnm, hwd, hdf, hdl, hst, hok⟩ := id hA
  obtain ⟨q0, he⟩ := jh_at (g := g) ho.1
  rw [jh_E_O hcq.2.1 ho] at he
  have hrec := va_recv hwd.1 hP.1 hcq.1 he
  rw [hcn] at hrec
  have hpre := jw_pre hA hP hS (.inr (.inr (some a)) :: As)
  have hrm : 2 * 0 + ((st.map jv).map fun v => v.category).sum ≤ 8 := by rw [jv_sum]; omega
  have hrun : ∃ Q' : jw_O → jh_H → Prop, Q' = (fun o h' => match o with | .inl (some x) => jw_J g d M (jw_TH (rows.map (fun z => z.1))) (pc + 3) ls (x :: st) h' (kc - mc) (ks - ms) Q | .inl none => jw_J g d M (jw_TH (rows.map (fun z => z.1))) (pc + 3) ls st h' (kc - mc) (ks - ms) Q | .inr E => ∃ pre q suf, rows = pre ++ (q, E) :: suf ∧ (∀ z ∈ pre, z.2 ≠ E) ∧ ∀ r, jw_J g d M (jw_TH (rows.map (fun z => z.1))) q.2.2.1 ls [.inr (.inr (some r))] h' (kc - mc) (ks - ms) Q) ∧ vx_Run p (jg_l g) e R s m args below meth c H locs cells slots mc ms (F0 m pc arr ((As.reverse ++ .inr (.inr (some a)) :: st).map jv)) (st.map jv) (jw_Qc g Q' (Value.ref a :: As.map jv).toArray) (jw_Xc g Q') (jg_S g) := by
    refine ⟨_, rfl, ?_⟩
    rcases hk with hk | ⟨host, hk⟩
    · exact vx_runV (nL := M.2.2.1) (cc := M.2.1) ⟨hx, hb, hml, hown, hts⟩ hC ⟨jw_cb hts hm hk hd1 hdf hdl, hts _ hin, hts _ hse⟩ ⟨jw_blind, hrec, hpre⟩ rfl ((List.length_map _).trans hn) hl.1 (by simp [jv, va_rf]) (lv_room (by rw [jv_sum]; exact hst0)) (hok _ _ hd) ⟨by omega, by omega⟩
    · exact jn_V (nL := M.2.2.1) (cc := M.2.1) ⟨hx, hb, hml, hown, hts⟩ hC ⟨jw_cn hts hm (hwd.2.2.2.1 _ hk) hd1 hdf hdl, hts _ hin, hts _ hse⟩ ⟨jw_blind, hrec, hpre⟩ rfl ((List.length_map _).trans hn) hl.1 (by simp [jv, va_rf]) (lv_room (by rw [jv_sum]; exact hst0)) (hok _ _ hd) ⟨by omega, by omega⟩
  obtain ⟨Q', eQ, hr⟩ := hrun
  intro T0 hT0 X
  rcases hr T0 hT0 X with ⟨v, st₀, t, T', L, e0, X', hL, e1, e2, hq, go⟩ | ⟨q, st₀, t, T', L, E, ce, e0, X', hL, e1, e2, hq, hce, hcv, hcl, st9⟩
  · obtain ⟨v', h', e3, hq, hP', hF⟩ := hq
    injection e3 with e3
    subst e3
    obtain ⟨-, -, hS'⟩ := vx_keep e0 e1 hS (fun _ _ z => z) (fun _ z => z) hL hF
    have kr : jw_J g d M (jw_TH (rows.map (fun z => z.1))) (pc + 3) ls (v'.toList ++ st) h' (kc - mc) (ks - ms) Q := by
      rw [eQ] at hq
      cases v' <;> exact hq
    obtain ⟨t2, s2, z2⟩ := kr p e s m args below meth c R Z T'.heap (locs ++ L) (cells + mc) (slots + ms) arr hA hT hE (by rw [e1]; exact hP') hS' hl (by omega) (by omega) T' rfl X'
    have e4 : (v'.toList ++ st).map jv = (v'.map jv).toList ++ st.map jv := by cases v' <;> rfl
    rw [e4] at s2
    exact ⟨t2, go t2 s2, z2⟩
  · obtain ⟨h', hq, hP', hF⟩ := hq
    obtain ⟨-, -, hS'⟩ := vx_keep e0 e1 hS (fun _ _ z => z) (fun _ z => z) hL hF
    rw [eQ] at hq
    obtain ⟨pre, qh, suf, er, hpr, kk⟩ := hq
    have hmem : (qh, E) ∈ rows := by rw [er]; simp
    obtain ⟨o1, o2, o3, o4, o5⟩ := hrow _ hmem
    have hT : c.exceptionTable.toList = tableOf (rows.map (fun z => z.1)) := hT
    have hcat := vx_catch (p := p) (l := jg_l g) (e := e) (R := R) (below := below) (meth := meth) (locs := locs ++ L) (cells := cells + mc) (slots := slots + ms) (Q := Z) (H := T'.heap) (pc := pc) (ls := arr) (rest := st.map jv) (q := q) (ce := ce) (E := E) (name := E) (args := args) (s := s) (m := m) (c := c) hown (tableOf (pre.map (fun z => z.1))) ⟨qh.1, qh.2.1, qh.2.2.1, qh.2.2.2⟩ (tableOf (suf.map (fun z => z.1))) (by rw [hT, er]; simp [tableOf])
      (fun z hz => by
        obtain ⟨y, hy, rfl⟩ := List.mem_map.mp hz
        obtain ⟨w, hw, rfl⟩ := List.mem_map.mp hy
        have hwr : w ∈ rows := by rw [er]; exact List.mem_append_left _ hw
        obtain ⟨w1, w2, w3, w4, w5⟩ := hrow w hwr
        exact Or.inr ⟨w2, w.2, hts _ w3, hN E o4 w.2 w4 (fun e => hpr w hw e.symm)⟩) o1 o2 (hts _ o3) (va_Nw.use (jw_nest_tab _ o5) (hwd.2.2.2.1 _ o5)) (by rw [e1]; exact hce) hcv hcl
      (kk q p e s m args below meth c R Z T'.heap (locs ++ L) (cells + mc) (slots + ms) arr hA hT hE (by rw [e1]; exact hP') hS' hl (by omega) (by omega))
    obtain ⟨t2, s2, z2⟩ := hcat T' rfl X'
    exact ⟨t2, st9.trans s2, z2⟩
/-- what a call needs of a callee with a table -/
def jl_mH (M' : jw_M) (hh : jx_H) (n : Nat) : Prop := Cond.codeWith M'.1 M'.2.1 M'.2.2.1 M'.2.2.2.1 hh ∈ jw_big ∧ Cond.initialized M'.1.cls ∈ jw_big ∧ (M'.1.cls ≠ "java/lang/invoke/MethodHandle" ∧ M'.1.cls ≠ "java/lang/invoke/VarHandle" ∧ (parseMethodDescriptor M'.1.desc).map (fun d => d.parameters.length) = some n) ∧ M'.2.2.1 ≤ 21
theorem jz_callH {M' : jw_M} {hh : jx_H} {d' n idx mc ms : Nat} {As : List jV} (hN0 : ∀ s, N s → jw_NC s) (hd : M.2.2.2.2 pc = some (.invokestatic idx, 3)) (hm : jl_mH M' hh n) (hk : Cond.methodLink M.1.cls idx M'.1 ∈ jw_big) (hin : Cond.static M'.1 ∈ jw_big) (hn : As.length = n)
    (hC : jw_CH g d' mc ms M' hh As h (fun o h' => match o with | .inl (some x) => jy_J N g d M T (pc + 3) ls (x :: st) h' (kc - mc) (ks - ms) Q | .inl none => jy_J N g d M T (pc + 3) ls st h' (kc - mc) (ks - ms) Q | .inr E => Q (.inr E) h'))
    (hd1 : d' + 1 ≤ d) (hst0 : (st.map jv_c).sum ≤ 8) (hmc : mc ≤ kc) (hms : ms ≤ ks) (hT : T = jw_T0) : jy_J N g d M T pc ls (As.reverse ++ st) h kc ks Q := by
  subst hT
  intro p e s m args below meth c R Z H locs cells slots arr hN hA hT hE hP hS hl hc hs
  obtain ⟨hx, hb, hml, hown, hts, hr, hlk, hnm, hwd, hdf, hdl, hst, hok⟩ := id hA
  have hpre := jw_pre hA hP hS As
  have hG : GoodIn jw_big (va_wsS M.1.cls idx M'.1 (jw_wsH M' hh)) := by
    intro w hw
    unfold va_wsS jw_wsH at hw
    simp only [List.cons_append, List.nil_append, List.mem_cons] at hw
    rcases hw with rfl | rfl | rfl | rfl | hw
    · exact jw_good hk
    · exact jw_good hin
    · exact jw_good hm.2.1
    · exact jw_good hm.1
    · exact jw_good hw
  have hm4 := hm.2.2.2
  refine jy_after (st := st) (Q' := fun o h' => match o with | .inl (some x) => jy_J N g d M jw_T0 (pc + 3) ls (x :: st) h' (kc - mc) (ks - ms) Q | .inl none => jy_J N g d M jw_T0 (pc + 3) ls st h' (kc - mc) (ks - ms) Q | .inr E => Q (.inr E) h') hN hA hT hE hS hl hc hs hmc hms ?_ (fun v _ z => by cases v <;> exact z) (fun _ _ z => z) (fun c hc x hx => absurd (hc x hx) id) (a := (As.map jv).toArray)
  exact vx_runSX (nL := M.2.2.1) (cc := M.2.1) (hh := hh) ⟨hx, hb, hml, hown, hts⟩ hC (vx_cwSW n hts hG rfl rfl rfl hm.2.2.1 ⟨by show d' + 1 ≤ _; omega, by show 8 + (M'.2.2.1 + 11) + 40 * d' ≤ _; omega⟩) ⟨jw_blindH, fun U hU hW => ⟨(hpre U hU hW).1, (hpre U hU hW).2, jw_NC.moved hW.alike (hN0 s hN)⟩⟩ rfl ((List.length_map _).trans hn) hl.1 (by simp [jv, va_rf]) (lv_room (by rw [jv_sum]; exact hst0)) (hok _ _ hd) ⟨by omega, by omega⟩
end JYH
