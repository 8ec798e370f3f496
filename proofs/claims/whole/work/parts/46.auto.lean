/-! rules with what they read; registers loaded and copied -/
section JWV
variable {g : jg_G} {d : Nat} {M : jw_M} {T : Code → Prop} {pc : Nat} {ls : List (Option jV)} {st : List jV} {h : jh_H} {kc ks : Nat} {Q : jw_O → jh_H → Prop}
theorem js_caldV {a t n : Nat} {i x : Int32} (j : Nat) (hd : M.2.2.2.2 pc = some (.caload, 1)) (ho : jh_A h a t n) (ht : t < jc_an) (hty : jc_at t = .char) (hi : i = nI j) (hj : j < n) (hn : n < 2 ^ 31) (hv : jh_I h a j = x) (kk : jw_J g d M T (pc + 1) ls (.inl x :: st) h kc ks Q) : jw_J g d M T pc ls (.inl i :: .inr (.inr (some a)) :: st) h kc ks Q := js_cald j hd ho ht hty hi hj hn (by rw [hv]; exact kk)
theorem js_ialdV {a t n : Nat} {i x : Int32} (j : Nat) (hd : M.2.2.2.2 pc = some (.iaload, 1)) (ho : jh_A h a t n) (ht : t < jc_an) (hty : jc_at t = .int) (hi : i = nI j) (hj : j < n) (hn : n < 2 ^ 31) (hv : jh_I h a j = x) (kk : jw_J g d M T (pc + 1) ls (.inl x :: st) h kc ks Q) : jw_J g d M T pc ls (.inl i :: .inr (.inr (some a)) :: st) h kc ks Q := js_iald j hd ho ht hty hi hj hn (by rw [hv]; exact kk)
theorem js_zaldV {a t n : Nat} {i x : Int32} (j : Nat) (hd : M.2.2.2.2 pc = some (.baload, 1)) (ho : jh_A h a t n) (ht : t < jc_an) (hty : jc_at t = .boolean) (hi : i = nI j) (hj : j < n) (hn : n < 2 ^ 31) (hv : jh_I h a j = x) (kk : jw_J g d M T (pc + 1) ls (.inl x :: st) h kc ks Q) : jw_J g d M T pc ls (.inl i :: .inr (.inr (some a)) :: st) h kc ks Q := js_zald j hd ho ht hty hi hj hn (by rw [hv]; exact kk)
theorem js_laldV {a t n : Nat} {i : Int32} {x : Int64} (j : Nat) (hd : M.2.2.2.2 pc = some (.laload, 1)) (ho : jh_A h a t n) (ht : t < jc_an) (hty : jc_at t = .long) (hi : i = nI j) (hj : j < n) (hn : n < 2 ^ 31) (hv : jh_G h a j = x) (kk : jw_J g d M T (pc + 1) ls (.inr (.inl x) :: st) h kc ks Q) : jw_J g d M T pc ls (.inl i :: .inr (.inr (some a)) :: st) h kc ks Q := js_lald j hd ho ht hty hi hj hn (by rw [hv]; exact kk)
theorem jw_iaddV {x y z : Int32} (hd : M.2.2.2.2 pc = some (.iadd, 1)) (e : x + y = z) (k : jw_J g d M T (pc + 1) ls (.inl z :: st) h kc ks Q) : jw_J g d M T pc ls (.inl y :: .inl x :: st) h kc ks Q := jw_iadd hd (by rw [e]; exact k)
theorem jw_isubV {x y z : Int32} (hd : M.2.2.2.2 pc = some (.isub, 1)) (e : x - y = z) (k : jw_J g d M T (pc + 1) ls (.inl z :: st) h kc ks Q) : jw_J g d M T pc ls (.inl y :: .inl x :: st) h kc ks Q := jw_isub hd (by rw [e]; exact k)
theorem jw_imulV {x y z : Int32} (hd : M.2.2.2.2 pc = some (.imul, 1)) (e : x * y = z) (k : jw_J g d M T (pc + 1) ls (.inl z :: st) h kc ks Q) : jw_J g d M T pc ls (.inl y :: .inl x :: st) h kc ks Q := jw_imul hd (by rw [e]; exact k)
theorem jw_iandV {x y z : Int32} (hd : M.2.2.2.2 pc = some (.iand, 1)) (e : x &&& y = z) (k : jw_J g d M T (pc + 1) ls (.inl z :: st) h kc ks Q) : jw_J g d M T pc ls (.inl y :: .inl x :: st) h kc ks Q := jw_iand hd (by rw [e]; exact k)
theorem jw_idivV {x y z : Int32} (hd : M.2.2.2.2 pc = some (.idiv, 1)) (hne : ¬ y = 0) (e : x / y = z) (k : jw_J g d M T (pc + 1) ls (.inl z :: st) h kc ks Q) : jw_J g d M T pc ls (.inl y :: .inl x :: st) h kc ks Q := jw_idiv hd hne (by rw [e]; exact k)
theorem jw_iremV {x y z : Int32} (hd : M.2.2.2.2 pc = some (.irem, 1)) (hne : ¬ y = 0) (e : x - x / y * y = z) (k : jw_J g d M T (pc + 1) ls (.inl z :: st) h kc ks Q) : jw_J g d M T pc ls (.inl y :: .inl x :: st) h kc ks Q := jw_irem hd hne (by rw [e]; exact k)
theorem jw_i2cV {x z : Int32} (hd : M.2.2.2.2 pc = some (.i2c, 1)) (e : (x.toUInt32 % 65536).toInt32 = z) (k : jw_J g d M T (pc + 1) ls (.inl z :: st) h kc ks Q) : jw_J g d M T pc ls (.inl x :: st) h kc ks Q := jw_i2c hd (by rw [e]; exact k)
theorem jw_laddV {x y z : Int64} (hd : M.2.2.2.2 pc = some (.ladd, 1)) (e : x + y = z) (k : jw_J g d M T (pc + 1) ls (.inr (.inl z) :: st) h kc ks Q) : jw_J g d M T pc ls (.inr (.inl y) :: .inr (.inl x) :: st) h kc ks Q := jw_ladd hd (by rw [e]; exact k)
theorem jw_lsubV {x y z : Int64} (hd : M.2.2.2.2 pc = some (.lsub, 1)) (e : x - y = z) (k : jw_J g d M T (pc + 1) ls (.inr (.inl z) :: st) h kc ks Q) : jw_J g d M T pc ls (.inr (.inl y) :: .inr (.inl x) :: st) h kc ks Q := jw_lsub hd (by rw [e]; exact k)
theorem jw_lmulV {x y z : Int64} (hd : M.2.2.2.2 pc = some (.lmul, 1)) (e : x * y = z) (k : jw_J g d M T (pc + 1) ls (.inr (.inl z) :: st) h kc ks Q) : jw_J g d M T pc ls (.inr (.inl y) :: .inr (.inl x) :: st) h kc ks Q := jw_lmul hd (by rw [e]; exact k)
end JWV
theorem nI_c {c : Nat} (hc : c < 65536) : ((nI c).toUInt32 % 65536).toInt32 = nI c := by
  apply Int32.toBitVec_inj.mp
  apply BitVec.eq_of_toNat_eq
  simp [nI]
  omega
theorem nI_n {c : Nat} (hc : c < 65536) : vp_nar .char (nI c) = nI c := nI_c hc
/-- a row is not another -/
theorem mo_rs {h h0 : jh_H} {mo : Nat} {ar : Nat → Nat} (hm : mo_ok h0 mo ar) (i j : Nat) {k t n k' t' n' : Nat} (hi : mo_T[i]? = some (k, t, n)) (hj : mo_T[j]? = some (k', t', n')) (hk : k ≠ k') {x y : Nat} {v : Int32} : jh_I (jh_sI h (ar k') y v) (ar k) x = jh_I h (ar k) x := jh_u_a _ _ _ _ (mo_ne hm i j hi hj hk)
def rg_F (r k j : Nat) : Prop := ((k = 538 ∨ k = 539 ∨ k = 540) ∧ j = r) ∨ (k = 541 ∧ r * 400 ≤ j ∧ j < r * 400 + 400)
def no_G (_k : Nat) : Prop := False
theorem rg_F_in {r k j : Nat} (h : rg_F r k j) : ∃ x ∈ mo_T, x.1 = k := by
  rcases h with ⟨rfl | rfl | rfl, -⟩ | ⟨rfl, -⟩
  · exact ⟨(538, 1, 18), by decide, rfl⟩
  · exact ⟨(539, 1, 18), by decide, rfl⟩
  · exact ⟨(540, 1, 18), by decide, rfl⟩
  · exact ⟨(541, 0, 7200), by decide, rfl⟩
theorem rg_F_k {r k j : Nat} (h : rg_F r k j) : 538 ≤ k ∧ k ≤ 541 := by
  rcases h with ⟨rfl | rfl | rfl, -⟩ | ⟨rfl, -⟩ <;> omega
/-- a register that isn't written keeps its value -/
theorem mo_R.fx {h h' h0 : jh_H} {mo : Nat} {ar : Nat → Nat} {F : Nat → Nat → Prop} {G : Nat → Prop} {n : Nat} {D : sd_D} {s : Nat} {v : sv_T} (hm : mo_ok h0 mo ar) (hf : mo_fx h h' mo ar F G) (hF : ∀ k j, F k j → (∃ x ∈ mo_T, x.1 = k) ∧ ¬ rg_F s k j) (hs : s < 18) (hv : mo_R h ar n D s v) : mo_R h' ar n D s v := by
  have e0 : jh_I h' (ar 538) s = jh_I h (ar 538) s := mo_fx.rd hm hf 19 rfl (fun k hk => ⟨fun e => (hF k s hk).2 (Or.inl ⟨Or.inl e, rfl⟩), (hF k s hk).1⟩)
  have e1 : jh_I h' (ar 539) s = jh_I h (ar 539) s := mo_fx.rd hm hf 20 rfl (fun k hk => ⟨fun e => (hF k s hk).2 (Or.inl ⟨Or.inr (Or.inl e), rfl⟩), (hF k s hk).1⟩)
  have e2 : jh_I h' (ar 540) s = jh_I h (ar 540) s := mo_fx.rd hm hf 21 rfl (fun k hk => ⟨fun e => (hF k s hk).2 (Or.inl ⟨Or.inr (Or.inr e), rfl⟩), (hF k s hk).1⟩)
  have e3 : ∀ j, j < 400 → jh_I h' (ar 541) (s * 400 + j) = jh_I h (ar 541) (s * 400 + j) := fun j hj => mo_fx.rd hm hf 22 rfl (fun k hk => ⟨fun e => (hF k _ hk).2 (Or.inr ⟨e, by omega, by omega⟩), (hF k _ hk).1⟩)
  rcases v with _ | v | L | x
  · exact e0.trans hv
  · exact ⟨e0.trans hv.1, e1.trans hv.2⟩
  · exact ⟨e0.trans hv.1, e2.trans hv.2.1, hv.2.2.1, fun j hj => ⟨(e3 j (by have := hv.2.2.1; omega)).trans (hv.2.2.2 j hj).1, (hv.2.2.2 j hj).2⟩⟩
  · exact ⟨e0.trans hv.1, e1.trans hv.2.1, hv.2.2⟩
/-- what DATA x is, as a value -/
def sv_of (D : sd_D) (x : Nat) : sv_T := if sd_k D x = 0 then some (.inl (sd_v D x)) else if sd_k D x = 1 then some (.inr (.inl ((List.range (sd_c D x)).map (sd_t D x)))) else some (.inr (.inr x))
theorem getD_rm {f : Nat → Nat} {n j : Nat} (h : j < n) : ((List.range n).map f).getD j 0 = f j := by
  rw [List.getD_eq_getElem?_getD, List.getElem?_map, List.getElem?_range h]; rfl
set_option maxHeartbeats 4000000 in
set_option maxRecDepth 100000 in
theorem cm_load {g : jg_G} (hg : (jg_l g).stackTraces = false) {h : jh_H} {mo : Nat} {ar : Nat → Nat} {n r x : Nat} {D : sd_D} {Q : jw_O → jh_H → Prop} (hm : mo_ok h mo ar) (hD : mo_D h ar n D) (hr : r < 18) (hx : x < n)
    (hq : ∀ h', mo_fx h h' mo ar (rg_F r) no_G → mo_R h' ar n D r (sv_of D x) → Q (.inl none) h') : jw_C g 1 0 0 m_M_load [.inr (.inr (some mo)), .inl (nI r), .inl (nI x)] h Q := by
  refine jw_intro (ls := [some (.inr (.inr (some mo))), some (.inl (nI r)), some (.inl (nI x)), none]) (by decide) k_M_load rfl (by simp [lo_fit, jv_c]) hg ?_
  have hn60 := hD.1
  obtain ⟨d1, d2, d3, d4, d5, d6, d7⟩ := hD.2 x hx
  rw [sv_of] at hq
  refine jw_aload_n rfl rfl ?_
  refine jw_gr rfl g_M_92 hm.1 (mo_r hm 19 rfl) ?_
  refine jw_iload_n rfl rfl ?_
  refine jw_aload_n rfl rfl ?_
  refine jw_gr rfl g_M_35 hm.1 (mo_r hm 1 rfl) ?_
  refine jw_iload_n rfl rfl ?_
  refine js_ialdV (x) rfl (mo_a hm 1 rfl) (by decide) (by rfl) rfl (by omega) (by decide) (d1) ?_
  refine js_iast (r) rfl (mo_a hm 19 rfl) (by decide) (by rfl) rfl (by omega) (by decide) ?_
  refine jw_aload_n rfl rfl ?_
  refine jw_gr rfl g_M_95 (mo_sI hm).1 (mo_r (mo_sI hm) 20 rfl) ?_
  refine jw_iload_n rfl rfl ?_
  refine jw_aload_n rfl rfl ?_
  refine jw_gr rfl g_M_35 (mo_sI hm).1 (mo_r (mo_sI hm) 1 rfl) ?_
  refine jw_iload_n rfl rfl ?_
  refine js_ialdV (x) rfl (mo_a (mo_sI hm) 1 rfl) (by decide) (by rfl) rfl (by omega) (by decide) ((mo_rs hm 1 19 rfl rfl (by decide)).trans d1) ?_
  refine jw_if_ne 35 rfl rfl (fun z => ?_) (fun z => ?_)
  rotate_left
  · have h0 : sd_k D x = 0 := (nI_eq (b := 0) (by omega) (by omega)).mp z
    refine jw_aload_n rfl rfl ?_
    refine jw_gr rfl g_M_39 (mo_sI hm).1 (mo_r (mo_sI hm) 2 rfl) ?_
    refine jw_iload_n rfl rfl ?_
    refine js_ialdV (x) rfl (mo_a (mo_sI hm) 2 rfl) (by decide) (by rfl) rfl (by omega) (by decide) ((mo_rs hm 2 19 rfl rfl (by decide)).trans d3) ?_
    refine jw_goto 36 rfl rfl ?_
    refine js_iast (r) rfl (mo_a (mo_sI hm) 20 rfl) (by decide) (by rfl) rfl (by omega) (by decide) ?_
    refine jw_aload_n rfl rfl ?_
    refine jw_gr rfl g_M_35 (mo_sI (mo_sI hm)).1 (mo_r (mo_sI (mo_sI hm)) 1 rfl) ?_
    refine jw_iload_n rfl rfl ?_
    refine js_ialdV (x) rfl (mo_a (mo_sI (mo_sI hm)) 1 rfl) (by decide) (by rfl) rfl (by omega) (by decide) (((mo_rs hm 1 20 rfl rfl (by decide)).trans (mo_rs hm 1 19 rfl rfl (by decide))).trans d1) ?_
    refine js_iconst (x := 1) rfl rfl ?_
    refine jw_icmp_eq 48 rfl rfl (fun z => absurd z (fun z => absurd ((nI_eq (b := 1) (by omega) (by omega)).mp z) (by omega))) (fun _ => ?_)
    refine jw_return rfl rfl ?_
    refine hq _ (mo_fx.sI (mo_fx.sI mo_fx.rf (Or.inl ⟨Or.inl rfl, rfl⟩)) (Or.inl ⟨Or.inr (Or.inl rfl), rfl⟩)) ?_
    rw [if_pos h0]
    exact ⟨(mo_rs hm 19 20 rfl rfl (by decide)).trans ((jh_u_s _ _ _ _).trans (by rw [h0]; rfl)), jh_u_s _ _ _ _⟩
  have h0 : sd_k D x ≠ 0 := fun e => z (by rw [e]; rfl)
  have d4 := d4 h0
  refine jw_iload_n rfl rfl ?_
  refine js_iast (r) rfl (mo_a (mo_sI hm) 20 rfl) (by decide) (by rfl) rfl (by omega) (by decide) ?_
  refine jw_aload_n rfl rfl ?_
  refine jw_gr rfl g_M_35 (mo_sI (mo_sI hm)).1 (mo_r (mo_sI (mo_sI hm)) 1 rfl) ?_
  refine jw_iload_n rfl rfl ?_
  refine js_ialdV (x) rfl (mo_a (mo_sI (mo_sI hm)) 1 rfl) (by decide) (by rfl) rfl (by omega) (by decide) (((mo_rs hm 1 20 rfl rfl (by decide)).trans (mo_rs hm 1 19 rfl rfl (by decide))).trans d1) ?_
  refine js_iconst (x := 1) rfl rfl ?_
  have f1 : mo_fx h (jh_sI (jh_sI h (ar 538) r (nI (sd_k D x))) (ar 539) r (nI x)) mo ar (rg_F r) no_G := mo_fx.sI (mo_fx.sI mo_fx.rf (Or.inl ⟨Or.inl rfl, rfl⟩)) (Or.inl ⟨Or.inr (Or.inl rfl), rfl⟩)
  refine jw_icmp_eq 48 rfl rfl (fun z1 => ?_) (fun z1 => ?_)
  rotate_left
  · have h1 : sd_k D x ≠ 1 := fun e => z1 (by rw [e]; rfl)
    refine jw_return rfl rfl ?_
    refine hq _ f1 ?_
    rw [if_neg h0, if_neg h1]
    exact ⟨(mo_rs hm 19 20 rfl rfl (by decide)).trans (jh_u_s _ _ _ _), jh_u_s _ _ _ _, hx, by omega⟩
  have h1 : sd_k D x = 1 := (nI_eq (b := 1) (by omega) (by omega)).mp z1
  have hc := (d5 h1).1
  refine jw_aload_n rfl rfl ?_
  refine jw_gr rfl g_M_98 (mo_sI (mo_sI hm)).1 (mo_r (mo_sI (mo_sI hm)) 21 rfl) ?_
  refine jw_iload_n rfl rfl ?_
  refine jw_aload_n rfl rfl ?_
  refine jw_gr rfl g_M_39 (mo_sI (mo_sI hm)).1 (mo_r (mo_sI (mo_sI hm)) 2 rfl) ?_
  refine jw_iload_n rfl rfl ?_
  refine js_ialdV (x) rfl (mo_a (mo_sI (mo_sI hm)) 2 rfl) (by decide) (by rfl) rfl (by omega) (by decide) (((mo_rs hm 2 20 rfl rfl (by decide)).trans (mo_rs hm 2 19 rfl rfl (by decide))).trans (d3.trans d4)) ?_
  refine js_iast (r) rfl (mo_a (mo_sI (mo_sI hm)) 21 rfl) (by decide) (by rfl) rfl (by omega) (by decide) ?_
  refine js_iconst (x := 0) rfl rfl ?_
  refine js_istore_n rfl rfl (by decide) rfl ?_
  have f2 := mo_fx.sI (v := nI (sd_c D x)) f1 (k := 540) (j := r) (Or.inl ⟨Or.inr (Or.inr rfl), rfl⟩)
  have g0 : jh_I (jh_sI (jh_sI (jh_sI h (ar 538) r (nI (sd_k D x))) (ar 539) r (nI x)) (ar 540) r (nI (sd_c D x))) (ar 538) r = 1 := (mo_rs hm 19 21 rfl rfl (by decide)).trans ((mo_rs hm 19 20 rfl rfl (by decide)).trans ((jh_u_s _ _ _ _).trans (by rw [h1]; rfl)))
  have g2 : jh_I (jh_sI (jh_sI (jh_sI h (ar 538) r (nI (sd_k D x))) (ar 539) r (nI x)) (ar 540) r (nI (sd_c D x))) (ar 540) r = nI (sd_c D x) := jh_u_s _ _ _ _
  generalize jh_sI (jh_sI (jh_sI h (ar 538) r (nI (sd_k D x))) (ar 539) r (nI x)) (ar 540) r (nI (sd_c D x)) = h2 at f2 g0 g2
  have loop : ∀ m j h3, j + m = sd_c D x → mo_fx h h3 mo ar (rg_F r) no_G → jh_I h3 (ar 538) r = 1 → jh_I h3 (ar 540) r = nI (sd_c D x) → (∀ i, i < j → jh_I h3 (ar 541) (r * 400 + i) = nI (sd_t D x i)) → jw_J g 1 m_M_load jw_T0 62 [some (.inr (.inr (some mo))), some (.inl (nI r)), some (.inl (nI x)), some (.inl (nI j))] [] h3 0 0 Q := by
    intro m
    induction m with
    | zero =>
      intro j h3 hj f3 a0 a2 ac
      have hm3 := mo_fx.ok f3 hm
      refine jw_iload_n rfl rfl ?_
      refine jw_aload_n rfl rfl ?_
      refine jw_gr rfl g_M_98 hm3.1 (mo_r hm3 21 rfl) ?_
      refine jw_iload_n rfl rfl ?_
      refine js_ialdV (r) rfl (mo_a hm3 21 rfl) (by decide) (by rfl) rfl (by omega) (by decide) (a2) ?_
      refine jw_icmp_ge 97 rfl rfl (fun _ => ?_) (fun z => absurd ((nI_leI (by omega) (by omega)).mpr (by omega)) z)
      refine jw_return rfl rfl ?_
      refine hq h3 f3 ?_
      rw [if_neg h0, if_pos h1]
      refine ⟨a0, by rw [List.length_map, List.length_range]; exact a2, by rw [List.length_map, List.length_range]; omega, fun i hi => ?_⟩
      rw [List.length_map, List.length_range] at hi
      rw [getD_rm hi]
      exact ⟨ac i (by omega), ((d5 h1).2 i hi).2⟩
    | succ m ih =>
      intro j h3 hj f3 a0 a2 ac
      have hm3 := mo_fx.ok f3 hm
      have hD3 := mo_D.fx hm f3 (fun k j z => ⟨Or.inr (by have := rg_F_k z; omega), rg_F_in z⟩) hD
      have htj := ((d5 h1).2 j (by omega)).2
      refine jw_iload_n rfl rfl ?_
      refine jw_aload_n rfl rfl ?_
      refine jw_gr rfl g_M_98 hm3.1 (mo_r hm3 21 rfl) ?_
      refine jw_iload_n rfl rfl ?_
      refine js_ialdV (r) rfl (mo_a hm3 21 rfl) (by decide) (by rfl) rfl (by omega) (by decide) (a2) ?_
      refine jw_icmp_ge 97 rfl rfl (fun z => absurd z (fun z => absurd ((nI_leI (by omega) (by omega)).mp z) (by omega))) (fun _ => ?_)
      refine jw_aload_n rfl rfl ?_
      refine jw_gr rfl g_M_101 hm3.1 (mo_r hm3 22 rfl) ?_
      refine jw_iload_n rfl rfl ?_
      refine js_sipush (x := 400) rfl rfl ?_
      refine jw_imulV rfl (pk_mul r 400) ?_
      refine jw_iload_n rfl rfl ?_
      refine jw_iaddV rfl (nI_add _ _) ?_
      refine jw_aload_n rfl rfl ?_
      refine jw_iload_n rfl rfl ?_
      refine jw_iload_n rfl rfl ?_
      refine js_call (As := [.inl (nI x), .inl (nI j)]) rfl l_M_dataLetter c_M_282 i_M_dataLetter s_M_dataLetter jc_o8 rfl hm3.1 rfl (cm_dataLetter hg hm3 hD3 hx h1 (by omega) ?_) (by decide) (Nat.le_of_ble_eq_true rfl) (by omega) (by omega) rfl
      refine jw_i2cV rfl (nI_c (by omega)) ?_
      refine js_cast (r * 400 + j) rfl (mo_a hm3 22 rfl) (by decide) (by rfl) rfl (by omega) (by decide) ?_
      refine js_iinc rfl rfl (nI_1 j) rfl (by decide) rfl ?_
      refine jw_goto 62 rfl rfl ?_
      refine ih (j + 1) _ (by omega) (mo_fx.sI f3 (Or.inr ⟨rfl, by omega, by omega⟩)) ((mo_rs hm 19 22 rfl rfl (by decide)).trans a0) ((mo_rs hm 21 22 rfl rfl (by decide)).trans a2) (fun i hi => ?_)
      by_cases z : i = j
      · subst z; exact (jh_u_s _ _ _ _).trans (nI_n (by omega))
      · exact (jh_u_k _ _ _ _ (by omega)).trans (ac i (by omega))
  exact loop (sd_c D x) 0 h2 (by omega) f2 g0 g2 (fun i hi => absurd hi (by omega))

