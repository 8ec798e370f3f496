/-! SHORTER RULES: keys as numbers, locals as lists written out -/
def lo_b1 (ls : List (Option jV)) (i : Nat) : Bool := match i with
  | 0 => true
  | j + 1 => match ls[j]? with
    | some (some (.inr (.inl _))) => false
    | _ => true
theorem lo_ok {ls : List (Option jV)} {i : Nat} (h : lo_b1 ls i = true) : lo_c1 ls i := by
  intro j w e hw
  subst e
  rcases w with x | x | r
  · rfl
  · simp [lo_b1, hw] at h
  · rfl
def jl_gi (own : String) (idx ci n : Nat) : Prop := ∃ k, jl_f own idx ci k ∧ jc_so (jc_ty ci k) = 0 ∧ 64 * ci + k = n
def jl_gr (own : String) (idx ci n : Nat) : Prop := ∃ k, jl_f own idx ci k ∧ jc_so (jc_ty ci k) = 2 ∧ 64 * ci + k = n
def jl_pi (M : jw_M) (idx ci n : Nat) : Prop := ∃ k, jl_f M.1.cls idx ci k ∧ jl_fin M ci k ∧ jl_w M idx ci k ∧ jc_ty ci k = .int ∧ 64 * ci + k = n
def jl_pz (M : jw_M) (idx ci n : Nat) : Prop := ∃ k, jl_f M.1.cls idx ci k ∧ jl_fin M ci k ∧ jl_w M idx ci k ∧ jc_ty ci k = .boolean ∧ 64 * ci + k = n
def jl_pr (M : jw_M) (idx ci n : Nat) : Prop := ∃ k, jl_f M.1.cls idx ci k ∧ jl_fin M ci k ∧ jl_w M idx ci k ∧ ((∃ C, jc_ty ci k = .object C) ∨ ∃ t, jc_ty ci k = .array t) ∧ 64 * ci + k = n
section JWS
variable {g : jg_G} {d : Nat} {M : jw_M} {T : Code → Prop} {pc : Nat} {ls ls' : List (Option jV)} {st : List jV} {h : jh_H} {kc ks : Nat} {Q : jw_O → jh_H → Prop}
theorem jw_gi {idx ci n a : Nat} {x : Int32} (hd : M.2.2.2.2 pc = some (.getfield idx, 3)) (hf : jl_gi M.1.cls idx ci n) (ho : jh_O h a ci) (hv : jh_i h a n = x) (kk : jw_J g d M T (pc + 3) ls (.inl x :: st) h kc ks Q) : jw_J g d M T pc ls (.inr (.inr (some a)) :: st) h kc ks Q := by
  obtain ⟨k, hf, ht, rfl⟩ := hf
  subst hv
  exact jw_geti hd hf ht ho kk
theorem jw_gr {idx ci n a : Nat} {r : Option Nat} (hd : M.2.2.2.2 pc = some (.getfield idx, 3)) (hf : jl_gr M.1.cls idx ci n) (ho : jh_O h a ci) (hv : jh_r h a n = r) (kk : jw_J g d M T (pc + 3) ls (.inr (.inr r) :: st) h kc ks Q) : jw_J g d M T pc ls (.inr (.inr (some a)) :: st) h kc ks Q := by
  obtain ⟨k, hf, ht, rfl⟩ := hf
  subst hv
  exact jw_getr hd hf ht ho kk
theorem jw_pi {idx ci n a : Nat} {x : Int32} (hd : M.2.2.2.2 pc = some (.putfield idx, 3)) (hf : jl_pi M idx ci n) (ho : jh_O h a ci) (kk : jw_J g d M T (pc + 3) ls st (jh_si h a n x) kc ks Q) : jw_J g d M T pc ls (.inl x :: .inr (.inr (some a)) :: st) h kc ks Q := by
  obtain ⟨k, hf, h1, h2, ht, rfl⟩ := hf
  exact jw_puti hd hf h1 h2 (by rw [ht]; rfl) (by rw [ht]; rfl) (by rw [ht]; rfl) ho kk
theorem jw_pz {idx ci n a : Nat} {x : Int32} (hd : M.2.2.2.2 pc = some (.putfield idx, 3)) (hf : jl_pz M idx ci n) (hx : x = 0 ∨ x = 1) (ho : jh_O h a ci) (kk : jw_J g d M T (pc + 3) ls st (jh_si h a n x) kc ks Q) : jw_J g d M T pc ls (.inl x :: .inr (.inr (some a)) :: st) h kc ks Q := by
  obtain ⟨k, hf, h1, h2, ht, rfl⟩ := hf
  rcases hx with rfl | rfl
  · exact jw_puti hd hf h1 h2 (by rw [ht]; rfl) (by rw [ht]; rfl) (by rw [ht]; rfl) ho kk
  · exact jw_puti hd hf h1 h2 (by rw [ht]; rfl) (by rw [ht]; rfl) (by rw [ht]; rfl) ho kk
theorem jw_pr {idx ci n a : Nat} {r : Option Nat} (hd : M.2.2.2.2 pc = some (.putfield idx, 3)) (hf : jl_pr M idx ci n) (ho : jh_O h a ci) (kk : jw_J g d M T (pc + 3) ls st (jh_sr h a n r) kc ks Q) : jw_J g d M T pc ls (.inr (.inr r) :: .inr (.inr (some a)) :: st) h kc ks Q := by
  obtain ⟨k, hf, h1, h2, ht, rfl⟩ := hf
  rcases ht with ⟨C, ht⟩ | ⟨t, ht⟩
  · exact jw_putr hd hf h1 h2 (by rw [ht]; rfl) (fun r => by rw [ht]; cases r <;> rfl) (fun r => by rw [ht]; cases r <;> rfl) ho kk
  · exact jw_putr hd hf h1 h2 (by rw [ht]; rfl) (fun r => by rw [ht]; cases r <;> rfl) (fun r => by rw [ht]; cases r <;> rfl) ho kk
theorem js_alen {a t n : Nat} (hd : M.2.2.2.2 pc = some (.arraylength, 1)) (ho : jh_A h a t n) (ht : t < jc_an) (kk : jw_J g d M T (pc + 1) ls (.inl (nI n) :: st) h kc ks Q) : jw_J g d M T pc ls (.inr (.inr (some a)) :: st) h kc ks Q := jw_alen hd ht ho kk
theorem js_cald {a t n : Nat} {i : Int32} (j : Nat) (hd : M.2.2.2.2 pc = some (.caload, 1)) (ho : jh_A h a t n) (ht : t < jc_an) (hty : jc_at t = .char) (hi : i = nI j) (hj : j < n) (hn : n < 2 ^ 31) (kk : jw_J g d M T (pc + 1) ls (.inl (jh_I h a j) :: st) h kc ks Q) : jw_J g d M T pc ls (.inl i :: .inr (.inr (some a)) :: st) h kc ks Q := jw_cald j hd ht hty ho hi hj hn kk
theorem js_iald {a t n : Nat} {i : Int32} (j : Nat) (hd : M.2.2.2.2 pc = some (.iaload, 1)) (ho : jh_A h a t n) (ht : t < jc_an) (hty : jc_at t = .int) (hi : i = nI j) (hj : j < n) (hn : n < 2 ^ 31) (kk : jw_J g d M T (pc + 1) ls (.inl (jh_I h a j) :: st) h kc ks Q) : jw_J g d M T pc ls (.inl i :: .inr (.inr (some a)) :: st) h kc ks Q := jw_iald j hd ht hty ho hi hj hn kk
theorem js_lald {a t n : Nat} {i : Int32} (j : Nat) (hd : M.2.2.2.2 pc = some (.laload, 1)) (ho : jh_A h a t n) (ht : t < jc_an) (hty : jc_at t = .long) (hi : i = nI j) (hj : j < n) (hn : n < 2 ^ 31) (kk : jw_J g d M T (pc + 1) ls (.inr (.inl (jh_G h a j)) :: st) h kc ks Q) : jw_J g d M T pc ls (.inl i :: .inr (.inr (some a)) :: st) h kc ks Q := jw_lald j hd ht hty ho hi hj hn kk
theorem js_aald {a t n : Nat} {i : Int32} {C : String} {r : Option Nat} (j : Nat) (hd : M.2.2.2.2 pc = some (.aaload, 1)) (ho : jh_A h a t n) (ht : t < jc_an) (hty : jc_at t = .object C) (hi : i = nI j) (hj : j < n) (hn : n < 2 ^ 31) (hv : jh_R h a j = r) (kk : jw_J g d M T (pc + 1) ls (.inr (.inr r) :: st) h kc ks Q) : jw_J g d M T pc ls (.inl i :: .inr (.inr (some a)) :: st) h kc ks Q := jw_aald j hd ht hty ho hi hj hn (by rw [hv]; exact kk)
theorem js_cast {a t n : Nat} {i x : Int32} (j : Nat) (hd : M.2.2.2.2 pc = some (.castore, 1)) (ho : jh_A h a t n) (ht : t < jc_an) (hty : jc_at t = .char) (hi : i = nI j) (hj : j < n) (hn : n < 2 ^ 31) (kk : jw_J g d M T (pc + 1) ls st (jh_sI h a j (vp_nar .char x)) kc ks Q) : jw_J g d M T pc ls (.inl x :: .inl i :: .inr (.inr (some a)) :: st) h kc ks Q := jw_cast j hd ht hty ho hi hj hn kk
theorem js_iast {a t n : Nat} {i x : Int32} (j : Nat) (hd : M.2.2.2.2 pc = some (.iastore, 1)) (ho : jh_A h a t n) (ht : t < jc_an) (hty : jc_at t = .int) (hi : i = nI j) (hj : j < n) (hn : n < 2 ^ 31) (kk : jw_J g d M T (pc + 1) ls st (jh_sI h a j x) kc ks Q) : jw_J g d M T pc ls (.inl x :: .inl i :: .inr (.inr (some a)) :: st) h kc ks Q := jw_iast j hd ht hty ho hi hj hn kk
theorem js_last {a t n : Nat} {i : Int32} {x : Int64} (j : Nat) (hd : M.2.2.2.2 pc = some (.lastore, 1)) (ho : jh_A h a t n) (ht : t < jc_an) (hty : jc_at t = .long) (hi : i = nI j) (hj : j < n) (hn : n < 2 ^ 31) (kk : jw_J g d M T (pc + 1) ls st (jh_sG h a j x) kc ks Q) : jw_J g d M T pc ls (.inr (.inl x) :: .inl i :: .inr (.inr (some a)) :: st) h kc ks Q := jw_last j hd ht hty ho hi hj hn kk
theorem js_aast {a t n v ci : Nat} {i : Int32} (j : Nat) (hd : M.2.2.2.2 pc = some (.aastore, 1)) (ho : jh_A h a t n) (hv : jh_O h v ci) (ht : t < jc_an) (hcq : jc_ok ci) (hty : jc_at t = .object (jc_q ci).1) (hi : i = nI j) (hj : j < n) (hn : n < 2 ^ 31) (kk : jw_J g d M T (pc + 1) ls st (jh_sR h a j (some v)) kc ks Q) : jw_J g d M T pc ls (.inr (.inr (some v)) :: .inl i :: .inr (.inr (some a)) :: st) h kc ks Q := jw_aast j hd ht hcq hty ho hv hi hj hn kk
theorem js_istore_n {k : Fin 4} {x : Int32} (hd : M.2.2.2.2 pc = some (.istore_n k, 1)) (hp : lo_b1 ls (k : Nat) = true) (hn : (k : Nat) < M.2.2.1) (hs : ls.set (k : Nat) (some (.inl x)) = ls') (k : jw_J g d M T (pc + 1) ls' st h kc ks Q) : jw_J g d M T pc ls ((.inl x) :: st) h kc ks Q := jw_istore_n hd (lo_ok hp) hn (by rw [hs]; exact k)
theorem js_astore_n {k : Fin 4} {r : Option Nat} (hd : M.2.2.2.2 pc = some (.astore_n k, 1)) (hp : lo_b1 ls (k : Nat) = true) (hn : (k : Nat) < M.2.2.1) (hs : ls.set (k : Nat) (some (.inr (.inr r))) = ls') (k : jw_J g d M T (pc + 1) ls' st h kc ks Q) : jw_J g d M T pc ls ((.inr (.inr r)) :: st) h kc ks Q := jw_astore_n hd (lo_ok hp) hn (by rw [hs]; exact k)
theorem js_lstore_n {k : Fin 4} {x : Int64} (hd : M.2.2.2.2 pc = some (.lstore_n k, 1)) (hp : lo_b1 ls (k : Nat) = true) (hn : (k : Nat) + 1 < M.2.2.1) (hs : (ls.set ((k : Nat) + 1) none).set (k : Nat) (some (.inr (.inl x))) = ls') (k : jw_J g d M T (pc + 1) ls' st h kc ks Q) : jw_J g d M T pc ls (.inr (.inl x) :: st) h kc ks Q := jw_lstore_n hd (lo_ok hp) hn (by rw [hs]; exact k)
theorem js_istore {i : Nat} {x : Int32} (hd : M.2.2.2.2 pc = some (.istore i, 2)) (hp : lo_b1 ls i = true) (hn : i < M.2.2.1) (hs : ls.set i (some (.inl x)) = ls') (k : jw_J g d M T (pc + 2) ls' st h kc ks Q) : jw_J g d M T pc ls ((.inl x) :: st) h kc ks Q := jw_istore hd (lo_ok hp) hn (by rw [hs]; exact k)
theorem js_astore {i : Nat} {r : Option Nat} (hd : M.2.2.2.2 pc = some (.astore i, 2)) (hp : lo_b1 ls i = true) (hn : i < M.2.2.1) (hs : ls.set i (some (.inr (.inr r))) = ls') (k : jw_J g d M T (pc + 2) ls' st h kc ks Q) : jw_J g d M T pc ls ((.inr (.inr r)) :: st) h kc ks Q := jw_astore hd (lo_ok hp) hn (by rw [hs]; exact k)
theorem js_lstore {i : Nat} {x : Int64} (hd : M.2.2.2.2 pc = some (.lstore i, 2)) (hp : lo_b1 ls i = true) (hn : i + 1 < M.2.2.1) (hs : (ls.set (i + 1) none).set i (some (.inr (.inl x))) = ls') (k : jw_J g d M T (pc + 2) ls' st h kc ks Q) : jw_J g d M T pc ls (.inr (.inl x) :: st) h kc ks Q := jw_lstore hd (lo_ok hp) hn (by rw [hs]; exact k)
theorem js_iinc {i : Nat} {n : Int} {x y : Int32} (hd : M.2.2.2.2 pc = some (.iinc i n, 3)) (hv : ls[i]? = some (some (.inl x))) (hy : x + Int32.ofInt n = y) (hp : lo_b1 ls i = true) (hn : i < M.2.2.1) (hs : ls.set i (some (.inl y)) = ls') (k : jw_J g d M T (pc + 3) ls' st h kc ks Q) : jw_J g d M T pc ls st h kc ks Q := jw_iinc hd hv (lo_ok hp) hn (by rw [hy, hs]; exact k)
theorem js_iconst {n : Int} {x : Int32} (hd : M.2.2.2.2 pc = some (.iconst n, 1)) (hx : Int32.ofInt n = x) (k : jw_J g d M T (pc + 1) ls (.inl x :: st) h kc ks Q) : jw_J g d M T pc ls st h kc ks Q := jw_iconst hd (by rw [hx]; exact k)
theorem js_bipush {n : Int} {x : Int32} (hd : M.2.2.2.2 pc = some (.bipush n, 2)) (hx : (Int8.ofInt n).toInt32 = x) (k : jw_J g d M T (pc + 2) ls (.inl x :: st) h kc ks Q) : jw_J g d M T pc ls st h kc ks Q := jw_bipush hd (by rw [hx]; exact k)
theorem js_sipush {n : Int} {x : Int32} (hd : M.2.2.2.2 pc = some (.sipush n, 3)) (hx : (Int16.ofInt n).toInt32 = x) (k : jw_J g d M T (pc + 3) ls (.inl x :: st) h kc ks Q) : jw_J g d M T pc ls st h kc ks Q := jw_sipush hd (by rw [hx]; exact k)
end JWS
