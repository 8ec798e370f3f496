/-! THE LAW: its code, its helpers with their handlers -/
theorem k_L_type : ∀ pc x, m_L_type.2.2.2.2 pc = some x → decode m_L_type.2.1 pc = .ok x := jt_k (by decide +kernel)
theorem k_L_number : ∀ pc x, m_L_number.2.2.2.2 pc = some x → decode m_L_number.2.1 pc = .ok x := jt_k (by decide +kernel)
theorem k_L_text : ∀ pc x, m_L_text.2.2.2.2 pc = some x → decode m_L_text.2.1 pc = .ok x := jt_k (by decide +kernel)
theorem k_L_list : ∀ pc x, m_L_list.2.2.2.2 pc = some x → decode m_L_list.2.1 pc = .ok x := jt_k (by decide +kernel)
theorem k_L_map : ∀ pc x, m_L_map.2.2.2.2 pc = some x → decode m_L_map.2.1 pc = .ok x := jt_k (by decide +kernel)
theorem k_L_add : ∀ pc x, m_L_add.2.2.2.2 pc = some x → decode m_L_add.2.1 pc = .ok x := jt_k (by decide +kernel)
theorem k_L_put : ∀ pc x, m_L_put.2.2.2.2 pc = some x → decode m_L_put.2.1 pc = .ok x := jt_k (by decide +kernel)
theorem k_L_compile : ∀ pc x, m_L_compile.2.2.2.2 pc = some x → decode m_L_compile.2.1 pc = .ok x := jt_k (by decide +kernel)
theorem k_L_render : ∀ pc x, m_L_render.2.2.2.2 pc = some x → decode m_L_render.2.1 pc = .ok x := jt_k (by decide +kernel)
theorem k_L_at : ∀ pc x, m_L_at.2.2.2.2 pc = some x → decode m_L_at.2.1 pc = .ok x := jt_k (by decide +kernel)
theorem k_L_kind : ∀ pc x, m_L_kind.2.2.2.2 pc = some x → decode m_L_kind.2.1 pc = .ok x := jt_k (by decide +kernel)
theorem k_L_size : ∀ pc x, m_L_size.2.2.2.2 pc = some x → decode m_L_size.2.1 pc = .ok x := jt_k (by decide +kernel)
def jt_s (L : List (Nat × List (Instr × Nat))) (pc : Nat) : Option (Instr × Nat) := match L with
  | [] => none
  | q :: r => if q.1 ≤ pc then jt_b q.2 (pc - q.1) else jt_s r pc
theorem jt_sk {cc : ByteArray} : ∀ L : List (Nat × List (Instr × Nat)), (∀ q ∈ L, jt_c cc q.2 q.1 = true) → ∀ pc x, jt_s L pc = some x → decode cc pc = .ok x := by
  intro L
  induction L with
  | nil => intro _ pc x hx; cases hx
  | cons q r ih =>
    intro h pc x hx
    rw [jt_s] at hx
    by_cases c : q.1 ≤ pc
    · rw [if_pos c] at hx
      have h2 := jt_ok q.2 q.1 (h q List.mem_cons_self) (pc - q.1) x hx
      rwa [show q.1 + (pc - q.1) = pc by omega] at h2
    · rw [if_neg c] at hx
      exact ih (fun z hz => h z (List.mem_cons_of_mem _ hz)) pc x hx
def jl_B0 : List (Instr × Nat) := [(.new 8, 3), (.dup, 1), (.invokespecial 58, 3), (.astore_n 1, 1), (.new 59, 3), (.dup, 1), (.invokespecial 61, 3), (.astore_n 2, 1), (.iconst 1, 1), (.newarray .long, 2), (.astore_n 3, 1), (.iconst 0, 1), (.istore 4, 2), (.iload 4, 2), (.aload_n 0, 1), (.arraylength, 1), (.iconst 3, 1), (.isub, 1), (.if_icmp .gt 795, 3), (.aload_n 0, 1), (.iload 4, 2), (.iaload, 1), (.bipush 15, 2), (.iand, 1), (.tableswitch 779 0 13 #[69, 125, 181, 225, 269, 313, 381, 449, 505, 518, 586, 642, 698, 754], 69), (.aload_n 1, 1), (.aload_n 0, 1), (.iload 4, 2), (.iconst 1, 1), (.iadd, 1)]
theorem jl_C0 : jt_c code jl_B0 0 = true := by decide +kernel
def jl_B1 : List (Instr × Nat) := [(.iaload, 1), (.aload_n 3, 1), (.invokestatic 62, 3), (.istore 5, 2), (.aload_n 2, 1), (.aload_n 0, 1), (.iload 4, 2), (.iconst 1, 1), (.iadd, 1), (.iaload, 1), (.invokevirtual 67, 3), (.istore 6, 2), (.aload_n 2, 1), (.invokevirtual 68, 3), (.iload 5, 2), (.if_icmp .eq 5, 3), (.iconst 0, 1), (.ireturn, 1), (.iload 5, 2), (.ifCond .ne 15, 3), (.aload_n 3, 1), (.iconst 0, 1), (.laload, 1), (.iload 6, 2), (.i2l, 1), (.lcmp, 1), (.ifCond .eq 5, 3), (.iconst 0, 1), (.ireturn, 1), (.goto 657, 3)]
theorem jl_C1 : jt_c code jl_B1 114 = true := by decide +kernel
def jl_B2 : List (Instr × Nat) := [(.aload_n 1, 1), (.aload_n 0, 1), (.iload 4, 2), (.iconst 1, 1), (.iadd, 1), (.iaload, 1), (.aload_n 3, 1), (.invokestatic 71, 3), (.istore 5, 2), (.aload_n 2, 1), (.aload_n 0, 1), (.iload 4, 2), (.iconst 1, 1), (.iadd, 1), (.iaload, 1), (.invokevirtual 73, 3), (.istore 6, 2), (.aload_n 2, 1), (.invokevirtual 68, 3), (.iload 5, 2), (.if_icmp .eq 5, 3), (.iconst 0, 1), (.ireturn, 1), (.iload 5, 2), (.ifCond .ne 15, 3), (.aload_n 3, 1), (.iconst 0, 1), (.laload, 1), (.iload 6, 2), (.i2l, 1)]
theorem jl_C2 : jt_c code jl_B2 164 = true := by decide +kernel
def jl_B3 : List (Instr × Nat) := [(.lcmp, 1), (.ifCond .eq 5, 3), (.iconst 0, 1), (.ireturn, 1), (.goto 601, 3), (.aload_n 1, 1), (.aload_n 3, 1), (.invokestatic 74, 3), (.istore 5, 2), (.aload_n 2, 1), (.invokevirtual 77, 3), (.istore 6, 2), (.aload_n 2, 1), (.invokevirtual 68, 3), (.iload 5, 2), (.if_icmp .eq 5, 3), (.iconst 0, 1), (.ireturn, 1), (.iload 5, 2), (.ifCond .ne 15, 3), (.aload_n 3, 1), (.iconst 0, 1), (.laload, 1), (.iload 6, 2), (.i2l, 1), (.lcmp, 1), (.ifCond .eq 5, 3), (.iconst 0, 1), (.ireturn, 1), (.goto 557, 3)]
theorem jl_C3 : jt_c code jl_B3 211 = true := by decide +kernel
def jl_B4 : List (Instr × Nat) := [(.aload_n 1, 1), (.aload_n 3, 1), (.invokestatic 78, 3), (.istore 5, 2), (.aload_n 2, 1), (.invokevirtual 80, 3), (.istore 6, 2), (.aload_n 2, 1), (.invokevirtual 68, 3), (.iload 5, 2), (.if_icmp .eq 5, 3), (.iconst 0, 1), (.ireturn, 1), (.iload 5, 2), (.ifCond .ne 15, 3), (.aload_n 3, 1), (.iconst 0, 1), (.laload, 1), (.iload 6, 2), (.i2l, 1), (.lcmp, 1), (.ifCond .eq 5, 3), (.iconst 0, 1), (.ireturn, 1), (.goto 513, 3), (.aload_n 1, 1), (.aload_n 3, 1), (.invokestatic 81, 3), (.istore 5, 2), (.aload_n 2, 1)]
theorem jl_C4 : jt_c code jl_B4 264 = true := by decide +kernel
def jl_B5 : List (Instr × Nat) := [(.invokevirtual 83, 3), (.istore 6, 2), (.aload_n 2, 1), (.invokevirtual 68, 3), (.iload 5, 2), (.if_icmp .eq 5, 3), (.iconst 0, 1), (.ireturn, 1), (.iload 5, 2), (.ifCond .ne 15, 3), (.aload_n 3, 1), (.iconst 0, 1), (.laload, 1), (.iload 6, 2), (.i2l, 1), (.lcmp, 1), (.ifCond .eq 5, 3), (.iconst 0, 1), (.ireturn, 1), (.goto 469, 3), (.aload_n 1, 1), (.aload_n 0, 1), (.iload 4, 2), (.iconst 1, 1), (.iadd, 1), (.iaload, 1), (.aload_n 0, 1), (.iload 4, 2), (.iconst 2, 1), (.iadd, 1)]
theorem jl_C5 : jt_c code jl_B5 316 = true := by decide +kernel
def jl_B6 : List (Instr × Nat) := [(.iaload, 1), (.aload_n 3, 1), (.invokestatic 84, 3), (.istore 5, 2), (.aload_n 2, 1), (.aload_n 0, 1), (.iload 4, 2), (.iconst 1, 1), (.iadd, 1), (.iaload, 1), (.aload_n 0, 1), (.iload 4, 2), (.iconst 2, 1), (.iadd, 1), (.iaload, 1), (.invokevirtual 87, 3), (.istore 6, 2), (.aload_n 2, 1), (.invokevirtual 68, 3), (.iload 5, 2), (.if_icmp .eq 5, 3), (.iconst 0, 1), (.ireturn, 1), (.iload 5, 2), (.ifCond .ne 15, 3), (.aload_n 3, 1), (.iconst 0, 1), (.laload, 1), (.iload 6, 2), (.i2l, 1)]
theorem jl_C6 : jt_c code jl_B6 364 = true := by decide +kernel
def jl_B7 : List (Instr × Nat) := [(.lcmp, 1), (.ifCond .eq 5, 3), (.iconst 0, 1), (.ireturn, 1), (.goto 401, 3), (.aload_n 1, 1), (.aload_n 0, 1), (.iload 4, 2), (.iconst 1, 1), (.iadd, 1), (.iaload, 1), (.aload_n 0, 1), (.iload 4, 2), (.iconst 2, 1), (.iadd, 1), (.iaload, 1), (.aload_n 3, 1), (.invokestatic 88, 3), (.istore 5, 2), (.aload_n 2, 1), (.aload_n 0, 1), (.iload 4, 2), (.iconst 1, 1), (.iadd, 1), (.iaload, 1), (.aload_n 0, 1), (.iload 4, 2), (.iconst 2, 1), (.iadd, 1), (.iaload, 1)]
theorem jl_C7 : jt_c code jl_B7 411 = true := by decide +kernel
def jl_B8 : List (Instr × Nat) := [(.invokevirtual 90, 3), (.istore 6, 2), (.aload_n 2, 1), (.invokevirtual 68, 3), (.iload 5, 2), (.if_icmp .eq 5, 3), (.iconst 0, 1), (.ireturn, 1), (.iload 5, 2), (.ifCond .ne 15, 3), (.aload_n 3, 1), (.iconst 0, 1), (.laload, 1), (.iload 6, 2), (.i2l, 1), (.lcmp, 1), (.ifCond .eq 5, 3), (.iconst 0, 1), (.ireturn, 1), (.goto 333, 3), (.aload_n 1, 1), (.aload_n 0, 1), (.iload 4, 2), (.iconst 1, 1), (.iadd, 1), (.iaload, 1), (.aload_n 3, 1), (.invokestatic 91, 3), (.istore 5, 2), (.aload_n 2, 1)]
theorem jl_C8 : jt_c code jl_B8 452 = true := by decide +kernel
def jl_B9 : List (Instr × Nat) := [(.aload_n 0, 1), (.iload 4, 2), (.iconst 1, 1), (.iadd, 1), (.iaload, 1), (.invokevirtual 93, 3), (.istore 6, 2), (.aload_n 2, 1), (.invokevirtual 68, 3), (.iload 5, 2), (.if_icmp .eq 5, 3), (.iconst 0, 1), (.ireturn, 1), (.iload 5, 2), (.ifCond .ne 15, 3), (.aload_n 3, 1), (.iconst 0, 1), (.laload, 1), (.iload 6, 2), (.i2l, 1), (.lcmp, 1), (.ifCond .eq 5, 3), (.iconst 0, 1), (.ireturn, 1), (.goto 277, 3), (.aload_n 1, 1), (.invokevirtual 94, 3), (.aload_n 2, 1), (.invokevirtual 97, 3), (.if_icmp .eq 266, 3)]
theorem jl_C9 : jt_c code jl_B9 502 = true := by decide +kernel
def jl_B10 : List (Instr × Nat) := [(.iconst 0, 1), (.ireturn, 1), (.aload_n 1, 1), (.aload_n 0, 1), (.iload 4, 2), (.iconst 1, 1), (.iadd, 1), (.iaload, 1), (.aload_n 0, 1), (.iload 4, 2), (.iconst 2, 1), (.iadd, 1), (.iaload, 1), (.aload_n 3, 1), (.invokestatic 98, 3), (.istore 5, 2), (.aload_n 2, 1), (.aload_n 0, 1), (.iload 4, 2), (.iconst 1, 1), (.iadd, 1), (.iaload, 1), (.aload_n 0, 1), (.iload 4, 2), (.iconst 2, 1), (.iadd, 1), (.iaload, 1), (.invokevirtual 100, 3), (.istore 6, 2), (.aload_n 2, 1)]
theorem jl_C10 : jt_c code jl_B10 555 = true := by decide +kernel
def jl_B11 : List (Instr × Nat) := [(.invokevirtual 68, 3), (.iload 5, 2), (.if_icmp .eq 5, 3), (.iconst 0, 1), (.ireturn, 1), (.iload 5, 2), (.ifCond .ne 15, 3), (.aload_n 3, 1), (.iconst 0, 1), (.laload, 1), (.iload 6, 2), (.i2l, 1), (.lcmp, 1), (.ifCond .eq 5, 3), (.iconst 0, 1), (.ireturn, 1), (.goto 196, 3), (.aload_n 1, 1), (.aload_n 0, 1), (.iload 4, 2), (.iconst 1, 1), (.iadd, 1), (.iaload, 1), (.aload_n 3, 1), (.invokestatic 101, 3), (.istore 5, 2), (.aload_n 2, 1), (.aload_n 0, 1), (.iload 4, 2), (.iconst 1, 1)]
theorem jl_C11 : jt_c code jl_B11 595 = true := by decide +kernel
def jl_B12 : List (Instr × Nat) := [(.iadd, 1), (.iaload, 1), (.invokevirtual 103, 3), (.istore 6, 2), (.aload_n 2, 1), (.invokevirtual 68, 3), (.iload 5, 2), (.if_icmp .eq 5, 3), (.iconst 0, 1), (.ireturn, 1), (.iload 5, 2), (.ifCond .ne 15, 3), (.aload_n 3, 1), (.iconst 0, 1), (.laload, 1), (.iload 6, 2), (.i2l, 1), (.lcmp, 1), (.ifCond .eq 5, 3), (.iconst 0, 1), (.ireturn, 1), (.goto 140, 3), (.aload_n 1, 1), (.aload_n 0, 1), (.iload 4, 2), (.iconst 1, 1), (.iadd, 1), (.iaload, 1), (.aload_n 3, 1), (.invokestatic 104, 3)]
theorem jl_C12 : jt_c code jl_B12 643 = true := by decide +kernel
def jl_B13 : List (Instr × Nat) := [(.istore 5, 2), (.aload_n 2, 1), (.aload_n 0, 1), (.iload 4, 2), (.iconst 1, 1), (.iadd, 1), (.iaload, 1), (.invokevirtual 106, 3), (.istore 6, 2), (.aload_n 2, 1), (.invokevirtual 68, 3), (.iload 5, 2), (.if_icmp .eq 5, 3), (.iconst 0, 1), (.ireturn, 1), (.iload 5, 2), (.ifCond .ne 15, 3), (.aload_n 3, 1), (.iconst 0, 1), (.laload, 1), (.iload 6, 2), (.i2l, 1), (.lcmp, 1), (.ifCond .eq 5, 3), (.iconst 0, 1), (.ireturn, 1), (.goto 84, 3), (.aload_n 1, 1), (.aload_n 0, 1), (.iload 4, 2)]
theorem jl_C13 : jt_c code jl_B13 692 = true := by decide +kernel
def jl_B14 : List (Instr × Nat) := [(.iconst 1, 1), (.iadd, 1), (.iaload, 1), (.aload_n 3, 1), (.invokestatic 107, 3), (.istore 5, 2), (.aload_n 2, 1), (.aload_n 0, 1), (.iload 4, 2), (.iconst 1, 1), (.iadd, 1), (.iaload, 1), (.invokevirtual 109, 3), (.istore 6, 2), (.aload_n 2, 1), (.invokevirtual 68, 3), (.iload 5, 2), (.if_icmp .eq 5, 3), (.iconst 0, 1), (.ireturn, 1), (.iload 5, 2), (.ifCond .ne 15, 3), (.aload_n 3, 1), (.iconst 0, 1), (.laload, 1), (.iload 6, 2), (.i2l, 1), (.lcmp, 1), (.ifCond .eq 5, 3), (.iconst 0, 1)]
theorem jl_C14 : jt_c code jl_B14 741 = true := by decide +kernel
def jl_B15 : List (Instr × Nat) := [(.ireturn, 1), (.goto 28, 3), (.aload_n 1, 1), (.aload_n 0, 1), (.iload 4, 2), (.iconst 1, 1), (.iadd, 1), (.iaload, 1), (.invokevirtual 110, 3), (.aload_n 2, 1), (.aload_n 0, 1), (.iload 4, 2), (.iconst 1, 1), (.iadd, 1), (.iaload, 1), (.invokevirtual 113, 3), (.if_icmp .eq 5, 3), (.iconst 0, 1), (.ireturn, 1), (.iinc 4 3, 3), (.goto (-798), 3), (.iconst 1, 1), (.ireturn, 1)]
theorem jl_C15 : jt_c code jl_B15 789 = true := by decide +kernel
def jl_L : List (Nat × List (Instr × Nat)) := [(789, jl_B15), (741, jl_B14), (692, jl_B13), (643, jl_B12), (595, jl_B11), (555, jl_B10), (502, jl_B9), (452, jl_B8), (411, jl_B7), (364, jl_B6), (316, jl_B5), (264, jl_B4), (211, jl_B3), (164, jl_B2), (114, jl_B1), (0, jl_B0)]
theorem jl_ok : ∀ q ∈ jl_L, jt_c code q.2 q.1 = true := List.forall_mem_cons.mpr ⟨jl_C15, List.forall_mem_cons.mpr ⟨jl_C14, List.forall_mem_cons.mpr ⟨jl_C13, List.forall_mem_cons.mpr ⟨jl_C12, List.forall_mem_cons.mpr ⟨jl_C11, List.forall_mem_cons.mpr ⟨jl_C10, List.forall_mem_cons.mpr ⟨jl_C9, List.forall_mem_cons.mpr ⟨jl_C8, List.forall_mem_cons.mpr ⟨jl_C7, List.forall_mem_cons.mpr ⟨jl_C6, List.forall_mem_cons.mpr ⟨jl_C5, List.forall_mem_cons.mpr ⟨jl_C4, List.forall_mem_cons.mpr ⟨jl_C3, List.forall_mem_cons.mpr ⟨jl_C2, List.forall_mem_cons.mpr ⟨jl_C1, List.forall_mem_cons.mpr ⟨jl_C0, fun _ h => absurd h List.not_mem_nil⟩⟩⟩⟩⟩⟩⟩⟩⟩⟩⟩⟩⟩⟩⟩⟩
def m_law : jw_M := (x, code, 7, ret, jt_s jl_L)
theorem k_law : ∀ pc x, m_law.2.2.2.2 pc = some x → decode m_law.2.1 pc = .ok x := jt_sk jl_L jl_ok
theorem jx_in0 : "java/util/NoSuchElementException" ∈ jx_E := List.mem_of_getElem? (i := 0) rfl
theorem jx_c0 : Cond.castable "java/util/NoSuchElementException" "java/util/NoSuchElementException" ∈ jw_nest := List.mem_append_right _ (List.mem_append_right _ (List.mem_append_left _ (List.mem_map.mpr ⟨("java/util/NoSuchElementException", "java/util/NoSuchElementException"), List.mem_of_getElem? (i := 2) rfl, rfl⟩)))
theorem jx_in1 : "java/lang/IllegalArgumentException" ∈ jx_E := List.mem_of_getElem? (i := 1) rfl
theorem jx_c1 : Cond.castable "java/lang/IllegalArgumentException" "java/lang/IllegalArgumentException" ∈ jw_nest := List.mem_append_right _ (List.mem_append_right _ (List.mem_append_left _ (List.mem_map.mpr ⟨("java/lang/IllegalArgumentException", "java/lang/IllegalArgumentException"), List.mem_of_getElem? (i := 0) rfl, rfl⟩)))
theorem jx_in2 : "java/lang/IllegalStateException" ∈ jx_E := List.mem_of_getElem? (i := 2) rfl
theorem jx_c2 : Cond.castable "java/lang/IllegalStateException" "java/lang/IllegalStateException" ∈ jw_nest := List.mem_append_right _ (List.mem_append_right _ (List.mem_append_left _ (List.mem_map.mpr ⟨("java/lang/IllegalStateException", "java/lang/IllegalStateException"), List.mem_of_getElem? (i := 1) rfl, rfl⟩)))
theorem jx_in3 : "java/lang/IndexOutOfBoundsException" ∈ jx_E := List.mem_of_getElem? (i := 3) rfl
theorem jx_c3 : Cond.castable "java/lang/IndexOutOfBoundsException" "java/lang/IndexOutOfBoundsException" ∈ jw_nest := List.mem_append_right _ (List.mem_append_right _ (List.mem_append_left _ (List.mem_map.mpr ⟨("java/lang/IndexOutOfBoundsException", "java/lang/IndexOutOfBoundsException"), List.mem_of_getElem? (i := 3) rfl, rfl⟩)))
theorem jx_in4 : "java/lang/ArithmeticException" ∈ jx_E := List.mem_of_getElem? (i := 4) rfl
theorem jx_c4 : Cond.castable "java/lang/ArithmeticException" "java/lang/ArithmeticException" ∈ jw_nest := List.mem_append_right _ (List.mem_append_right _ (List.mem_append_left _ (List.mem_map.mpr ⟨("java/lang/ArithmeticException", "java/lang/ArithmeticException"), List.mem_of_getElem? (i := 5) rfl, rfl⟩)))
def jx_type : jx_R := [((0, 9, 12, 13), "java/lang/IllegalArgumentException"), ((0, 9, 15, 15), "java/lang/IllegalStateException")]
theorem l_L_type : jl_mH m_L_type (jx_type.map (fun z => z.1)) 3 := ⟨jt_i1 193 rfl rfl, jt_i1 0 rfl rfl, ⟨by decide, by decide, by decide +kernel⟩, by decide⟩
theorem jx_type_ok : ∀ z ∈ jx_type, jx_ok "TemplateEngineLaw" 4 z := List.forall_mem_cons.mpr ⟨⟨by decide, by decide, n_L_13, jx_in1, jx_c1⟩, List.forall_mem_cons.mpr ⟨⟨by decide, by decide, n_L_15, jx_in2, jx_c2⟩, fun _ h => absurd h List.not_mem_nil⟩⟩
theorem cH_62 : Cond.methodLink "TemplateEngineLaw" 62 m_L_type.1 ∈ jw_big := jt_i1 191 rfl rfl
def jx_number : jx_R := [((0, 9, 12, 15), "java/lang/IllegalStateException")]
theorem l_L_number : jl_mH m_L_number (jx_number.map (fun z => z.1)) 3 := ⟨jt_i2 55 rfl rfl, jt_i1 0 rfl rfl, ⟨by decide, by decide, by decide +kernel⟩, by decide⟩
theorem jx_number_ok : ∀ z ∈ jx_number, jx_ok "TemplateEngineLaw" 4 z := List.forall_mem_cons.mpr ⟨⟨by decide, by decide, n_L_15, jx_in2, jx_c2⟩, fun _ h => absurd h List.not_mem_nil⟩
theorem cH_71 : Cond.methodLink "TemplateEngineLaw" 71 m_L_number.1 ∈ jw_big := jt_i2 53 rfl rfl
def jx_text : jx_R := [((0, 8, 11, 15), "java/lang/IllegalStateException")]
theorem l_L_text : jl_mH m_L_text (jx_text.map (fun z => z.1)) 2 := ⟨jt_i2 68 rfl rfl, jt_i1 0 rfl rfl, ⟨by decide, by decide, by decide +kernel⟩, by decide⟩
theorem jx_text_ok : ∀ z ∈ jx_text, jx_ok "TemplateEngineLaw" 3 z := List.forall_mem_cons.mpr ⟨⟨by decide, by decide, n_L_15, jx_in2, jx_c2⟩, fun _ h => absurd h List.not_mem_nil⟩
theorem cH_74 : Cond.methodLink "TemplateEngineLaw" 74 m_L_text.1 ∈ jw_big := jt_i2 66 rfl rfl
def jx_list : jx_R := [((0, 8, 11, 15), "java/lang/IllegalStateException")]
theorem l_L_list : jl_mH m_L_list (jx_list.map (fun z => z.1)) 2 := ⟨jt_i2 90 rfl rfl, jt_i1 0 rfl rfl, ⟨by decide, by decide, by decide +kernel⟩, by decide⟩
theorem jx_list_ok : ∀ z ∈ jx_list, jx_ok "TemplateEngineLaw" 3 z := List.forall_mem_cons.mpr ⟨⟨by decide, by decide, n_L_15, jx_in2, jx_c2⟩, fun _ h => absurd h List.not_mem_nil⟩
theorem cH_78 : Cond.methodLink "TemplateEngineLaw" 78 m_L_list.1 ∈ jw_big := jt_i2 88 rfl rfl
def jx_map : jx_R := [((0, 8, 11, 15), "java/lang/IllegalStateException")]
theorem l_L_map : jl_mH m_L_map (jx_map.map (fun z => z.1)) 2 := ⟨jt_i2 101 rfl rfl, jt_i1 0 rfl rfl, ⟨by decide, by decide, by decide +kernel⟩, by decide⟩
theorem jx_map_ok : ∀ z ∈ jx_map, jx_ok "TemplateEngineLaw" 3 z := List.forall_mem_cons.mpr ⟨⟨by decide, by decide, n_L_15, jx_in2, jx_c2⟩, fun _ h => absurd h List.not_mem_nil⟩
theorem cH_81 : Cond.methodLink "TemplateEngineLaw" 81 m_L_map.1 ∈ jw_big := jt_i2 99 rfl rfl
def jx_add : jx_R := [((0, 10, 13, 34), "java/util/NoSuchElementException"), ((0, 10, 17, 13), "java/lang/IllegalArgumentException"), ((0, 10, 21, 15), "java/lang/IllegalStateException")]
theorem l_L_add : jl_mH m_L_add (jx_add.map (fun z => z.1)) 4 := ⟨jt_i2 108 rfl rfl, jt_i1 0 rfl rfl, ⟨by decide, by decide, by decide +kernel⟩, by decide⟩
theorem jx_add_ok : ∀ z ∈ jx_add, jx_ok "TemplateEngineLaw" 5 z := List.forall_mem_cons.mpr ⟨⟨by decide, by decide, n_L_34, jx_in0, jx_c0⟩, List.forall_mem_cons.mpr ⟨⟨by decide, by decide, n_L_13, jx_in1, jx_c1⟩, List.forall_mem_cons.mpr ⟨⟨by decide, by decide, n_L_15, jx_in2, jx_c2⟩, fun _ h => absurd h List.not_mem_nil⟩⟩⟩
theorem cH_84 : Cond.methodLink "TemplateEngineLaw" 84 m_L_add.1 ∈ jw_big := jt_i2 106 rfl rfl
def jx_put : jx_R := [((0, 10, 13, 34), "java/util/NoSuchElementException"), ((0, 10, 17, 13), "java/lang/IllegalArgumentException"), ((0, 10, 21, 15), "java/lang/IllegalStateException")]
theorem l_L_put : jl_mH m_L_put (jx_put.map (fun z => z.1)) 4 := ⟨jt_i2 151 rfl rfl, jt_i1 0 rfl rfl, ⟨by decide, by decide, by decide +kernel⟩, by decide⟩
theorem jx_put_ok : ∀ z ∈ jx_put, jx_ok "TemplateEngineLaw" 5 z := List.forall_mem_cons.mpr ⟨⟨by decide, by decide, n_L_34, jx_in0, jx_c0⟩, List.forall_mem_cons.mpr ⟨⟨by decide, by decide, n_L_13, jx_in1, jx_c1⟩, List.forall_mem_cons.mpr ⟨⟨by decide, by decide, n_L_15, jx_in2, jx_c2⟩, fun _ h => absurd h List.not_mem_nil⟩⟩⟩
theorem cH_88 : Cond.methodLink "TemplateEngineLaw" 88 m_L_put.1 ∈ jw_big := jt_i2 149 rfl rfl
def jx_compile : jx_R := [((0, 9, 12, 42), "java/lang/IndexOutOfBoundsException"), ((0, 9, 15, 13), "java/lang/IllegalArgumentException")]
theorem l_L_compile : jl_mH m_L_compile (jx_compile.map (fun z => z.1)) 3 := ⟨jt_i2 169 rfl rfl, jt_i1 0 rfl rfl, ⟨by decide, by decide, by decide +kernel⟩, by decide⟩
theorem jx_compile_ok : ∀ z ∈ jx_compile, jx_ok "TemplateEngineLaw" 4 z := List.forall_mem_cons.mpr ⟨⟨by decide, by decide, n_L_42, jx_in3, jx_c3⟩, List.forall_mem_cons.mpr ⟨⟨by decide, by decide, n_L_13, jx_in1, jx_c1⟩, fun _ h => absurd h List.not_mem_nil⟩⟩
theorem cH_91 : Cond.methodLink "TemplateEngineLaw" 91 m_L_compile.1 ∈ jw_big := jt_i2 167 rfl rfl
def jx_render : jx_R := [((0, 10, 13, 42), "java/lang/IndexOutOfBoundsException"), ((0, 10, 17, 34), "java/util/NoSuchElementException"), ((0, 10, 21, 47), "java/lang/ArithmeticException"), ((0, 10, 25, 15), "java/lang/IllegalStateException")]
theorem l_L_render : jl_mH m_L_render (jx_render.map (fun z => z.1)) 4 := ⟨jt_i4 63 rfl rfl, jt_i1 0 rfl rfl, ⟨by decide, by decide, by decide +kernel⟩, by decide⟩
theorem jx_render_ok : ∀ z ∈ jx_render, jx_ok "TemplateEngineLaw" 5 z := List.forall_mem_cons.mpr ⟨⟨by decide, by decide, n_L_42, jx_in3, jx_c3⟩, List.forall_mem_cons.mpr ⟨⟨by decide, by decide, n_L_34, jx_in0, jx_c0⟩, List.forall_mem_cons.mpr ⟨⟨by decide, by decide, n_L_47, jx_in4, jx_c4⟩, List.forall_mem_cons.mpr ⟨⟨by decide, by decide, n_L_15, jx_in2, jx_c2⟩, fun _ h => absurd h List.not_mem_nil⟩⟩⟩⟩
theorem cH_98 : Cond.methodLink "TemplateEngineLaw" 98 m_L_render.1 ∈ jw_big := jt_i4 61 rfl rfl
def jx_at : jx_R := [((0, 9, 12, 42), "java/lang/IndexOutOfBoundsException")]
theorem l_L_at : jl_mH m_L_at (jx_at.map (fun z => z.1)) 3 := ⟨jt_i4 214 rfl rfl, jt_i1 0 rfl rfl, ⟨by decide, by decide, by decide +kernel⟩, by decide⟩
theorem jx_at_ok : ∀ z ∈ jx_at, jx_ok "TemplateEngineLaw" 4 z := List.forall_mem_cons.mpr ⟨⟨by decide, by decide, n_L_42, jx_in3, jx_c3⟩, fun _ h => absurd h List.not_mem_nil⟩
theorem cH_101 : Cond.methodLink "TemplateEngineLaw" 101 m_L_at.1 ∈ jw_big := jt_i4 212 rfl rfl
def jx_kind : jx_R := [((0, 9, 12, 34), "java/util/NoSuchElementException")]
theorem l_L_kind : jl_mH m_L_kind (jx_kind.map (fun z => z.1)) 3 := ⟨jt_i4 222 rfl rfl, jt_i1 0 rfl rfl, ⟨by decide, by decide, by decide +kernel⟩, by decide⟩
theorem jx_kind_ok : ∀ z ∈ jx_kind, jx_ok "TemplateEngineLaw" 4 z := List.forall_mem_cons.mpr ⟨⟨by decide, by decide, n_L_34, jx_in0, jx_c0⟩, fun _ h => absurd h List.not_mem_nil⟩
theorem cH_104 : Cond.methodLink "TemplateEngineLaw" 104 m_L_kind.1 ∈ jw_big := jt_i4 220 rfl rfl
def jx_size : jx_R := [((0, 9, 12, 34), "java/util/NoSuchElementException")]
theorem l_L_size : jl_mH m_L_size (jx_size.map (fun z => z.1)) 3 := ⟨jt_i4 229 rfl rfl, jt_i1 0 rfl rfl, ⟨by decide, by decide, by decide +kernel⟩, by decide⟩
theorem jx_size_ok : ∀ z ∈ jx_size, jx_ok "TemplateEngineLaw" 4 z := List.forall_mem_cons.mpr ⟨⟨by decide, by decide, n_L_34, jx_in0, jx_c0⟩, fun _ h => absurd h List.not_mem_nil⟩
theorem cH_107 : Cond.methodLink "TemplateEngineLaw" 107 m_L_size.1 ∈ jw_big := jt_i4 227 rfl rfl
